section
-- ===== PART A: goes FIRST, ahead of the names: the tables' words, and 'selects' of the private methods out of them =====
/-- a private method of a class that the tables say can be made, by its rows of tables_1 -/
def lw_okq (q : MethodName × Nat) : Prop := (q.1.cls ≠ "java/lang/invoke/MethodHandle" ∧ q.1.cls ≠ "java/lang/invoke/VarHandle") ∧ Cond.instantiable q.1.cls q.2 ∈ tables_1 ∧ Cond.privateMethod q.1 ∈ tables_1 ∧ Cond.instanceMethod q.1 ∈ tables_1
theorem lw_p0 : lw_okq (⟨"ValueDesk", "entityOf", "(I)LValueDesk$Entity;"⟩, 9) := ⟨⟨by decide +kernel, by decide +kernel⟩, List.mem_of_getElem? (i := 8) (by decide +kernel), List.mem_of_getElem? (i := 121) (by decide +kernel), List.mem_of_getElem? (i := 122) (by decide +kernel)⟩
theorem lw_p1 : lw_okq (⟨"ValueDesk", "readDraft", "()I"⟩, 9) := ⟨⟨by decide +kernel, by decide +kernel⟩, List.mem_of_getElem? (i := 8) (by decide +kernel), List.mem_of_getElem? (i := 125) (by decide +kernel), List.mem_of_getElem? (i := 126) (by decide +kernel)⟩
theorem lw_p2 : lw_okq (⟨"ValueDesk$Reference", "readNumber", "(LValueDesk$Row;I)V"⟩, 4) := ⟨⟨by decide +kernel, by decide +kernel⟩, List.mem_of_getElem? (i := 54) (by decide +kernel), List.mem_of_getElem? (i := 142) (by decide +kernel), List.mem_of_getElem? (i := 143) (by decide +kernel)⟩
theorem lw_p3 : lw_okq (⟨"ValueDesk$Reference", "breakOff", "(I)V"⟩, 4) := ⟨⟨by decide +kernel, by decide +kernel⟩, List.mem_of_getElem? (i := 54) (by decide +kernel), List.mem_of_getElem? (i := 149) (by decide +kernel), List.mem_of_getElem? (i := 150) (by decide +kernel)⟩
theorem lw_p4 : lw_okq (⟨"ValueDesk$Reference", "close", "(LValueDesk$Row;I)V"⟩, 4) := ⟨⟨by decide +kernel, by decide +kernel⟩, List.mem_of_getElem? (i := 54) (by decide +kernel), List.mem_of_getElem? (i := 153) (by decide +kernel), List.mem_of_getElem? (i := 154) (by decide +kernel)⟩
theorem lw_p5 : lw_okq (⟨"ValueDesk", "draftReference", "(I)I"⟩, 9) := ⟨⟨by decide +kernel, by decide +kernel⟩, List.mem_of_getElem? (i := 8) (by decide +kernel), List.mem_of_getElem? (i := 157) (by decide +kernel), List.mem_of_getElem? (i := 158) (by decide +kernel)⟩
theorem lw_p6 : lw_okq (⟨"ValueDesk", "fail", "(II)I"⟩, 9) := ⟨⟨by decide +kernel, by decide +kernel⟩, List.mem_of_getElem? (i := 8) (by decide +kernel), List.mem_of_getElem? (i := 161) (by decide +kernel), List.mem_of_getElem? (i := 162) (by decide +kernel)⟩
theorem lw_p7 : lw_okq (⟨"ValueDesk", "draftAsItStands", "(II)I"⟩, 9) := ⟨⟨by decide +kernel, by decide +kernel⟩, List.mem_of_getElem? (i := 8) (by decide +kernel), List.mem_of_getElem? (i := 165) (by decide +kernel), List.mem_of_getElem? (i := 166) (by decide +kernel)⟩
theorem lw_p8 : lw_okq (⟨"ValueDesk", "addByNumber", "(LValueDesk$Row;I)I"⟩, 9) := ⟨⟨by decide +kernel, by decide +kernel⟩, List.mem_of_getElem? (i := 8) (by decide +kernel), List.mem_of_getElem? (i := 169) (by decide +kernel), List.mem_of_getElem? (i := 170) (by decide +kernel)⟩
theorem lw_p9 : lw_okq (⟨"ValueDesk", "addTo", "(LValueDesk$Row;II)I"⟩, 9) := ⟨⟨by decide +kernel, by decide +kernel⟩, List.mem_of_getElem? (i := 8) (by decide +kernel), List.mem_of_getElem? (i := 176) (by decide +kernel), List.mem_of_getElem? (i := 177) (by decide +kernel)⟩
theorem lw_p10 : lw_okq (⟨"ValueDesk", "draftByte", "(I)I"⟩, 9) := ⟨⟨by decide +kernel, by decide +kernel⟩, List.mem_of_getElem? (i := 8) (by decide +kernel), List.mem_of_getElem? (i := 180) (by decide +kernel), List.mem_of_getElem? (i := 181) (by decide +kernel)⟩
theorem lw_p11 : lw_okq (⟨"ValueDesk", "readValue", "(LValueDesk$Row;II)I"⟩, 9) := ⟨⟨by decide +kernel, by decide +kernel⟩, List.mem_of_getElem? (i := 8) (by decide +kernel), List.mem_of_getElem? (i := 197) (by decide +kernel), List.mem_of_getElem? (i := 198) (by decide +kernel)⟩
theorem lw_p12 : lw_okq (⟨"ValueDesk", "takeReference", "(II)I"⟩, 9) := ⟨⟨by decide +kernel, by decide +kernel⟩, List.mem_of_getElem? (i := 8) (by decide +kernel), List.mem_of_getElem? (i := 201) (by decide +kernel), List.mem_of_getElem? (i := 202) (by decide +kernel)⟩
theorem lw_p13 : lw_okq (⟨"ValueDesk", "takeEntity", "(III)I"⟩, 9) := ⟨⟨by decide +kernel, by decide +kernel⟩, List.mem_of_getElem? (i := 8) (by decide +kernel), List.mem_of_getElem? (i := 205) (by decide +kernel), List.mem_of_getElem? (i := 206) (by decide +kernel)⟩
theorem lw_p14 : lw_okq (⟨"ValueDesk", "failBroken", "(LValueDesk$Row;II)I"⟩, 9) := ⟨⟨by decide +kernel, by decide +kernel⟩, List.mem_of_getElem? (i := 8) (by decide +kernel), List.mem_of_getElem? (i := 210) (by decide +kernel), List.mem_of_getElem? (i := 211) (by decide +kernel)⟩
theorem lw_p15 : lw_okq (⟨"ValueDesk", "takeByte", "(II)I"⟩, 9) := ⟨⟨by decide +kernel, by decide +kernel⟩, List.mem_of_getElem? (i := 8) (by decide +kernel), List.mem_of_getElem? (i := 214) (by decide +kernel), List.mem_of_getElem? (i := 215) (by decide +kernel)⟩
def lw_privs_1 : List (MethodName × Nat) := [(⟨"ValueDesk", "entityOf", "(I)LValueDesk$Entity;"⟩, 9), (⟨"ValueDesk", "readDraft", "()I"⟩, 9), (⟨"ValueDesk$Reference", "readNumber", "(LValueDesk$Row;I)V"⟩, 4), (⟨"ValueDesk$Reference", "breakOff", "(I)V"⟩, 4), (⟨"ValueDesk$Reference", "close", "(LValueDesk$Row;I)V"⟩, 4), (⟨"ValueDesk", "draftReference", "(I)I"⟩, 9), (⟨"ValueDesk", "fail", "(II)I"⟩, 9), (⟨"ValueDesk", "draftAsItStands", "(II)I"⟩, 9), (⟨"ValueDesk", "addByNumber", "(LValueDesk$Row;I)I"⟩, 9), (⟨"ValueDesk", "addTo", "(LValueDesk$Row;II)I"⟩, 9), (⟨"ValueDesk", "draftByte", "(I)I"⟩, 9), (⟨"ValueDesk", "readValue", "(LValueDesk$Row;II)I"⟩, 9), (⟨"ValueDesk", "takeReference", "(II)I"⟩, 9), (⟨"ValueDesk", "takeEntity", "(III)I"⟩, 9), (⟨"ValueDesk", "failBroken", "(LValueDesk$Row;II)I"⟩, 9), (⟨"ValueDesk", "takeByte", "(II)I"⟩, 9)]
theorem lw_r1 : ∀ q ∈ lw_privs_1, lw_okq q := List.forall_mem_cons.mpr ⟨lw_p0, List.forall_mem_cons.mpr ⟨lw_p1, List.forall_mem_cons.mpr ⟨lw_p2, List.forall_mem_cons.mpr ⟨lw_p3, List.forall_mem_cons.mpr ⟨lw_p4, List.forall_mem_cons.mpr ⟨lw_p5, List.forall_mem_cons.mpr ⟨lw_p6, List.forall_mem_cons.mpr ⟨lw_p7, List.forall_mem_cons.mpr ⟨lw_p8, List.forall_mem_cons.mpr ⟨lw_p9, List.forall_mem_cons.mpr ⟨lw_p10, List.forall_mem_cons.mpr ⟨lw_p11, List.forall_mem_cons.mpr ⟨lw_p12, List.forall_mem_cons.mpr ⟨lw_p13, List.forall_mem_cons.mpr ⟨lw_p14, List.forall_mem_cons.mpr ⟨lw_p15, fun _ h => absurd h List.not_mem_nil⟩⟩⟩⟩⟩⟩⟩⟩⟩⟩⟩⟩⟩⟩⟩⟩
theorem lw_p16 : lw_okq (⟨"ValueDesk", "known", "()I"⟩, 9) := ⟨⟨by decide +kernel, by decide +kernel⟩, List.mem_of_getElem? (i := 8) (by decide +kernel), List.mem_of_getElem? (i := 244) (by decide +kernel), List.mem_of_getElem? (i := 245) (by decide +kernel)⟩
theorem lw_p17 : lw_okq (⟨"ValueDeskModel", "begin", "()V"⟩, 21) := ⟨⟨by decide +kernel, by decide +kernel⟩, List.mem_of_getElem? (i := 252) (by decide +kernel), List.mem_of_getElem? (i := 331) (by decide +kernel), List.mem_of_getElem? (i := 332) (by decide +kernel)⟩
theorem lw_p18 : lw_okq (⟨"ValueDeskModel", "look", "(I)V"⟩, 21) := ⟨⟨by decide +kernel, by decide +kernel⟩, List.mem_of_getElem? (i := 252) (by decide +kernel), List.mem_of_getElem? (i := 335) (by decide +kernel), List.mem_of_getElem? (i := 336) (by decide +kernel)⟩
theorem lw_p19 : lw_okq (⟨"ValueDeskModel", "byteOf", "(I)I"⟩, 21) := ⟨⟨by decide +kernel, by decide +kernel⟩, List.mem_of_getElem? (i := 252) (by decide +kernel), List.mem_of_getElem? (i := 339) (by decide +kernel), List.mem_of_getElem? (i := 340) (by decide +kernel)⟩
theorem lw_p20 : lw_okq (⟨"ValueDeskModel", "length", "()I"⟩, 21) := ⟨⟨by decide +kernel, by decide +kernel⟩, List.mem_of_getElem? (i := 252) (by decide +kernel), List.mem_of_getElem? (i := 343) (by decide +kernel), List.mem_of_getElem? (i := 344) (by decide +kernel)⟩
theorem lw_p21 : lw_okq (⟨"ValueDeskModel", "stops", "(I)V"⟩, 21) := ⟨⟨by decide +kernel, by decide +kernel⟩, List.mem_of_getElem? (i := 252) (by decide +kernel), List.mem_of_getElem? (i := 350) (by decide +kernel), List.mem_of_getElem? (i := 351) (by decide +kernel)⟩
theorem lw_p22 : lw_okq (⟨"ValueDeskModel", "fails", "(II)V"⟩, 21) := ⟨⟨by decide +kernel, by decide +kernel⟩, List.mem_of_getElem? (i := 252) (by decide +kernel), List.mem_of_getElem? (i := 354) (by decide +kernel), List.mem_of_getElem? (i := 355) (by decide +kernel)⟩
theorem lw_p23 : lw_okq (⟨"ValueDeskModel", "defining", "(II)V"⟩, 21) := ⟨⟨by decide +kernel, by decide +kernel⟩, List.mem_of_getElem? (i := 252) (by decide +kernel), List.mem_of_getElem? (i := 361) (by decide +kernel), List.mem_of_getElem? (i := 362) (by decide +kernel)⟩
theorem lw_p24 : lw_okq (⟨"ValueDeskModel", "step", "(I)V"⟩, 21) := ⟨⟨by decide +kernel, by decide +kernel⟩, List.mem_of_getElem? (i := 252) (by decide +kernel), List.mem_of_getElem? (i := 370) (by decide +kernel), List.mem_of_getElem? (i := 371) (by decide +kernel)⟩
theorem lw_p25 : lw_okq (⟨"ValueDeskModel", "open", "(III)V"⟩, 21) := ⟨⟨by decide +kernel, by decide +kernel⟩, List.mem_of_getElem? (i := 252) (by decide +kernel), List.mem_of_getElem? (i := 374) (by decide +kernel), List.mem_of_getElem? (i := 375) (by decide +kernel)⟩
theorem lw_p26 : lw_okq (⟨"ValueDeskModel", "isOpen", "(I)Z"⟩, 21) := ⟨⟨by decide +kernel, by decide +kernel⟩, List.mem_of_getElem? (i := 252) (by decide +kernel), List.mem_of_getElem? (i := 378) (by decide +kernel), List.mem_of_getElem? (i := 379) (by decide +kernel)⟩
theorem lw_p27 : lw_okq (⟨"ValueDeskModel", "add", "(II)V"⟩, 21) := ⟨⟨by decide +kernel, by decide +kernel⟩, List.mem_of_getElem? (i := 252) (by decide +kernel), List.mem_of_getElem? (i := 382) (by decide +kernel), List.mem_of_getElem? (i := 383) (by decide +kernel)⟩
theorem lw_p28 : lw_okq (⟨"ValueDeskModel", "trim", "()V"⟩, 21) := ⟨⟨by decide +kernel, by decide +kernel⟩, List.mem_of_getElem? (i := 252) (by decide +kernel), List.mem_of_getElem? (i := 386) (by decide +kernel), List.mem_of_getElem? (i := 387) (by decide +kernel)⟩
theorem lw_p29 : lw_okq (⟨"ValueDeskModel", "known", "()I"⟩, 21) := ⟨⟨by decide +kernel, by decide +kernel⟩, List.mem_of_getElem? (i := 252) (by decide +kernel), List.mem_of_getElem? (i := 410) (by decide +kernel), List.mem_of_getElem? (i := 411) (by decide +kernel)⟩
def lw_privs_2 : List (MethodName × Nat) := [(⟨"ValueDesk", "known", "()I"⟩, 9), (⟨"ValueDeskModel", "begin", "()V"⟩, 21), (⟨"ValueDeskModel", "look", "(I)V"⟩, 21), (⟨"ValueDeskModel", "byteOf", "(I)I"⟩, 21), (⟨"ValueDeskModel", "length", "()I"⟩, 21), (⟨"ValueDeskModel", "stops", "(I)V"⟩, 21), (⟨"ValueDeskModel", "fails", "(II)V"⟩, 21), (⟨"ValueDeskModel", "defining", "(II)V"⟩, 21), (⟨"ValueDeskModel", "step", "(I)V"⟩, 21), (⟨"ValueDeskModel", "open", "(III)V"⟩, 21), (⟨"ValueDeskModel", "isOpen", "(I)Z"⟩, 21), (⟨"ValueDeskModel", "add", "(II)V"⟩, 21), (⟨"ValueDeskModel", "trim", "()V"⟩, 21), (⟨"ValueDeskModel", "known", "()I"⟩, 21)]
theorem lw_r2 : ∀ q ∈ lw_privs_2, lw_okq q := List.forall_mem_cons.mpr ⟨lw_p16, List.forall_mem_cons.mpr ⟨lw_p17, List.forall_mem_cons.mpr ⟨lw_p18, List.forall_mem_cons.mpr ⟨lw_p19, List.forall_mem_cons.mpr ⟨lw_p20, List.forall_mem_cons.mpr ⟨lw_p21, List.forall_mem_cons.mpr ⟨lw_p22, List.forall_mem_cons.mpr ⟨lw_p23, List.forall_mem_cons.mpr ⟨lw_p24, List.forall_mem_cons.mpr ⟨lw_p25, List.forall_mem_cons.mpr ⟨lw_p26, List.forall_mem_cons.mpr ⟨lw_p27, List.forall_mem_cons.mpr ⟨lw_p28, List.forall_mem_cons.mpr ⟨lw_p29, fun _ h => absurd h List.not_mem_nil⟩⟩⟩⟩⟩⟩⟩⟩⟩⟩⟩⟩⟩⟩
def lw_privs : List (MethodName × Nat) := lw_privs_1 ++ (lw_privs_2)
def lw_tbl : List Cond := k2_sels lw_privs ++ tables_1
theorem lw_privs_ok : ∀ q ∈ lw_privs, lw_okq q := by
  show ∀ q ∈ lw_privs_1 ++ (lw_privs_2), lw_okq q
  exact List.forall_mem_append.mpr ⟨lw_r1, lw_r2⟩

def TB : List Cond := lw_tbl.filter goodWord
theorem tb_of {w : Cond} (h : w ∈ tables_1) (hg : goodWord w = true) : w ∈ TB := List.mem_filter.mpr ⟨List.mem_append_right _ h, hg⟩
theorem tb_se {w : Cond} (h : w ∈ k2_sels lw_privs) (hg : goodWord w = true) : w ∈ TB := List.mem_filter.mpr ⟨List.mem_append_left _ h, hg⟩
theorem tb_good {w : Cond} (h : w ∈ TB) : (w.onTables && w.keeps) = true ∨ ∃ ty, w = .arrayClass ty := good_of_word (List.mem_filter.mp h).2
theorem tb_lw {w : Cond} (h : w ∈ TB) : w ∈ lw_tbl := (List.mem_filter.mp h).1
theorem tb_in {c0 cy : Cond} (h : cy ∈ TB) : GoodIn (c0 :: TB) (cy :: TB) := fun w hw => by
  rcases List.mem_cons.mp hw with rfl | h1
  · exact ⟨List.mem_cons_of_mem _ h, tb_good h⟩
  · exact ⟨List.mem_cons_of_mem _ h1, tb_good h1⟩
theorem tb_inL {cy : Cond} (h : cy ∈ TB) : GoodIn lw_tbl (cy :: TB) := fun w hw => by
  rcases List.mem_cons.mp hw with rfl | h1
  · exact ⟨tb_lw h, tb_good h⟩
  · exact ⟨tb_lw h1, tb_good h1⟩
theorem tb_pre {big pre ws : List Cond} (h : GoodIn big ws) (hp : ∀ w ∈ pre, w ∈ TB) (hb : ∀ w ∈ TB, w ∈ big) : GoodIn big (pre ++ ws) := fun w hw => (List.mem_append.mp hw).elim (fun h1 => ⟨hb w (hp w h1), tb_good (hp w h1)⟩) (h w)
theorem tb_4 {a b c d : Cond} (h1 : a ∈ TB) (h2 : b ∈ TB) (h3 : c ∈ TB) (h4 : d ∈ TB) : ∀ w ∈ [a, b, c, d], w ∈ TB := fun w hw => by
  rcases List.mem_cons.mp hw with rfl | hw
  · exact h1
  rcases List.mem_cons.mp hw with rfl | hw
  · exact h2
  rcases List.mem_cons.mp hw with rfl | hw
  · exact h3
  rcases List.mem_cons.mp hw with rfl | hw
  · exact h4
  cases hw
theorem tb_3 {a b c : Cond} (h1 : a ∈ TB) (h2 : b ∈ TB) (h3 : c ∈ TB) : ∀ w ∈ [a, b, c], w ∈ TB := fun w hw => by
  rcases List.mem_cons.mp hw with rfl | hw
  · exact h1
  rcases List.mem_cons.mp hw with rfl | hw
  · exact h2
  rcases List.mem_cons.mp hw with rfl | hw
  · exact h3
  cases hw
theorem tb_V {c0 cy : Cond} {own : String} {idx : Nat} {C : String} {y : MethodName} (h5 : cy ∈ TB) (h1 : Cond.methodLink own idx y ∈ TB) (h2 : Cond.instanceMethod y ∈ TB) (h3 : Cond.selects C y y ∈ TB) (h4 : Cond.initialized C ∈ TB) : GoodIn (c0 :: TB) (wsV own idx C y (cy :: TB)) := tb_pre (tb_in h5) (tb_4 h1 h2 h3 h4) (fun _ h => List.mem_cons_of_mem _ h)
theorem tb_VL {cy : Cond} {own : String} {idx : Nat} {C : String} {y : MethodName} (h5 : cy ∈ TB) (h1 : Cond.methodLink own idx y ∈ TB) (h2 : Cond.instanceMethod y ∈ TB) (h3 : Cond.selects C y y ∈ TB) (h4 : Cond.initialized C ∈ TB) : GoodIn lw_tbl (wsV own idx C y (cy :: TB)) := tb_pre (tb_inL h5) (tb_4 h1 h2 h3 h4) (fun _ h => tb_lw h)
theorem tb_S {c0 cy : Cond} {own : String} {idx : Nat} {y : MethodName} (h5 : cy ∈ TB) (h1 : Cond.methodLink own idx y ∈ TB) (h2 : Cond.static y ∈ TB) (h3 : Cond.initialized y.cls ∈ TB) : GoodIn (c0 :: TB) (va_wsS own idx y (cy :: TB)) := tb_pre (tb_in h5) (tb_3 h1 h2 h3) (fun _ h => List.mem_cons_of_mem _ h)
def R_E : String := "ValueDesk$Entity"
def T_E : u_T := fun k => match k with
  | 0 => ("ValueDesk$Entity", "row", "LValueDesk$Row;", true)
  | 1 => ("ValueDesk$Entity", "known", "Z", false)
  | _ => ("ValueDesk$Entity", "open", "Z", false)
def ty_E : Nat → FieldType := fun k => match k with
  | 0 => .object "ValueDesk$Row"
  | 1 => .boolean
  | _ => .boolean
theorem nm_E : ∀ a, a < 3 → ∀ b, b < 3 → a ≠ b → (T_E a).2.1 ≠ (T_E b).2.1 := by decide +kernel
theorem tyok_E : ∀ k, k < 3 → parseFieldDescriptor (T_E k).2.2.1 = some (ty_E k) := by decide +kernel
def R_F : String := "ValueDesk$Reference"
def T_F : u_T := fun k => match k with
  | 0 => ("ValueDesk$Reference", "whole", "Z", false)
  | 1 => ("ValueDesk$Reference", "toEntity", "Z", false)
  | 2 => ("ValueDesk$Reference", "number", "I", false)
  | _ => ("ValueDesk$Reference", "end", "I", false)
def ty_F : Nat → FieldType := fun k => match k with
  | 0 => .boolean
  | 1 => .boolean
  | 2 => .int
  | _ => .int
theorem nm_F : ∀ a, a < 4 → ∀ b, b < 4 → a ≠ b → (T_F a).2.1 ≠ (T_F b).2.1 := by decide +kernel
theorem tyok_F : ∀ k, k < 4 → parseFieldDescriptor (T_F k).2.2.1 = some (ty_F k) := by decide +kernel
def R_R : String := "ValueDesk$Row"
def T_R : u_T := fun k => match k with
  | 0 => ("ValueDesk$Row", "bytes", "[I", true)
  | _ => ("ValueDesk$Row", "size", "I", false)
def ty_R : Nat → FieldType := fun k => match k with
  | 0 => .array .int
  | _ => .int
theorem nm_R : ∀ a, a < 2 → ∀ b, b < 2 → a ≠ b → (T_R a).2.1 ≠ (T_R b).2.1 := by decide +kernel
theorem tyok_R : ∀ k, k < 2 → parseFieldDescriptor (T_R k).2.2.1 = some (ty_R k) := by decide +kernel
def R_D : String := "ValueDesk"
def T_D : u_T := fun k => match k with
  | 0 => ("ValueDesk", "tape", "LValueDesk$Row;", true)
  | 1 => ("ValueDesk", "draft", "LValueDesk$Row;", true)
  | 2 => ("ValueDesk", "last", "LValueDesk$Row;", true)
  | 3 => ("ValueDesk", "entities", "[LValueDesk$Entity;", true)
  | 4 => ("ValueDesk", "reference", "LValueDesk$Reference;", true)
  | 5 => ("ValueDesk", "faultPlace", "I", false)
  | 6 => ("ValueDesk", "limitOfMeter", "I", false)
  | 7 => ("ValueDesk", "meter", "I", false)
  | _ => ("ValueDesk", "deepest", "I", false)
def ty_D : Nat → FieldType := fun k => match k with
  | 0 => .object "ValueDesk$Row"
  | 1 => .object "ValueDesk$Row"
  | 2 => .object "ValueDesk$Row"
  | 3 => .array (.object "ValueDesk$Entity")
  | 4 => .object "ValueDesk$Reference"
  | 5 => .int
  | 6 => .int
  | 7 => .int
  | _ => .int
theorem nm_D : ∀ a, a < 9 → ∀ b, b < 9 → a ≠ b → (T_D a).2.1 ≠ (T_D b).2.1 := by decide +kernel
theorem tyok_D : ∀ k, k < 9 → parseFieldDescriptor (T_D k).2.2.1 = some (ty_D k) := by decide +kernel
def R_M : String := "ValueDeskModel"
def T_M : u_T := fun k => match k with
  | 0 => ("ValueDeskModel", "thrownCode", "I", false)
  | 1 => ("ValueDeskModel", "tape", "[I", true)
  | 2 => ("ValueDeskModel", "bytes", "I", false)
  | 3 => ("ValueDeskModel", "has", "[Z", true)
  | 4 => ("ValueDeskModel", "size", "[I", true)
  | 5 => ("ValueDeskModel", "texts", "[I", true)
  | 6 => ("ValueDeskModel", "value", "[I", true)
  | 7 => ("ValueDeskModel", "values", "I", false)
  | 8 => ("ValueDeskModel", "faultPlace", "I", false)
  | 9 => ("ValueDeskModel", "meter", "I", false)
  | 10 => ("ValueDeskModel", "deepest", "I", false)
  | 11 => ("ValueDeskModel", "deep", "I", false)
  | 12 => ("ValueDeskModel", "entity", "[I", true)
  | 13 => ("ValueDeskModel", "at", "[I", true)
  | 14 => ("ValueDeskModel", "fault", "I", false)
  | 15 => ("ValueDeskModel", "outer", "I", false)
  | 16 => ("ValueDeskModel", "kind", "I", false)
  | 17 => ("ValueDeskModel", "number", "I", false)
  | 18 => ("ValueDeskModel", "behind", "I", false)
  | 19 => ("ValueDeskModel", "made", "[I", true)
  | _ => ("ValueDeskModel", "makes", "I", false)
def ty_M : Nat → FieldType := fun k => match k with
  | 0 => .int
  | 1 => .array .int
  | 2 => .int
  | 3 => .array .boolean
  | 4 => .array .int
  | 5 => .array .int
  | 6 => .array .int
  | 7 => .int
  | 8 => .int
  | 9 => .int
  | 10 => .int
  | 11 => .int
  | 12 => .array .int
  | 13 => .array .int
  | 14 => .int
  | 15 => .int
  | 16 => .int
  | 17 => .int
  | 18 => .int
  | 19 => .array .int
  | _ => .int
theorem nm_M : ∀ a, a < 21 → ∀ b, b < 21 → a ≠ b → (T_M a).2.1 ≠ (T_M b).2.1 := by decide +kernel
theorem tyok_M : ∀ k, k < 21 → parseFieldDescriptor (T_M k).2.2.1 = some (ty_M k) := by decide +kernel
def R_L : String := "ValueDeskLaw"
abbrev vwCl : List vw_C := [(R_E, T_E, 3), (R_F, T_F, 4), (R_R, T_R, 2), (R_D, T_D, 9), (R_M, T_M, 21)]
abbrev kE : Nat := 0
abbrev kF : Nat := 1
abbrev kR : Nat := 2
abbrev kD : Nat := 3
abbrev kM : Nat := 4
def hp_t (cA : Nat → ClassId) : List (ClassId × FieldType) := [(cA 0, .int), (cA 1, .object "ValueDesk$Entity"), (cA 2, .boolean)]
abbrev cc_D_init : ByteArray := prog_1_method_1_code
def y_D_init : MethodName := ⟨R_D, "<init>", "()V"⟩
def ws_D_init : List Cond := .code y_D_init cc_D_init 2 none :: TB
theorem cd_D_init : Cond.code y_D_init cc_D_init 2 none ∈ TB := tb_of (List.mem_of_getElem? (i := 11) rfl) rfl
theorem hd_D_init : y_D_init.cls = R_D ∧ y_D_init.cls ≠ "java/lang/invoke/MethodHandle" ∧ y_D_init.cls ≠ "java/lang/invoke/VarHandle" ∧ (parseMethodDescriptor y_D_init.desc).map (fun d => d.parameters.length) = some 0 := by decide +kernel
abbrev cc_R_init : ByteArray := prog_4_method_1_code
def y_R_init : MethodName := ⟨R_R, "<init>", "(I)V"⟩
def ws_R_init : List Cond := .code y_R_init cc_R_init 2 none :: TB
theorem cd_R_init : Cond.code y_R_init cc_R_init 2 none ∈ TB := tb_of (List.mem_of_getElem? (i := 19) rfl) rfl
theorem hd_R_init : y_R_init.cls = R_R ∧ y_R_init.cls ≠ "java/lang/invoke/MethodHandle" ∧ y_R_init.cls ≠ "java/lang/invoke/VarHandle" ∧ (parseMethodDescriptor y_R_init.desc).map (fun d => d.parameters.length) = some 1 := by decide +kernel
abbrev cc_E_init : ByteArray := prog_2_method_1_code
def y_E_init : MethodName := ⟨R_E, "<init>", "()V"⟩
def ws_E_init : List Cond := .code y_E_init cc_E_init 1 none :: TB
theorem cd_E_init : Cond.code y_E_init cc_E_init 1 none ∈ TB := tb_of (List.mem_of_getElem? (i := 37) rfl) rfl
theorem hd_E_init : y_E_init.cls = R_E ∧ y_E_init.cls ≠ "java/lang/invoke/MethodHandle" ∧ y_E_init.cls ≠ "java/lang/invoke/VarHandle" ∧ (parseMethodDescriptor y_E_init.desc).map (fun d => d.parameters.length) = some 0 := by decide +kernel
abbrev cc_F_init : ByteArray := prog_3_method_1_code
def y_F_init : MethodName := ⟨R_F, "<init>", "()V"⟩
def ws_F_init : List Cond := .code y_F_init cc_F_init 1 none :: TB
theorem cd_F_init : Cond.code y_F_init cc_F_init 1 none ∈ TB := tb_of (List.mem_of_getElem? (i := 57) rfl) rfl
theorem hd_F_init : y_F_init.cls = R_F ∧ y_F_init.cls ≠ "java/lang/invoke/MethodHandle" ∧ y_F_init.cls ≠ "java/lang/invoke/VarHandle" ∧ (parseMethodDescriptor y_F_init.desc).map (fun d => d.parameters.length) = some 0 := by decide +kernel
abbrev cc_D_put : ByteArray := prog_1_method_2_code
def y_D_put : MethodName := ⟨R_D, "put", "(JI)Z"⟩
def ws_D_put : List Cond := .code y_D_put cc_D_put 5 (some .boolean) :: TB
theorem cd_D_put : Cond.code y_D_put cc_D_put 5 (some .boolean) ∈ TB := tb_of (List.mem_of_getElem? (i := 107) rfl) rfl
theorem hd_D_put : y_D_put.cls = R_D ∧ y_D_put.cls ≠ "java/lang/invoke/MethodHandle" ∧ y_D_put.cls ≠ "java/lang/invoke/VarHandle" ∧ (parseMethodDescriptor y_D_put.desc).map (fun d => d.parameters.length) = some 2 := by decide +kernel
abbrev cc_R_size : ByteArray := prog_4_method_2_code
def y_R_size : MethodName := ⟨R_R, "size", "()I"⟩
def ws_R_size : List Cond := .code y_R_size cc_R_size 1 (some .int) :: TB
theorem cd_R_size : Cond.code y_R_size cc_R_size 1 (some .int) ∈ TB := tb_of (List.mem_of_getElem? (i := 111) rfl) rfl
theorem hd_R_size : y_R_size.cls = R_R ∧ y_R_size.cls ≠ "java/lang/invoke/MethodHandle" ∧ y_R_size.cls ≠ "java/lang/invoke/VarHandle" ∧ (parseMethodDescriptor y_R_size.desc).map (fun d => d.parameters.length) = some 0 := by decide +kernel
abbrev cc_R_add : ByteArray := prog_4_method_4_code
def y_R_add : MethodName := ⟨R_R, "add", "(I)Z"⟩
def ws_R_add : List Cond := .code y_R_add cc_R_add 2 (some .boolean) :: TB
theorem cd_R_add : Cond.code y_R_add cc_R_add 2 (some .boolean) ∈ TB := tb_of (List.mem_of_getElem? (i := 115) rfl) rfl
theorem hd_R_add : y_R_add.cls = R_R ∧ y_R_add.cls ≠ "java/lang/invoke/MethodHandle" ∧ y_R_add.cls ≠ "java/lang/invoke/VarHandle" ∧ (parseMethodDescriptor y_R_add.desc).map (fun d => d.parameters.length) = some 1 := by decide +kernel
abbrev cc_D_define : ByteArray := prog_1_method_3_code
def y_D_define : MethodName := ⟨R_D, "define", "(I)I"⟩
def ws_D_define : List Cond := .code y_D_define cc_D_define 4 (some .int) :: TB
theorem cd_D_define : Cond.code y_D_define cc_D_define 4 (some .int) ∈ TB := tb_of (List.mem_of_getElem? (i := 119) rfl) rfl
theorem hd_D_define : y_D_define.cls = R_D ∧ y_D_define.cls ≠ "java/lang/invoke/MethodHandle" ∧ y_D_define.cls ≠ "java/lang/invoke/VarHandle" ∧ (parseMethodDescriptor y_D_define.desc).map (fun d => d.parameters.length) = some 1 := by decide +kernel
abbrev cc_D_entityOf : ByteArray := prog_1_method_11_code
def y_D_entityOf : MethodName := ⟨R_D, "entityOf", "(I)LValueDesk$Entity;"⟩
def ws_D_entityOf : List Cond := .code y_D_entityOf cc_D_entityOf 2 (some (.object "ValueDesk$Entity")) :: TB
theorem cd_D_entityOf : Cond.code y_D_entityOf cc_D_entityOf 2 (some (.object "ValueDesk$Entity")) ∈ TB := tb_of (List.mem_of_getElem? (i := 123) rfl) rfl
theorem hd_D_entityOf : y_D_entityOf.cls = R_D ∧ y_D_entityOf.cls ≠ "java/lang/invoke/MethodHandle" ∧ y_D_entityOf.cls ≠ "java/lang/invoke/VarHandle" ∧ (parseMethodDescriptor y_D_entityOf.desc).map (fun d => d.parameters.length) = some 1 := by decide +kernel
abbrev cc_D_readDraft : ByteArray := prog_1_method_14_code
def y_D_readDraft : MethodName := ⟨R_D, "readDraft", "()I"⟩
def ws_D_readDraft : List Cond := .code y_D_readDraft cc_D_readDraft 4 (some .int) :: TB
theorem cd_D_readDraft : Cond.code y_D_readDraft cc_D_readDraft 4 (some .int) ∈ TB := tb_of (List.mem_of_getElem? (i := 127) rfl) rfl
theorem hd_D_readDraft : y_D_readDraft.cls = R_D ∧ y_D_readDraft.cls ≠ "java/lang/invoke/MethodHandle" ∧ y_D_readDraft.cls ≠ "java/lang/invoke/VarHandle" ∧ (parseMethodDescriptor y_D_readDraft.desc).map (fun d => d.parameters.length) = some 0 := by decide +kernel
abbrev cc_R_empty : ByteArray := prog_4_method_3_code
def y_R_empty : MethodName := ⟨R_R, "empty", "()V"⟩
def ws_R_empty : List Cond := .code y_R_empty cc_R_empty 1 none :: TB
theorem cd_R_empty : Cond.code y_R_empty cc_R_empty 1 none ∈ TB := tb_of (List.mem_of_getElem? (i := 131) rfl) rfl
theorem hd_R_empty : y_R_empty.cls = R_R ∧ y_R_empty.cls ≠ "java/lang/invoke/MethodHandle" ∧ y_R_empty.cls ≠ "java/lang/invoke/VarHandle" ∧ (parseMethodDescriptor y_R_empty.desc).map (fun d => d.parameters.length) = some 0 := by decide +kernel
abbrev cc_R_at : ByteArray := prog_4_method_5_code
def y_R_at : MethodName := ⟨R_R, "at", "(I)I"⟩
def ws_R_at : List Cond := .code y_R_at cc_R_at 2 (some .int) :: TB
theorem cd_R_at : Cond.code y_R_at cc_R_at 2 (some .int) ∈ TB := tb_of (List.mem_of_getElem? (i := 135) rfl) rfl
theorem hd_R_at : y_R_at.cls = R_R ∧ y_R_at.cls ≠ "java/lang/invoke/MethodHandle" ∧ y_R_at.cls ≠ "java/lang/invoke/VarHandle" ∧ (parseMethodDescriptor y_R_at.desc).map (fun d => d.parameters.length) = some 1 := by decide +kernel
abbrev cc_F_read : ByteArray := prog_3_method_2_code
def y_F_read : MethodName := ⟨R_F, "read", "(LValueDesk$Row;I)V"⟩
def ws_F_read : List Cond := .code y_F_read cc_F_read 4 none :: TB
theorem cd_F_read : Cond.code y_F_read cc_F_read 4 none ∈ TB := tb_of (List.mem_of_getElem? (i := 139) rfl) rfl
theorem hd_F_read : y_F_read.cls = R_F ∧ y_F_read.cls ≠ "java/lang/invoke/MethodHandle" ∧ y_F_read.cls ≠ "java/lang/invoke/VarHandle" ∧ (parseMethodDescriptor y_F_read.desc).map (fun d => d.parameters.length) = some 2 := by decide +kernel
abbrev cc_F_readNumber : ByteArray := prog_3_method_3_code
def y_F_readNumber : MethodName := ⟨R_F, "readNumber", "(LValueDesk$Row;I)V"⟩
def ws_F_readNumber : List Cond := .code y_F_readNumber cc_F_readNumber 7 none :: TB
theorem cd_F_readNumber : Cond.code y_F_readNumber cc_F_readNumber 7 none ∈ TB := tb_of (List.mem_of_getElem? (i := 144) rfl) rfl
theorem hd_F_readNumber : y_F_readNumber.cls = R_F ∧ y_F_readNumber.cls ≠ "java/lang/invoke/MethodHandle" ∧ y_F_readNumber.cls ≠ "java/lang/invoke/VarHandle" ∧ (parseMethodDescriptor y_F_readNumber.desc).map (fun d => d.parameters.length) = some 2 := by decide +kernel
abbrev cc_F_digitOf : ByteArray := prog_3_method_6_code
def y_F_digitOf : MethodName := ⟨R_F, "digitOf", "(II)I"⟩
def ws_F_digitOf : List Cond := .code y_F_digitOf cc_F_digitOf 2 (some .int) :: TB
theorem cd_F_digitOf : Cond.code y_F_digitOf cc_F_digitOf 2 (some .int) ∈ TB := tb_of (List.mem_of_getElem? (i := 147) rfl) rfl
theorem hd_F_digitOf : y_F_digitOf.cls = R_F ∧ y_F_digitOf.cls ≠ "java/lang/invoke/MethodHandle" ∧ y_F_digitOf.cls ≠ "java/lang/invoke/VarHandle" ∧ (parseMethodDescriptor y_F_digitOf.desc).map (fun d => d.parameters.length) = some 2 := by decide +kernel
abbrev cc_F_breakOff : ByteArray := prog_3_method_5_code
def y_F_breakOff : MethodName := ⟨R_F, "breakOff", "(I)V"⟩
def ws_F_breakOff : List Cond := .code y_F_breakOff cc_F_breakOff 2 none :: TB
theorem cd_F_breakOff : Cond.code y_F_breakOff cc_F_breakOff 2 none ∈ TB := tb_of (List.mem_of_getElem? (i := 151) rfl) rfl
theorem hd_F_breakOff : y_F_breakOff.cls = R_F ∧ y_F_breakOff.cls ≠ "java/lang/invoke/MethodHandle" ∧ y_F_breakOff.cls ≠ "java/lang/invoke/VarHandle" ∧ (parseMethodDescriptor y_F_breakOff.desc).map (fun d => d.parameters.length) = some 1 := by decide +kernel
abbrev cc_F_close : ByteArray := prog_3_method_4_code
def y_F_close : MethodName := ⟨R_F, "close", "(LValueDesk$Row;I)V"⟩
def ws_F_close : List Cond := .code y_F_close cc_F_close 3 none :: TB
theorem cd_F_close : Cond.code y_F_close cc_F_close 3 none ∈ TB := tb_of (List.mem_of_getElem? (i := 155) rfl) rfl
theorem hd_F_close : y_F_close.cls = R_F ∧ y_F_close.cls ≠ "java/lang/invoke/MethodHandle" ∧ y_F_close.cls ≠ "java/lang/invoke/VarHandle" ∧ (parseMethodDescriptor y_F_close.desc).map (fun d => d.parameters.length) = some 2 := by decide +kernel
abbrev cc_D_draftReference : ByteArray := prog_1_method_16_code
def y_D_draftReference : MethodName := ⟨R_D, "draftReference", "(I)I"⟩
def ws_D_draftReference : List Cond := .code y_D_draftReference cc_D_draftReference 2 (some .int) :: TB
theorem cd_D_draftReference : Cond.code y_D_draftReference cc_D_draftReference 2 (some .int) ∈ TB := tb_of (List.mem_of_getElem? (i := 159) rfl) rfl
theorem hd_D_draftReference : y_D_draftReference.cls = R_D ∧ y_D_draftReference.cls ≠ "java/lang/invoke/MethodHandle" ∧ y_D_draftReference.cls ≠ "java/lang/invoke/VarHandle" ∧ (parseMethodDescriptor y_D_draftReference.desc).map (fun d => d.parameters.length) = some 1 := by decide +kernel
abbrev cc_D_fail : ByteArray := prog_1_method_12_code
def y_D_fail : MethodName := ⟨R_D, "fail", "(II)I"⟩
def ws_D_fail : List Cond := .code y_D_fail cc_D_fail 3 (some .int) :: TB
theorem cd_D_fail : Cond.code y_D_fail cc_D_fail 3 (some .int) ∈ TB := tb_of (List.mem_of_getElem? (i := 163) rfl) rfl
theorem hd_D_fail : y_D_fail.cls = R_D ∧ y_D_fail.cls ≠ "java/lang/invoke/MethodHandle" ∧ y_D_fail.cls ≠ "java/lang/invoke/VarHandle" ∧ (parseMethodDescriptor y_D_fail.desc).map (fun d => d.parameters.length) = some 2 := by decide +kernel
abbrev cc_D_draftAsItStands : ByteArray := prog_1_method_17_code
def y_D_draftAsItStands : MethodName := ⟨R_D, "draftAsItStands", "(II)I"⟩
def ws_D_draftAsItStands : List Cond := .code y_D_draftAsItStands cc_D_draftAsItStands 4 (some .int) :: TB
theorem cd_D_draftAsItStands : Cond.code y_D_draftAsItStands cc_D_draftAsItStands 4 (some .int) ∈ TB := tb_of (List.mem_of_getElem? (i := 167) rfl) rfl
theorem hd_D_draftAsItStands : y_D_draftAsItStands.cls = R_D ∧ y_D_draftAsItStands.cls ≠ "java/lang/invoke/MethodHandle" ∧ y_D_draftAsItStands.cls ≠ "java/lang/invoke/VarHandle" ∧ (parseMethodDescriptor y_D_draftAsItStands.desc).map (fun d => d.parameters.length) = some 2 := by decide +kernel
abbrev cc_D_addByNumber : ByteArray := prog_1_method_18_code
def y_D_addByNumber : MethodName := ⟨R_D, "addByNumber", "(LValueDesk$Row;I)I"⟩
def ws_D_addByNumber : List Cond := .code y_D_addByNumber cc_D_addByNumber 4 (some .int) :: TB
theorem cd_D_addByNumber : Cond.code y_D_addByNumber cc_D_addByNumber 4 (some .int) ∈ TB := tb_of (List.mem_of_getElem? (i := 171) rfl) rfl
theorem hd_D_addByNumber : y_D_addByNumber.cls = R_D ∧ y_D_addByNumber.cls ≠ "java/lang/invoke/MethodHandle" ∧ y_D_addByNumber.cls ≠ "java/lang/invoke/VarHandle" ∧ (parseMethodDescriptor y_D_addByNumber.desc).map (fun d => d.parameters.length) = some 2 := by decide +kernel
abbrev cc_D_isCharacter : ByteArray := prog_1_method_24_code
def y_D_isCharacter : MethodName := ⟨R_D, "isCharacter", "(I)Z"⟩
def ws_D_isCharacter : List Cond := .code y_D_isCharacter cc_D_isCharacter 1 (some .boolean) :: TB
theorem cd_D_isCharacter : Cond.code y_D_isCharacter cc_D_isCharacter 1 (some .boolean) ∈ TB := tb_of (List.mem_of_getElem? (i := 174) rfl) rfl
theorem hd_D_isCharacter : y_D_isCharacter.cls = R_D ∧ y_D_isCharacter.cls ≠ "java/lang/invoke/MethodHandle" ∧ y_D_isCharacter.cls ≠ "java/lang/invoke/VarHandle" ∧ (parseMethodDescriptor y_D_isCharacter.desc).map (fun d => d.parameters.length) = some 1 := by decide +kernel
abbrev cc_D_addTo : ByteArray := prog_1_method_13_code
def y_D_addTo : MethodName := ⟨R_D, "addTo", "(LValueDesk$Row;II)I"⟩
def ws_D_addTo : List Cond := .code y_D_addTo cc_D_addTo 4 (some .int) :: TB
theorem cd_D_addTo : Cond.code y_D_addTo cc_D_addTo 4 (some .int) ∈ TB := tb_of (List.mem_of_getElem? (i := 178) rfl) rfl
theorem hd_D_addTo : y_D_addTo.cls = R_D ∧ y_D_addTo.cls ≠ "java/lang/invoke/MethodHandle" ∧ y_D_addTo.cls ≠ "java/lang/invoke/VarHandle" ∧ (parseMethodDescriptor y_D_addTo.desc).map (fun d => d.parameters.length) = some 3 := by decide +kernel
abbrev cc_D_draftByte : ByteArray := prog_1_method_15_code
def y_D_draftByte : MethodName := ⟨R_D, "draftByte", "(I)I"⟩
def ws_D_draftByte : List Cond := .code y_D_draftByte cc_D_draftByte 3 (some .int) :: TB
theorem cd_D_draftByte : Cond.code y_D_draftByte cc_D_draftByte 3 (some .int) ∈ TB := tb_of (List.mem_of_getElem? (i := 182) rfl) rfl
theorem hd_D_draftByte : y_D_draftByte.cls = R_D ∧ y_D_draftByte.cls ≠ "java/lang/invoke/MethodHandle" ∧ y_D_draftByte.cls ≠ "java/lang/invoke/VarHandle" ∧ (parseMethodDescriptor y_D_draftByte.desc).map (fun d => d.parameters.length) = some 1 := by decide +kernel
abbrev cc_E_learn : ByteArray := prog_2_method_2_code
def y_E_learn : MethodName := ⟨R_E, "learn", "(LValueDesk$Row;)V"⟩
def ws_E_learn : List Cond := .code y_E_learn cc_E_learn 3 none :: TB
theorem cd_E_learn : Cond.code y_E_learn cc_E_learn 3 none ∈ TB := tb_of (List.mem_of_getElem? (i := 186) rfl) rfl
theorem hd_E_learn : y_E_learn.cls = R_E ∧ y_E_learn.cls ≠ "java/lang/invoke/MethodHandle" ∧ y_E_learn.cls ≠ "java/lang/invoke/VarHandle" ∧ (parseMethodDescriptor y_E_learn.desc).map (fun d => d.parameters.length) = some 1 := by decide +kernel
abbrev cc_D_value : ByteArray := prog_1_method_4_code
def y_D_value : MethodName := ⟨R_D, "value", "(II)I"⟩
def ws_D_value : List Cond := .code y_D_value cc_D_value 4 (some .int) :: TB
theorem cd_D_value : Cond.code y_D_value cc_D_value 4 (some .int) ∈ TB := tb_of (List.mem_of_getElem? (i := 194) rfl) rfl
theorem hd_D_value : y_D_value.cls = R_D ∧ y_D_value.cls ≠ "java/lang/invoke/MethodHandle" ∧ y_D_value.cls ≠ "java/lang/invoke/VarHandle" ∧ (parseMethodDescriptor y_D_value.desc).map (fun d => d.parameters.length) = some 2 := by decide +kernel
abbrev cc_D_readValue : ByteArray := prog_1_method_19_code
def y_D_readValue : MethodName := ⟨R_D, "readValue", "(LValueDesk$Row;II)I"⟩
def ws_D_readValue : List Cond := .code y_D_readValue cc_D_readValue 8 (some .int) :: TB
theorem cd_D_readValue : Cond.code y_D_readValue cc_D_readValue 8 (some .int) ∈ TB := tb_of (List.mem_of_getElem? (i := 199) rfl) rfl
theorem hd_D_readValue : y_D_readValue.cls = R_D ∧ y_D_readValue.cls ≠ "java/lang/invoke/MethodHandle" ∧ y_D_readValue.cls ≠ "java/lang/invoke/VarHandle" ∧ (parseMethodDescriptor y_D_readValue.desc).map (fun d => d.parameters.length) = some 3 := by decide +kernel
abbrev cc_D_takeReference : ByteArray := prog_1_method_22_code
def y_D_takeReference : MethodName := ⟨R_D, "takeReference", "(II)I"⟩
def ws_D_takeReference : List Cond := .code y_D_takeReference cc_D_takeReference 3 (some .int) :: TB
theorem cd_D_takeReference : Cond.code y_D_takeReference cc_D_takeReference 3 (some .int) ∈ TB := tb_of (List.mem_of_getElem? (i := 203) rfl) rfl
theorem hd_D_takeReference : y_D_takeReference.cls = R_D ∧ y_D_takeReference.cls ≠ "java/lang/invoke/MethodHandle" ∧ y_D_takeReference.cls ≠ "java/lang/invoke/VarHandle" ∧ (parseMethodDescriptor y_D_takeReference.desc).map (fun d => d.parameters.length) = some 2 := by decide +kernel
abbrev cc_D_takeEntity : ByteArray := prog_1_method_23_code
def y_D_takeEntity : MethodName := ⟨R_D, "takeEntity", "(III)I"⟩
def ws_D_takeEntity : List Cond := .code y_D_takeEntity cc_D_takeEntity 6 (some .int) :: TB
theorem cd_D_takeEntity : Cond.code y_D_takeEntity cc_D_takeEntity 6 (some .int) ∈ TB := tb_of (List.mem_of_getElem? (i := 207) rfl) rfl
theorem hd_D_takeEntity : y_D_takeEntity.cls = R_D ∧ y_D_takeEntity.cls ≠ "java/lang/invoke/MethodHandle" ∧ y_D_takeEntity.cls ≠ "java/lang/invoke/VarHandle" ∧ (parseMethodDescriptor y_D_takeEntity.desc).map (fun d => d.parameters.length) = some 3 := by decide +kernel
abbrev cc_D_failBroken : ByteArray := prog_1_method_20_code
def y_D_failBroken : MethodName := ⟨R_D, "failBroken", "(LValueDesk$Row;II)I"⟩
def ws_D_failBroken : List Cond := .code y_D_failBroken cc_D_failBroken 4 (some .int) :: TB
theorem cd_D_failBroken : Cond.code y_D_failBroken cc_D_failBroken 4 (some .int) ∈ TB := tb_of (List.mem_of_getElem? (i := 212) rfl) rfl
theorem hd_D_failBroken : y_D_failBroken.cls = R_D ∧ y_D_failBroken.cls ≠ "java/lang/invoke/MethodHandle" ∧ y_D_failBroken.cls ≠ "java/lang/invoke/VarHandle" ∧ (parseMethodDescriptor y_D_failBroken.desc).map (fun d => d.parameters.length) = some 3 := by decide +kernel
abbrev cc_D_takeByte : ByteArray := prog_1_method_21_code
def y_D_takeByte : MethodName := ⟨R_D, "takeByte", "(II)I"⟩
def ws_D_takeByte : List Cond := .code y_D_takeByte cc_D_takeByte 3 (some .int) :: TB
theorem cd_D_takeByte : Cond.code y_D_takeByte cc_D_takeByte 3 (some .int) ∈ TB := tb_of (List.mem_of_getElem? (i := 216) rfl) rfl
theorem hd_D_takeByte : y_D_takeByte.cls = R_D ∧ y_D_takeByte.cls ≠ "java/lang/invoke/MethodHandle" ∧ y_D_takeByte.cls ≠ "java/lang/invoke/VarHandle" ∧ (parseMethodDescriptor y_D_takeByte.desc).map (fun d => d.parameters.length) = some 2 := by decide +kernel
abbrev cc_R_squeeze : ByteArray := prog_4_method_7_code
def y_R_squeeze : MethodName := ⟨R_R, "squeeze", "()V"⟩
def ws_R_squeeze : List Cond := .code y_R_squeeze cc_R_squeeze 3 none :: TB
theorem cd_R_squeeze : Cond.code y_R_squeeze cc_R_squeeze 3 none ∈ TB := tb_of (List.mem_of_getElem? (i := 220) rfl) rfl
theorem hd_R_squeeze : y_R_squeeze.cls = R_R ∧ y_R_squeeze.cls ≠ "java/lang/invoke/MethodHandle" ∧ y_R_squeeze.cls ≠ "java/lang/invoke/VarHandle" ∧ (parseMethodDescriptor y_R_squeeze.desc).map (fun d => d.parameters.length) = some 0 := by decide +kernel
abbrev cc_D_place : ByteArray := prog_1_method_5_code
def y_D_place : MethodName := ⟨R_D, "place", "()I"⟩
def ws_D_place : List Cond := .code y_D_place cc_D_place 1 (some .int) :: TB
theorem cd_D_place : Cond.code y_D_place cc_D_place 1 (some .int) ∈ TB := tb_of (List.mem_of_getElem? (i := 224) rfl) rfl
theorem hd_D_place : y_D_place.cls = R_D ∧ y_D_place.cls ≠ "java/lang/invoke/MethodHandle" ∧ y_D_place.cls ≠ "java/lang/invoke/VarHandle" ∧ (parseMethodDescriptor y_D_place.desc).map (fun d => d.parameters.length) = some 0 := by decide +kernel
abbrev cc_D_characters : ByteArray := prog_1_method_6_code
def y_D_characters : MethodName := ⟨R_D, "characters", "(I)J"⟩
def ws_D_characters : List Cond := .code y_D_characters cc_D_characters 2 (some .long) :: TB
theorem cd_D_characters : Cond.code y_D_characters cc_D_characters 2 (some .long) ∈ TB := tb_of (List.mem_of_getElem? (i := 228) rfl) rfl
theorem hd_D_characters : y_D_characters.cls = R_D ∧ y_D_characters.cls ≠ "java/lang/invoke/MethodHandle" ∧ y_D_characters.cls ≠ "java/lang/invoke/VarHandle" ∧ (parseMethodDescriptor y_D_characters.desc).map (fun d => d.parameters.length) = some 1 := by decide +kernel
abbrev cc_R_wordAt : ByteArray := prog_4_method_6_code
def y_R_wordAt : MethodName := ⟨R_R, "wordAt", "(I)J"⟩
def ws_R_wordAt : List Cond := .code y_R_wordAt cc_R_wordAt 5 (some .long) :: TB
theorem cd_R_wordAt : Cond.code y_R_wordAt cc_R_wordAt 5 (some .long) ∈ TB := tb_of (List.mem_of_getElem? (i := 232) rfl) rfl
theorem hd_R_wordAt : y_R_wordAt.cls = R_R ∧ y_R_wordAt.cls ≠ "java/lang/invoke/MethodHandle" ∧ y_R_wordAt.cls ≠ "java/lang/invoke/VarHandle" ∧ (parseMethodDescriptor y_R_wordAt.desc).map (fun d => d.parameters.length) = some 1 := by decide +kernel
abbrev cc_D_text : ByteArray := prog_1_method_7_code
def y_D_text : MethodName := ⟨R_D, "text", "(II)J"⟩
def ws_D_text : List Cond := .code y_D_text cc_D_text 4 (some .long) :: TB
theorem cd_D_text : Cond.code y_D_text cc_D_text 4 (some .long) ∈ TB := tb_of (List.mem_of_getElem? (i := 237) rfl) rfl
theorem hd_D_text : y_D_text.cls = R_D ∧ y_D_text.cls ≠ "java/lang/invoke/MethodHandle" ∧ y_D_text.cls ≠ "java/lang/invoke/VarHandle" ∧ (parseMethodDescriptor y_D_text.desc).map (fun d => d.parameters.length) = some 2 := by decide +kernel
abbrev cc_D_clear : ByteArray := prog_1_method_8_code
def y_D_clear : MethodName := ⟨R_D, "clear", "()I"⟩
def ws_D_clear : List Cond := .code y_D_clear cc_D_clear 3 (some .int) :: TB
theorem cd_D_clear : Cond.code y_D_clear cc_D_clear 3 (some .int) ∈ TB := tb_of (List.mem_of_getElem? (i := 242) rfl) rfl
theorem hd_D_clear : y_D_clear.cls = R_D ∧ y_D_clear.cls ≠ "java/lang/invoke/MethodHandle" ∧ y_D_clear.cls ≠ "java/lang/invoke/VarHandle" ∧ (parseMethodDescriptor y_D_clear.desc).map (fun d => d.parameters.length) = some 0 := by decide +kernel
abbrev cc_D_known : ByteArray := prog_1_method_10_code
def y_D_known : MethodName := ⟨R_D, "known", "()I"⟩
def ws_D_known : List Cond := .code y_D_known cc_D_known 3 (some .int) :: TB
theorem cd_D_known : Cond.code y_D_known cc_D_known 3 (some .int) ∈ TB := tb_of (List.mem_of_getElem? (i := 246) rfl) rfl
theorem hd_D_known : y_D_known.cls = R_D ∧ y_D_known.cls ≠ "java/lang/invoke/MethodHandle" ∧ y_D_known.cls ≠ "java/lang/invoke/VarHandle" ∧ (parseMethodDescriptor y_D_known.desc).map (fun d => d.parameters.length) = some 0 := by decide +kernel
abbrev cc_D_count : ByteArray := prog_1_method_9_code
def y_D_count : MethodName := ⟨R_D, "count", "(I)I"⟩
def ws_D_count : List Cond := .code y_D_count cc_D_count 2 (some .int) :: TB
theorem cd_D_count : Cond.code y_D_count cc_D_count 2 (some .int) ∈ TB := tb_of (List.mem_of_getElem? (i := 250) rfl) rfl
theorem hd_D_count : y_D_count.cls = R_D ∧ y_D_count.cls ≠ "java/lang/invoke/MethodHandle" ∧ y_D_count.cls ≠ "java/lang/invoke/VarHandle" ∧ (parseMethodDescriptor y_D_count.desc).map (fun d => d.parameters.length) = some 1 := by decide +kernel
abbrev cc_M_init : ByteArray := prog_6_method_1_code
def y_M_init : MethodName := ⟨R_M, "<init>", "()V"⟩
def ws_M_init : List Cond := .code y_M_init cc_M_init 1 none :: TB
theorem cd_M_init : Cond.code y_M_init cc_M_init 1 none ∈ TB := tb_of (List.mem_of_getElem? (i := 255) rfl) rfl
theorem hd_M_init : y_M_init.cls = R_M ∧ y_M_init.cls ≠ "java/lang/invoke/MethodHandle" ∧ y_M_init.cls ≠ "java/lang/invoke/VarHandle" ∧ (parseMethodDescriptor y_M_init.desc).map (fun d => d.parameters.length) = some 0 := by decide +kernel
abbrev cc_M_put : ByteArray := prog_6_method_16_code
def y_M_put : MethodName := ⟨R_M, "put", "(JI)Z"⟩
def ws_M_put : List Cond := .code y_M_put cc_M_put 5 (some .boolean) :: TB
theorem cd_M_put : Cond.code y_M_put cc_M_put 5 (some .boolean) ∈ TB := tb_of (List.mem_of_getElem? (i := 325) rfl) rfl
theorem hd_M_put : y_M_put.cls = R_M ∧ y_M_put.cls ≠ "java/lang/invoke/MethodHandle" ∧ y_M_put.cls ≠ "java/lang/invoke/VarHandle" ∧ (parseMethodDescriptor y_M_put.desc).map (fun d => d.parameters.length) = some 2 := by decide +kernel
abbrev cc_M_define : ByteArray := prog_6_method_19_code
def y_M_define : MethodName := ⟨R_M, "define", "(I)I"⟩
def ws_M_define : List Cond := .code y_M_define cc_M_define 5 (some .int) :: TB
theorem cd_M_define : Cond.code y_M_define cc_M_define 5 (some .int) ∈ TB := tb_of (List.mem_of_getElem? (i := 329) rfl) rfl
theorem hd_M_define : y_M_define.cls = R_M ∧ y_M_define.cls ≠ "java/lang/invoke/MethodHandle" ∧ y_M_define.cls ≠ "java/lang/invoke/VarHandle" ∧ (parseMethodDescriptor y_M_define.desc).map (fun d => d.parameters.length) = some 1 := by decide +kernel
abbrev cc_M_begin : ByteArray := prog_6_method_17_code
def y_M_begin : MethodName := ⟨R_M, "begin", "()V"⟩
def ws_M_begin : List Cond := .code y_M_begin cc_M_begin 1 none :: TB
theorem cd_M_begin : Cond.code y_M_begin cc_M_begin 1 none ∈ TB := tb_of (List.mem_of_getElem? (i := 333) rfl) rfl
theorem hd_M_begin : y_M_begin.cls = R_M ∧ y_M_begin.cls ≠ "java/lang/invoke/MethodHandle" ∧ y_M_begin.cls ≠ "java/lang/invoke/VarHandle" ∧ (parseMethodDescriptor y_M_begin.desc).map (fun d => d.parameters.length) = some 0 := by decide +kernel
abbrev cc_M_look : ByteArray := prog_6_method_8_code
def y_M_look : MethodName := ⟨R_M, "look", "(I)V"⟩
def ws_M_look : List Cond := .code y_M_look cc_M_look 6 none :: TB
theorem cd_M_look : Cond.code y_M_look cc_M_look 6 none ∈ TB := tb_of (List.mem_of_getElem? (i := 337) rfl) rfl
theorem hd_M_look : y_M_look.cls = R_M ∧ y_M_look.cls ≠ "java/lang/invoke/MethodHandle" ∧ y_M_look.cls ≠ "java/lang/invoke/VarHandle" ∧ (parseMethodDescriptor y_M_look.desc).map (fun d => d.parameters.length) = some 1 := by decide +kernel
abbrev cc_M_byteOf : ByteArray := prog_6_method_4_code
def y_M_byteOf : MethodName := ⟨R_M, "byteOf", "(I)I"⟩
def ws_M_byteOf : List Cond := .code y_M_byteOf cc_M_byteOf 2 (some .int) :: TB
theorem cd_M_byteOf : Cond.code y_M_byteOf cc_M_byteOf 2 (some .int) ∈ TB := tb_of (List.mem_of_getElem? (i := 341) rfl) rfl
theorem hd_M_byteOf : y_M_byteOf.cls = R_M ∧ y_M_byteOf.cls ≠ "java/lang/invoke/MethodHandle" ∧ y_M_byteOf.cls ≠ "java/lang/invoke/VarHandle" ∧ (parseMethodDescriptor y_M_byteOf.desc).map (fun d => d.parameters.length) = some 1 := by decide +kernel
abbrev cc_M_length : ByteArray := prog_6_method_3_code
def y_M_length : MethodName := ⟨R_M, "length", "()I"⟩
def ws_M_length : List Cond := .code y_M_length cc_M_length 1 (some .int) :: TB
theorem cd_M_length : Cond.code y_M_length cc_M_length 1 (some .int) ∈ TB := tb_of (List.mem_of_getElem? (i := 345) rfl) rfl
theorem hd_M_length : y_M_length.cls = R_M ∧ y_M_length.cls ≠ "java/lang/invoke/MethodHandle" ∧ y_M_length.cls ≠ "java/lang/invoke/VarHandle" ∧ (parseMethodDescriptor y_M_length.desc).map (fun d => d.parameters.length) = some 0 := by decide +kernel
abbrev cc_M_digit : ByteArray := prog_6_method_6_code
def y_M_digit : MethodName := ⟨R_M, "digit", "(IZ)I"⟩
def ws_M_digit : List Cond := .code y_M_digit cc_M_digit 2 (some .int) :: TB
theorem cd_M_digit : Cond.code y_M_digit cc_M_digit 2 (some .int) ∈ TB := tb_of (List.mem_of_getElem? (i := 348) rfl) rfl
theorem hd_M_digit : y_M_digit.cls = R_M ∧ y_M_digit.cls ≠ "java/lang/invoke/MethodHandle" ∧ y_M_digit.cls ≠ "java/lang/invoke/VarHandle" ∧ (parseMethodDescriptor y_M_digit.desc).map (fun d => d.parameters.length) = some 2 := by decide +kernel
abbrev cc_M_stops : ByteArray := prog_6_method_7_code
def y_M_stops : MethodName := ⟨R_M, "stops", "(I)V"⟩
def ws_M_stops : List Cond := .code y_M_stops cc_M_stops 2 none :: TB
theorem cd_M_stops : Cond.code y_M_stops cc_M_stops 2 none ∈ TB := tb_of (List.mem_of_getElem? (i := 352) rfl) rfl
theorem hd_M_stops : y_M_stops.cls = R_M ∧ y_M_stops.cls ≠ "java/lang/invoke/MethodHandle" ∧ y_M_stops.cls ≠ "java/lang/invoke/VarHandle" ∧ (parseMethodDescriptor y_M_stops.desc).map (fun d => d.parameters.length) = some 1 := by decide +kernel
abbrev cc_M_fails : ByteArray := prog_6_method_5_code
def y_M_fails : MethodName := ⟨R_M, "fails", "(II)V"⟩
def ws_M_fails : List Cond := .code y_M_fails cc_M_fails 3 none :: TB
theorem cd_M_fails : Cond.code y_M_fails cc_M_fails 3 none ∈ TB := tb_of (List.mem_of_getElem? (i := 356) rfl) rfl
theorem hd_M_fails : y_M_fails.cls = R_M ∧ y_M_fails.cls ≠ "java/lang/invoke/MethodHandle" ∧ y_M_fails.cls ≠ "java/lang/invoke/VarHandle" ∧ (parseMethodDescriptor y_M_fails.desc).map (fun d => d.parameters.length) = some 2 := by decide +kernel
abbrev cc_M_isCharacter : ByteArray := prog_6_method_2_code
def y_M_isCharacter : MethodName := ⟨R_M, "isCharacter", "(I)Z"⟩
def ws_M_isCharacter : List Cond := .code y_M_isCharacter cc_M_isCharacter 1 (some .boolean) :: TB
theorem cd_M_isCharacter : Cond.code y_M_isCharacter cc_M_isCharacter 1 (some .boolean) ∈ TB := tb_of (List.mem_of_getElem? (i := 359) rfl) rfl
theorem hd_M_isCharacter : y_M_isCharacter.cls = R_M ∧ y_M_isCharacter.cls ≠ "java/lang/invoke/MethodHandle" ∧ y_M_isCharacter.cls ≠ "java/lang/invoke/VarHandle" ∧ (parseMethodDescriptor y_M_isCharacter.desc).map (fun d => d.parameters.length) = some 1 := by decide +kernel
abbrev cc_M_defining : ByteArray := prog_6_method_18_code
def y_M_defining : MethodName := ⟨R_M, "defining", "(II)V"⟩
def ws_M_defining : List Cond := .code y_M_defining cc_M_defining 3 none :: TB
theorem cd_M_defining : Cond.code y_M_defining cc_M_defining 3 none ∈ TB := tb_of (List.mem_of_getElem? (i := 363) rfl) rfl
theorem hd_M_defining : y_M_defining.cls = R_M ∧ y_M_defining.cls ≠ "java/lang/invoke/MethodHandle" ∧ y_M_defining.cls ≠ "java/lang/invoke/VarHandle" ∧ (parseMethodDescriptor y_M_defining.desc).map (fun d => d.parameters.length) = some 2 := by decide +kernel
abbrev cc_M_value : ByteArray := prog_6_method_20_code
def y_M_value : MethodName := ⟨R_M, "value", "(II)I"⟩
def ws_M_value : List Cond := .code y_M_value cc_M_value 4 (some .int) :: TB
theorem cd_M_value : Cond.code y_M_value cc_M_value 4 (some .int) ∈ TB := tb_of (List.mem_of_getElem? (i := 367) rfl) rfl
theorem hd_M_value : y_M_value.cls = R_M ∧ y_M_value.cls ≠ "java/lang/invoke/MethodHandle" ∧ y_M_value.cls ≠ "java/lang/invoke/VarHandle" ∧ (parseMethodDescriptor y_M_value.desc).map (fun d => d.parameters.length) = some 2 := by decide +kernel
abbrev cc_M_step : ByteArray := prog_6_method_12_code
def y_M_step : MethodName := ⟨R_M, "step", "(I)V"⟩
def ws_M_step : List Cond := .code y_M_step cc_M_step 4 none :: TB
theorem cd_M_step : Cond.code y_M_step cc_M_step 4 none ∈ TB := tb_of (List.mem_of_getElem? (i := 372) rfl) rfl
theorem hd_M_step : y_M_step.cls = R_M ∧ y_M_step.cls ≠ "java/lang/invoke/MethodHandle" ∧ y_M_step.cls ≠ "java/lang/invoke/VarHandle" ∧ (parseMethodDescriptor y_M_step.desc).map (fun d => d.parameters.length) = some 1 := by decide +kernel
abbrev cc_M_open : ByteArray := prog_6_method_11_code
def y_M_open : MethodName := ⟨R_M, "open", "(III)V"⟩
def ws_M_open : List Cond := .code y_M_open cc_M_open 4 none :: TB
theorem cd_M_open : Cond.code y_M_open cc_M_open 4 none ∈ TB := tb_of (List.mem_of_getElem? (i := 376) rfl) rfl
theorem hd_M_open : y_M_open.cls = R_M ∧ y_M_open.cls ≠ "java/lang/invoke/MethodHandle" ∧ y_M_open.cls ≠ "java/lang/invoke/VarHandle" ∧ (parseMethodDescriptor y_M_open.desc).map (fun d => d.parameters.length) = some 3 := by decide +kernel
abbrev cc_M_isOpen : ByteArray := prog_6_method_10_code
def y_M_isOpen : MethodName := ⟨R_M, "isOpen", "(I)Z"⟩
def ws_M_isOpen : List Cond := .code y_M_isOpen cc_M_isOpen 3 (some .boolean) :: TB
theorem cd_M_isOpen : Cond.code y_M_isOpen cc_M_isOpen 3 (some .boolean) ∈ TB := tb_of (List.mem_of_getElem? (i := 380) rfl) rfl
theorem hd_M_isOpen : y_M_isOpen.cls = R_M ∧ y_M_isOpen.cls ≠ "java/lang/invoke/MethodHandle" ∧ y_M_isOpen.cls ≠ "java/lang/invoke/VarHandle" ∧ (parseMethodDescriptor y_M_isOpen.desc).map (fun d => d.parameters.length) = some 1 := by decide +kernel
abbrev cc_M_add : ByteArray := prog_6_method_9_code
def y_M_add : MethodName := ⟨R_M, "add", "(II)V"⟩
def ws_M_add : List Cond := .code y_M_add cc_M_add 3 none :: TB
theorem cd_M_add : Cond.code y_M_add cc_M_add 3 none ∈ TB := tb_of (List.mem_of_getElem? (i := 384) rfl) rfl
theorem hd_M_add : y_M_add.cls = R_M ∧ y_M_add.cls ≠ "java/lang/invoke/MethodHandle" ∧ y_M_add.cls ≠ "java/lang/invoke/VarHandle" ∧ (parseMethodDescriptor y_M_add.desc).map (fun d => d.parameters.length) = some 2 := by decide +kernel
abbrev cc_M_trim : ByteArray := prog_6_method_13_code
def y_M_trim : MethodName := ⟨R_M, "trim", "()V"⟩
def ws_M_trim : List Cond := .code y_M_trim cc_M_trim 4 none :: TB
theorem cd_M_trim : Cond.code y_M_trim cc_M_trim 4 none ∈ TB := tb_of (List.mem_of_getElem? (i := 388) rfl) rfl
theorem hd_M_trim : y_M_trim.cls = R_M ∧ y_M_trim.cls ≠ "java/lang/invoke/MethodHandle" ∧ y_M_trim.cls ≠ "java/lang/invoke/VarHandle" ∧ (parseMethodDescriptor y_M_trim.desc).map (fun d => d.parameters.length) = some 0 := by decide +kernel
abbrev cc_M_place : ByteArray := prog_6_method_21_code
def y_M_place : MethodName := ⟨R_M, "place", "()I"⟩
def ws_M_place : List Cond := .code y_M_place cc_M_place 1 (some .int) :: TB
theorem cd_M_place : Cond.code y_M_place cc_M_place 1 (some .int) ∈ TB := tb_of (List.mem_of_getElem? (i := 392) rfl) rfl
theorem hd_M_place : y_M_place.cls = R_M ∧ y_M_place.cls ≠ "java/lang/invoke/MethodHandle" ∧ y_M_place.cls ≠ "java/lang/invoke/VarHandle" ∧ (parseMethodDescriptor y_M_place.desc).map (fun d => d.parameters.length) = some 0 := by decide +kernel
abbrev cc_M_characters : ByteArray := prog_6_method_22_code
def y_M_characters : MethodName := ⟨R_M, "characters", "(I)J"⟩
def ws_M_characters : List Cond := .code y_M_characters cc_M_characters 2 (some .long) :: TB
theorem cd_M_characters : Cond.code y_M_characters cc_M_characters 2 (some .long) ∈ TB := tb_of (List.mem_of_getElem? (i := 396) rfl) rfl
theorem hd_M_characters : y_M_characters.cls = R_M ∧ y_M_characters.cls ≠ "java/lang/invoke/MethodHandle" ∧ y_M_characters.cls ≠ "java/lang/invoke/VarHandle" ∧ (parseMethodDescriptor y_M_characters.desc).map (fun d => d.parameters.length) = some 1 := by decide +kernel
abbrev cc_M_eight : ByteArray := prog_6_method_14_code
def y_M_eight : MethodName := ⟨R_M, "eight", "([IIII)J"⟩
def ws_M_eight : List Cond := .code y_M_eight cc_M_eight 7 (some .long) :: TB
theorem cd_M_eight : Cond.code y_M_eight cc_M_eight 7 (some .long) ∈ TB := tb_of (List.mem_of_getElem? (i := 400) rfl) rfl
theorem hd_M_eight : y_M_eight.cls = R_M ∧ y_M_eight.cls ≠ "java/lang/invoke/MethodHandle" ∧ y_M_eight.cls ≠ "java/lang/invoke/VarHandle" ∧ (parseMethodDescriptor y_M_eight.desc).map (fun d => d.parameters.length) = some 4 := by decide +kernel
abbrev cc_M_text : ByteArray := prog_6_method_23_code
def y_M_text : MethodName := ⟨R_M, "text", "(II)J"⟩
def ws_M_text : List Cond := .code y_M_text cc_M_text 3 (some .long) :: TB
theorem cd_M_text : Cond.code y_M_text cc_M_text 3 (some .long) ∈ TB := tb_of (List.mem_of_getElem? (i := 404) rfl) rfl
theorem hd_M_text : y_M_text.cls = R_M ∧ y_M_text.cls ≠ "java/lang/invoke/MethodHandle" ∧ y_M_text.cls ≠ "java/lang/invoke/VarHandle" ∧ (parseMethodDescriptor y_M_text.desc).map (fun d => d.parameters.length) = some 2 := by decide +kernel
abbrev cc_M_clear : ByteArray := prog_6_method_25_code
def y_M_clear : MethodName := ⟨R_M, "clear", "()I"⟩
def ws_M_clear : List Cond := .code y_M_clear cc_M_clear 3 (some .int) :: TB
theorem cd_M_clear : Cond.code y_M_clear cc_M_clear 3 (some .int) ∈ TB := tb_of (List.mem_of_getElem? (i := 408) rfl) rfl
theorem hd_M_clear : y_M_clear.cls = R_M ∧ y_M_clear.cls ≠ "java/lang/invoke/MethodHandle" ∧ y_M_clear.cls ≠ "java/lang/invoke/VarHandle" ∧ (parseMethodDescriptor y_M_clear.desc).map (fun d => d.parameters.length) = some 0 := by decide +kernel
abbrev cc_M_known : ByteArray := prog_6_method_24_code
def y_M_known : MethodName := ⟨R_M, "known", "()I"⟩
def ws_M_known : List Cond := .code y_M_known cc_M_known 3 (some .int) :: TB
theorem cd_M_known : Cond.code y_M_known cc_M_known 3 (some .int) ∈ TB := tb_of (List.mem_of_getElem? (i := 412) rfl) rfl
theorem hd_M_known : y_M_known.cls = R_M ∧ y_M_known.cls ≠ "java/lang/invoke/MethodHandle" ∧ y_M_known.cls ≠ "java/lang/invoke/VarHandle" ∧ (parseMethodDescriptor y_M_known.desc).map (fun d => d.parameters.length) = some 0 := by decide +kernel
abbrev cc_M_count : ByteArray := prog_6_method_26_code
def y_M_count : MethodName := ⟨R_M, "count", "(I)I"⟩
def ws_M_count : List Cond := .code y_M_count cc_M_count 2 (some .int) :: TB
theorem cd_M_count : Cond.code y_M_count cc_M_count 2 (some .int) ∈ TB := tb_of (List.mem_of_getElem? (i := 416) rfl) rfl
theorem hd_M_count : y_M_count.cls = R_M ∧ y_M_count.cls ≠ "java/lang/invoke/MethodHandle" ∧ y_M_count.cls ≠ "java/lang/invoke/VarHandle" ∧ (parseMethodDescriptor y_M_count.desc).map (fun d => d.parameters.length) = some 1 := by decide +kernel
theorem in0_E : ∀ w ∈ u_ws R_E T_E 3, w ∈ TB := by decide +kernel
theorem in0_F : ∀ w ∈ u_ws R_F T_F 4, w ∈ TB := by decide +kernel
theorem in0_R : ∀ w ∈ u_ws R_R T_R 2, w ∈ TB := by decide +kernel
theorem in0_D : ∀ w ∈ u_ws R_D T_D 9, w ∈ TB := by decide +kernel
theorem in0_M : ∀ w ∈ u_ws R_M T_M 21, w ∈ TB := by decide +kernel
abbrev hp_fl : List (String × Nat × String × String × String × String) := [(R_D, 91, "ValueDesk$Entity", "row", "LValueDesk$Row;", "ValueDesk"), (R_D, 60, "ValueDesk$Entity", "known", "Z", "ValueDesk"), (R_D, 152, "ValueDesk$Entity", "open", "Z", "ValueDesk"), (R_D, 123, "ValueDesk$Reference", "whole", "Z", "ValueDesk"), (R_D, 126, "ValueDesk$Reference", "toEntity", "Z", "ValueDesk"), (R_D, 136, "ValueDesk$Reference", "number", "I", "ValueDesk"), (R_D, 108, "ValueDesk$Reference", "end", "I", "ValueDesk")]
abbrev hp_ml : List (String × Nat × MethodName × String) := [(R_D, 30, y_E_init, "ValueDesk"), (R_D, 33, y_F_init, "ValueDesk")]
end
section
theorem tq_0 : Cond.methodLink R_D 1 objectInit ∈ TB := tb_of (List.mem_of_getElem? (i := 12) (by decide +kernel)) rfl
theorem tq_1 : Cond.classLink R_D 7 R_R ∈ TB := tb_of (List.mem_of_getElem? (i := 15) (by decide +kernel)) rfl
theorem tq_2 : Cond.instantiable R_R 2 ∈ TB := tb_of (List.mem_of_getElem? (i := 16) (by decide +kernel)) rfl
theorem tq_3 : Cond.initialized R_R ∈ TB := tb_of (List.mem_of_getElem? (i := 2) (by decide +kernel)) rfl
theorem tq_4 : Cond.methodLink R_D 11 y_R_init ∈ TB := tb_of (List.mem_of_getElem? (i := 17) (by decide +kernel)) rfl
theorem tq_5 : Cond.instanceMethod y_R_init ∈ TB := tb_of (List.mem_of_getElem? (i := 18) (by decide +kernel)) rfl
theorem tq_6 : Cond.fieldLink R_D 14 "ValueDesk" "tape" "LValueDesk$Row;" ∈ TB := tb_of (List.mem_of_getElem? (i := 76) (by decide +kernel)) rfl
theorem tq_7 : Cond.fieldLink R_D 18 "ValueDesk" "draft" "LValueDesk$Row;" ∈ TB := tb_of (List.mem_of_getElem? (i := 77) (by decide +kernel)) rfl
theorem tq_8 : Cond.fieldLink R_D 21 "ValueDesk" "last" "LValueDesk$Row;" ∈ TB := tb_of (List.mem_of_getElem? (i := 78) (by decide +kernel)) rfl
theorem tq_9 : Cond.classLink R_D 24 R_E ∈ TB := tb_of (List.mem_of_getElem? (i := 32) (by decide +kernel)) rfl
theorem tq_10 : Cond.fieldLink R_D 26 "ValueDesk" "entities" "[LValueDesk$Entity;" ∈ TB := tb_of (List.mem_of_getElem? (i := 79) (by decide +kernel)) rfl
theorem tq_11 : Cond.instantiable R_E 3 ∈ TB := tb_of (List.mem_of_getElem? (i := 34) (by decide +kernel)) rfl
theorem tq_12 : Cond.initialized R_E ∈ TB := tb_of (List.mem_of_getElem? (i := 4) (by decide +kernel)) rfl
theorem tq_13 : Cond.instanceMethod y_E_init ∈ TB := tb_of (List.mem_of_getElem? (i := 36) (by decide +kernel)) rfl
theorem tq_14 : Cond.classLink R_D 31 R_F ∈ TB := tb_of (List.mem_of_getElem? (i := 53) (by decide +kernel)) rfl
theorem tq_15 : Cond.instantiable R_F 4 ∈ TB := tb_of (List.mem_of_getElem? (i := 54) (by decide +kernel)) rfl
theorem tq_16 : Cond.initialized R_F ∈ TB := tb_of (List.mem_of_getElem? (i := 5) (by decide +kernel)) rfl
theorem tq_17 : Cond.instanceMethod y_F_init ∈ TB := tb_of (List.mem_of_getElem? (i := 56) (by decide +kernel)) rfl
theorem tq_18 : Cond.fieldLink R_D 34 "ValueDesk" "reference" "LValueDesk$Reference;" ∈ TB := tb_of (List.mem_of_getElem? (i := 80) (by decide +kernel)) rfl
theorem tq_19 : Cond.fieldLink R_D 38 "ValueDesk" "faultPlace" "I" ∈ TB := tb_of (List.mem_of_getElem? (i := 81) (by decide +kernel)) rfl
theorem tq_20 : Cond.methodLink R_D 42 y_R_size ∈ TB := tb_of (List.mem_of_getElem? (i := 108) (by decide +kernel)) rfl
theorem tq_21 : Cond.instanceMethod y_R_size ∈ TB := tb_of (List.mem_of_getElem? (i := 109) (by decide +kernel)) rfl
theorem tq_22 : Cond.selects R_R y_R_size y_R_size ∈ TB := tb_of (List.mem_of_getElem? (i := 110) (by decide +kernel)) rfl
theorem tq_23 : Cond.methodLink R_D 46 y_R_add ∈ TB := tb_of (List.mem_of_getElem? (i := 112) (by decide +kernel)) rfl
theorem tq_24 : Cond.instanceMethod y_R_add ∈ TB := tb_of (List.mem_of_getElem? (i := 113) (by decide +kernel)) rfl
theorem tq_25 : Cond.selects R_R y_R_add y_R_add ∈ TB := tb_of (List.mem_of_getElem? (i := 114) (by decide +kernel)) rfl
theorem tq_26 : Cond.methodLink R_D 50 y_D_entityOf ∈ TB := tb_of (List.mem_of_getElem? (i := 120) (by decide +kernel)) rfl
theorem tq_27 : Cond.initialized R_D ∈ TB := tb_of (List.mem_of_getElem? (i := 1) (by decide +kernel)) rfl
theorem tq_28 : Cond.instanceMethod y_D_entityOf ∈ TB := tb_of (List.mem_of_getElem? (i := 122) (by decide +kernel)) rfl
theorem tq_29 : Cond.selects R_D y_D_entityOf y_D_entityOf ∈ TB := tb_se (List.mem_of_getElem? (i := 0) (by decide +kernel)) rfl
theorem tq_30 : Cond.methodLink R_D 54 y_D_readDraft ∈ TB := tb_of (List.mem_of_getElem? (i := 124) (by decide +kernel)) rfl
theorem tq_31 : Cond.instanceMethod y_D_readDraft ∈ TB := tb_of (List.mem_of_getElem? (i := 126) (by decide +kernel)) rfl
theorem tq_32 : Cond.selects R_D y_D_readDraft y_D_readDraft ∈ TB := tb_se (List.mem_of_getElem? (i := 1) (by decide +kernel)) rfl
theorem tq_33 : Cond.methodLink R_D 57 y_R_empty ∈ TB := tb_of (List.mem_of_getElem? (i := 128) (by decide +kernel)) rfl
theorem tq_34 : Cond.instanceMethod y_R_empty ∈ TB := tb_of (List.mem_of_getElem? (i := 129) (by decide +kernel)) rfl
theorem tq_35 : Cond.selects R_R y_R_empty y_R_empty ∈ TB := tb_of (List.mem_of_getElem? (i := 130) (by decide +kernel)) rfl
theorem tq_36 : Cond.methodLink R_D 64 y_E_learn ∈ TB := tb_of (List.mem_of_getElem? (i := 183) (by decide +kernel)) rfl
theorem tq_37 : Cond.instanceMethod y_E_learn ∈ TB := tb_of (List.mem_of_getElem? (i := 184) (by decide +kernel)) rfl
theorem tq_38 : Cond.selects R_E y_E_learn y_E_learn ∈ TB := tb_of (List.mem_of_getElem? (i := 185) (by decide +kernel)) rfl
theorem tq_39 : Cond.constant R_D 68 100000 ∈ TB := tb_of (List.mem_of_getElem? (i := 195) (by decide +kernel)) rfl
theorem tq_40 : Cond.fieldLink R_D 69 "ValueDesk" "limitOfMeter" "I" ∈ TB := tb_of (List.mem_of_getElem? (i := 82) (by decide +kernel)) rfl
theorem tq_41 : Cond.fieldLink R_D 72 "ValueDesk" "meter" "I" ∈ TB := tb_of (List.mem_of_getElem? (i := 83) (by decide +kernel)) rfl
theorem tq_42 : Cond.fieldLink R_D 75 "ValueDesk" "deepest" "I" ∈ TB := tb_of (List.mem_of_getElem? (i := 84) (by decide +kernel)) rfl
theorem tq_43 : Cond.methodLink R_D 78 y_D_readValue ∈ TB := tb_of (List.mem_of_getElem? (i := 196) (by decide +kernel)) rfl
theorem tq_44 : Cond.instanceMethod y_D_readValue ∈ TB := tb_of (List.mem_of_getElem? (i := 198) (by decide +kernel)) rfl
theorem tq_45 : Cond.selects R_D y_D_readValue y_D_readValue ∈ TB := tb_se (List.mem_of_getElem? (i := 11) (by decide +kernel)) rfl
theorem tq_46 : Cond.methodLink R_D 82 y_R_squeeze ∈ TB := tb_of (List.mem_of_getElem? (i := 217) (by decide +kernel)) rfl
theorem tq_47 : Cond.instanceMethod y_R_squeeze ∈ TB := tb_of (List.mem_of_getElem? (i := 218) (by decide +kernel)) rfl
theorem tq_48 : Cond.selects R_R y_R_squeeze y_R_squeeze ∈ TB := tb_of (List.mem_of_getElem? (i := 219) (by decide +kernel)) rfl
theorem tq_49 : Cond.methodLink R_D 85 y_R_wordAt ∈ TB := tb_of (List.mem_of_getElem? (i := 229) (by decide +kernel)) rfl
theorem tq_50 : Cond.instanceMethod y_R_wordAt ∈ TB := tb_of (List.mem_of_getElem? (i := 230) (by decide +kernel)) rfl
theorem tq_51 : Cond.selects R_R y_R_wordAt y_R_wordAt ∈ TB := tb_of (List.mem_of_getElem? (i := 231) (by decide +kernel)) rfl
theorem tq_52 : Cond.constantLong R_D 89 (-1) ∈ TB := tb_of (List.mem_of_getElem? (i := 238) (by decide +kernel)) rfl
theorem tq_53 : Cond.methodLink R_D 94 y_D_known ∈ TB := tb_of (List.mem_of_getElem? (i := 243) (by decide +kernel)) rfl
theorem tq_54 : Cond.instanceMethod y_D_known ∈ TB := tb_of (List.mem_of_getElem? (i := 245) (by decide +kernel)) rfl
theorem tq_55 : Cond.selects R_D y_D_known y_D_known ∈ TB := tb_se (List.mem_of_getElem? (i := 16) (by decide +kernel)) rfl
theorem tq_56 : Cond.methodLink R_D 96 y_D_fail ∈ TB := tb_of (List.mem_of_getElem? (i := 160) (by decide +kernel)) rfl
theorem tq_57 : Cond.instanceMethod y_D_fail ∈ TB := tb_of (List.mem_of_getElem? (i := 162) (by decide +kernel)) rfl
theorem tq_58 : Cond.selects R_D y_D_fail y_D_fail ∈ TB := tb_se (List.mem_of_getElem? (i := 6) (by decide +kernel)) rfl
theorem tq_59 : Cond.methodLink R_D 100 y_R_at ∈ TB := tb_of (List.mem_of_getElem? (i := 132) (by decide +kernel)) rfl
theorem tq_60 : Cond.instanceMethod y_R_at ∈ TB := tb_of (List.mem_of_getElem? (i := 133) (by decide +kernel)) rfl
theorem tq_61 : Cond.selects R_R y_R_at y_R_at ∈ TB := tb_of (List.mem_of_getElem? (i := 134) (by decide +kernel)) rfl
theorem tq_62 : Cond.methodLink R_D 104 y_F_read ∈ TB := tb_of (List.mem_of_getElem? (i := 136) (by decide +kernel)) rfl
theorem tq_63 : Cond.instanceMethod y_F_read ∈ TB := tb_of (List.mem_of_getElem? (i := 137) (by decide +kernel)) rfl
theorem tq_64 : Cond.selects R_F y_F_read y_F_read ∈ TB := tb_of (List.mem_of_getElem? (i := 138) (by decide +kernel)) rfl
theorem tq_65 : Cond.methodLink R_D 111 y_D_draftReference ∈ TB := tb_of (List.mem_of_getElem? (i := 156) (by decide +kernel)) rfl
theorem tq_66 : Cond.instanceMethod y_D_draftReference ∈ TB := tb_of (List.mem_of_getElem? (i := 158) (by decide +kernel)) rfl
theorem tq_67 : Cond.selects R_D y_D_draftReference y_D_draftReference ∈ TB := tb_se (List.mem_of_getElem? (i := 5) (by decide +kernel)) rfl
theorem tq_68 : Cond.methodLink R_D 114 y_D_draftByte ∈ TB := tb_of (List.mem_of_getElem? (i := 179) (by decide +kernel)) rfl
theorem tq_69 : Cond.instanceMethod y_D_draftByte ∈ TB := tb_of (List.mem_of_getElem? (i := 181) (by decide +kernel)) rfl
theorem tq_70 : Cond.selects R_D y_D_draftByte y_D_draftByte ∈ TB := tb_se (List.mem_of_getElem? (i := 10) (by decide +kernel)) rfl
theorem tq_71 : Cond.methodLink R_D 117 y_D_isCharacter ∈ TB := tb_of (List.mem_of_getElem? (i := 172) (by decide +kernel)) rfl
theorem tq_72 : Cond.static y_D_isCharacter ∈ TB := tb_of (List.mem_of_getElem? (i := 173) (by decide +kernel)) rfl
theorem tq_73 : Cond.methodLink R_D 120 y_D_addTo ∈ TB := tb_of (List.mem_of_getElem? (i := 175) (by decide +kernel)) rfl
theorem tq_74 : Cond.instanceMethod y_D_addTo ∈ TB := tb_of (List.mem_of_getElem? (i := 177) (by decide +kernel)) rfl
theorem tq_75 : Cond.selects R_D y_D_addTo y_D_addTo ∈ TB := tb_se (List.mem_of_getElem? (i := 9) (by decide +kernel)) rfl
theorem tq_76 : Cond.methodLink R_D 129 y_D_draftAsItStands ∈ TB := tb_of (List.mem_of_getElem? (i := 164) (by decide +kernel)) rfl
theorem tq_77 : Cond.instanceMethod y_D_draftAsItStands ∈ TB := tb_of (List.mem_of_getElem? (i := 166) (by decide +kernel)) rfl
theorem tq_78 : Cond.selects R_D y_D_draftAsItStands y_D_draftAsItStands ∈ TB := tb_se (List.mem_of_getElem? (i := 7) (by decide +kernel)) rfl
theorem tq_79 : Cond.methodLink R_D 132 y_D_addByNumber ∈ TB := tb_of (List.mem_of_getElem? (i := 168) (by decide +kernel)) rfl
theorem tq_80 : Cond.instanceMethod y_D_addByNumber ∈ TB := tb_of (List.mem_of_getElem? (i := 170) (by decide +kernel)) rfl
theorem tq_81 : Cond.selects R_D y_D_addByNumber y_D_addByNumber ∈ TB := tb_se (List.mem_of_getElem? (i := 8) (by decide +kernel)) rfl
theorem tq_82 : Cond.methodLink R_D 139 y_D_takeReference ∈ TB := tb_of (List.mem_of_getElem? (i := 200) (by decide +kernel)) rfl
theorem tq_83 : Cond.instanceMethod y_D_takeReference ∈ TB := tb_of (List.mem_of_getElem? (i := 202) (by decide +kernel)) rfl
theorem tq_84 : Cond.selects R_D y_D_takeReference y_D_takeReference ∈ TB := tb_se (List.mem_of_getElem? (i := 12) (by decide +kernel)) rfl
theorem tq_85 : Cond.methodLink R_D 142 y_D_failBroken ∈ TB := tb_of (List.mem_of_getElem? (i := 209) (by decide +kernel)) rfl
theorem tq_86 : Cond.instanceMethod y_D_failBroken ∈ TB := tb_of (List.mem_of_getElem? (i := 211) (by decide +kernel)) rfl
theorem tq_87 : Cond.selects R_D y_D_failBroken y_D_failBroken ∈ TB := tb_se (List.mem_of_getElem? (i := 14) (by decide +kernel)) rfl
theorem tq_88 : Cond.methodLink R_D 145 y_D_takeByte ∈ TB := tb_of (List.mem_of_getElem? (i := 213) (by decide +kernel)) rfl
theorem tq_89 : Cond.instanceMethod y_D_takeByte ∈ TB := tb_of (List.mem_of_getElem? (i := 215) (by decide +kernel)) rfl
theorem tq_90 : Cond.selects R_D y_D_takeByte y_D_takeByte ∈ TB := tb_se (List.mem_of_getElem? (i := 15) (by decide +kernel)) rfl
theorem tq_91 : Cond.methodLink R_D 148 y_D_takeEntity ∈ TB := tb_of (List.mem_of_getElem? (i := 204) (by decide +kernel)) rfl
theorem tq_92 : Cond.instanceMethod y_D_takeEntity ∈ TB := tb_of (List.mem_of_getElem? (i := 206) (by decide +kernel)) rfl
theorem tq_93 : Cond.selects R_D y_D_takeEntity y_D_takeEntity ∈ TB := tb_se (List.mem_of_getElem? (i := 13) (by decide +kernel)) rfl
theorem tq_94 : Cond.methodLink R_D 155 Lib.Math.max.name ∈ TB := tb_of (List.mem_of_getElem? (i := 208) (by decide +kernel)) rfl
theorem tq_95 : Cond.methodLink R_M 1 objectInit ∈ TB := tb_of (List.mem_of_getElem? (i := 256) (by decide +kernel)) rfl
theorem tq_96 : Cond.fieldLink R_M 7 "ValueDeskModel" "thrownCode" "I" ∈ TB := tb_of (List.mem_of_getElem? (i := 257) (by decide +kernel)) rfl
theorem tq_97 : Cond.fieldLink R_M 13 "ValueDeskModel" "tape" "[I" ∈ TB := tb_of (List.mem_of_getElem? (i := 258) (by decide +kernel)) rfl
theorem tq_98 : Cond.fieldLink R_M 17 "ValueDeskModel" "bytes" "I" ∈ TB := tb_of (List.mem_of_getElem? (i := 259) (by decide +kernel)) rfl
theorem tq_99 : Cond.fieldLink R_M 20 "ValueDeskModel" "has" "[Z" ∈ TB := tb_of (List.mem_of_getElem? (i := 260) (by decide +kernel)) rfl
theorem tq_100 : Cond.fieldLink R_M 24 "ValueDeskModel" "size" "[I" ∈ TB := tb_of (List.mem_of_getElem? (i := 261) (by decide +kernel)) rfl
theorem tq_101 : Cond.fieldLink R_M 27 "ValueDeskModel" "texts" "[I" ∈ TB := tb_of (List.mem_of_getElem? (i := 262) (by decide +kernel)) rfl
theorem tq_102 : Cond.fieldLink R_M 30 "ValueDeskModel" "value" "[I" ∈ TB := tb_of (List.mem_of_getElem? (i := 263) (by decide +kernel)) rfl
theorem tq_103 : Cond.fieldLink R_M 33 "ValueDeskModel" "values" "I" ∈ TB := tb_of (List.mem_of_getElem? (i := 264) (by decide +kernel)) rfl
theorem tq_104 : Cond.fieldLink R_M 36 "ValueDeskModel" "faultPlace" "I" ∈ TB := tb_of (List.mem_of_getElem? (i := 265) (by decide +kernel)) rfl
theorem tq_105 : Cond.fieldLink R_M 39 "ValueDeskModel" "meter" "I" ∈ TB := tb_of (List.mem_of_getElem? (i := 266) (by decide +kernel)) rfl
theorem tq_106 : Cond.fieldLink R_M 42 "ValueDeskModel" "deepest" "I" ∈ TB := tb_of (List.mem_of_getElem? (i := 267) (by decide +kernel)) rfl
theorem tq_107 : Cond.fieldLink R_M 45 "ValueDeskModel" "deep" "I" ∈ TB := tb_of (List.mem_of_getElem? (i := 268) (by decide +kernel)) rfl
theorem tq_108 : Cond.fieldLink R_M 48 "ValueDeskModel" "entity" "[I" ∈ TB := tb_of (List.mem_of_getElem? (i := 269) (by decide +kernel)) rfl
theorem tq_109 : Cond.fieldLink R_M 51 "ValueDeskModel" "at" "[I" ∈ TB := tb_of (List.mem_of_getElem? (i := 270) (by decide +kernel)) rfl
theorem tq_110 : Cond.fieldLink R_M 54 "ValueDeskModel" "fault" "I" ∈ TB := tb_of (List.mem_of_getElem? (i := 271) (by decide +kernel)) rfl
theorem tq_111 : Cond.fieldLink R_M 57 "ValueDeskModel" "outer" "I" ∈ TB := tb_of (List.mem_of_getElem? (i := 272) (by decide +kernel)) rfl
theorem tq_112 : Cond.fieldLink R_M 60 "ValueDeskModel" "kind" "I" ∈ TB := tb_of (List.mem_of_getElem? (i := 273) (by decide +kernel)) rfl
theorem tq_113 : Cond.fieldLink R_M 63 "ValueDeskModel" "number" "I" ∈ TB := tb_of (List.mem_of_getElem? (i := 274) (by decide +kernel)) rfl
theorem tq_114 : Cond.fieldLink R_M 66 "ValueDeskModel" "behind" "I" ∈ TB := tb_of (List.mem_of_getElem? (i := 275) (by decide +kernel)) rfl
theorem tq_115 : Cond.fieldLink R_M 69 "ValueDeskModel" "made" "[I" ∈ TB := tb_of (List.mem_of_getElem? (i := 276) (by decide +kernel)) rfl
theorem tq_116 : Cond.fieldLink R_M 72 "ValueDeskModel" "makes" "I" ∈ TB := tb_of (List.mem_of_getElem? (i := 277) (by decide +kernel)) rfl
theorem tq_117 : Cond.methodLink R_M 75 y_M_length ∈ TB := tb_of (List.mem_of_getElem? (i := 342) (by decide +kernel)) rfl
theorem tq_118 : Cond.initialized R_M ∈ TB := tb_of (List.mem_of_getElem? (i := 6) (by decide +kernel)) rfl
theorem tq_119 : Cond.instanceMethod y_M_length ∈ TB := tb_of (List.mem_of_getElem? (i := 344) (by decide +kernel)) rfl
theorem tq_120 : Cond.selects R_M y_M_length y_M_length ∈ TB := tb_se (List.mem_of_getElem? (i := 20) (by decide +kernel)) rfl
theorem tq_121 : Cond.methodLink R_M 79 y_M_fails ∈ TB := tb_of (List.mem_of_getElem? (i := 353) (by decide +kernel)) rfl
theorem tq_122 : Cond.instanceMethod y_M_fails ∈ TB := tb_of (List.mem_of_getElem? (i := 355) (by decide +kernel)) rfl
theorem tq_123 : Cond.selects R_M y_M_fails y_M_fails ∈ TB := tb_se (List.mem_of_getElem? (i := 22) (by decide +kernel)) rfl
theorem tq_124 : Cond.methodLink R_M 83 y_M_byteOf ∈ TB := tb_of (List.mem_of_getElem? (i := 338) (by decide +kernel)) rfl
theorem tq_125 : Cond.instanceMethod y_M_byteOf ∈ TB := tb_of (List.mem_of_getElem? (i := 340) (by decide +kernel)) rfl
theorem tq_126 : Cond.selects R_M y_M_byteOf y_M_byteOf ∈ TB := tb_se (List.mem_of_getElem? (i := 19) (by decide +kernel)) rfl
theorem tq_127 : Cond.methodLink R_M 87 y_M_digit ∈ TB := tb_of (List.mem_of_getElem? (i := 346) (by decide +kernel)) rfl
theorem tq_128 : Cond.static y_M_digit ∈ TB := tb_of (List.mem_of_getElem? (i := 347) (by decide +kernel)) rfl
theorem tq_129 : Cond.methodLink R_M 91 y_M_stops ∈ TB := tb_of (List.mem_of_getElem? (i := 349) (by decide +kernel)) rfl
theorem tq_130 : Cond.instanceMethod y_M_stops ∈ TB := tb_of (List.mem_of_getElem? (i := 351) (by decide +kernel)) rfl
theorem tq_131 : Cond.selects R_M y_M_stops y_M_stops ∈ TB := tb_se (List.mem_of_getElem? (i := 21) (by decide +kernel)) rfl
theorem tq_132 : Cond.methodLink R_M 95 y_M_isCharacter ∈ TB := tb_of (List.mem_of_getElem? (i := 357) (by decide +kernel)) rfl
theorem tq_133 : Cond.static y_M_isCharacter ∈ TB := tb_of (List.mem_of_getElem? (i := 358) (by decide +kernel)) rfl
theorem tq_134 : Cond.methodLink R_M 99 y_M_isOpen ∈ TB := tb_of (List.mem_of_getElem? (i := 377) (by decide +kernel)) rfl
theorem tq_135 : Cond.instanceMethod y_M_isOpen ∈ TB := tb_of (List.mem_of_getElem? (i := 379) (by decide +kernel)) rfl
theorem tq_136 : Cond.selects R_M y_M_isOpen y_M_isOpen ∈ TB := tb_se (List.mem_of_getElem? (i := 26) (by decide +kernel)) rfl
theorem tq_137 : Cond.methodLink R_M 102 y_M_look ∈ TB := tb_of (List.mem_of_getElem? (i := 334) (by decide +kernel)) rfl
theorem tq_138 : Cond.instanceMethod y_M_look ∈ TB := tb_of (List.mem_of_getElem? (i := 336) (by decide +kernel)) rfl
theorem tq_139 : Cond.selects R_M y_M_look y_M_look ∈ TB := tb_se (List.mem_of_getElem? (i := 18) (by decide +kernel)) rfl
theorem tq_140 : Cond.methodLink R_M 105 y_M_open ∈ TB := tb_of (List.mem_of_getElem? (i := 373) (by decide +kernel)) rfl
theorem tq_141 : Cond.instanceMethod y_M_open ∈ TB := tb_of (List.mem_of_getElem? (i := 375) (by decide +kernel)) rfl
theorem tq_142 : Cond.selects R_M y_M_open y_M_open ∈ TB := tb_se (List.mem_of_getElem? (i := 25) (by decide +kernel)) rfl
theorem tq_143 : Cond.methodLink R_M 109 y_M_add ∈ TB := tb_of (List.mem_of_getElem? (i := 381) (by decide +kernel)) rfl
theorem tq_144 : Cond.instanceMethod y_M_add ∈ TB := tb_of (List.mem_of_getElem? (i := 383) (by decide +kernel)) rfl
theorem tq_145 : Cond.selects R_M y_M_add y_M_add ∈ TB := tb_se (List.mem_of_getElem? (i := 27) (by decide +kernel)) rfl
theorem tq_146 : Cond.methodLink R_M 112 y_M_begin ∈ TB := tb_of (List.mem_of_getElem? (i := 330) (by decide +kernel)) rfl
theorem tq_147 : Cond.instanceMethod y_M_begin ∈ TB := tb_of (List.mem_of_getElem? (i := 332) (by decide +kernel)) rfl
theorem tq_148 : Cond.selects R_M y_M_begin y_M_begin ∈ TB := tb_se (List.mem_of_getElem? (i := 17) (by decide +kernel)) rfl
theorem tq_149 : Cond.methodLink R_M 115 y_M_defining ∈ TB := tb_of (List.mem_of_getElem? (i := 360) (by decide +kernel)) rfl
theorem tq_150 : Cond.instanceMethod y_M_defining ∈ TB := tb_of (List.mem_of_getElem? (i := 362) (by decide +kernel)) rfl
theorem tq_151 : Cond.selects R_M y_M_defining y_M_defining ∈ TB := tb_se (List.mem_of_getElem? (i := 23) (by decide +kernel)) rfl
theorem tq_152 : Cond.constant R_M 118 100000 ∈ TB := tb_of (List.mem_of_getElem? (i := 368) (by decide +kernel)) rfl
theorem tq_153 : Cond.methodLink R_M 119 y_M_step ∈ TB := tb_of (List.mem_of_getElem? (i := 369) (by decide +kernel)) rfl
theorem tq_154 : Cond.instanceMethod y_M_step ∈ TB := tb_of (List.mem_of_getElem? (i := 371) (by decide +kernel)) rfl
theorem tq_155 : Cond.selects R_M y_M_step y_M_step ∈ TB := tb_se (List.mem_of_getElem? (i := 24) (by decide +kernel)) rfl
theorem tq_156 : Cond.methodLink R_M 122 y_M_trim ∈ TB := tb_of (List.mem_of_getElem? (i := 385) (by decide +kernel)) rfl
theorem tq_157 : Cond.instanceMethod y_M_trim ∈ TB := tb_of (List.mem_of_getElem? (i := 387) (by decide +kernel)) rfl
theorem tq_158 : Cond.selects R_M y_M_trim y_M_trim ∈ TB := tb_se (List.mem_of_getElem? (i := 28) (by decide +kernel)) rfl
theorem tq_159 : Cond.constantLong R_M 125 (-1) ∈ TB := tb_of (List.mem_of_getElem? (i := 397) (by decide +kernel)) rfl
theorem tq_160 : Cond.methodLink R_M 127 y_M_eight ∈ TB := tb_of (List.mem_of_getElem? (i := 398) (by decide +kernel)) rfl
theorem tq_161 : Cond.static y_M_eight ∈ TB := tb_of (List.mem_of_getElem? (i := 399) (by decide +kernel)) rfl
theorem tq_162 : Cond.methodLink R_M 131 y_M_known ∈ TB := tb_of (List.mem_of_getElem? (i := 409) (by decide +kernel)) rfl
theorem tq_163 : Cond.instanceMethod y_M_known ∈ TB := tb_of (List.mem_of_getElem? (i := 411) (by decide +kernel)) rfl
theorem tq_164 : Cond.selects R_M y_M_known y_M_known ∈ TB := tb_se (List.mem_of_getElem? (i := 29) (by decide +kernel)) rfl
theorem tq_165 : Cond.methodLink R_E 3 objectInit ∈ TB := tb_of (List.mem_of_getElem? (i := 38) (by decide +kernel)) rfl
theorem tq_166 : Cond.classLink R_E 9 R_R ∈ TB := tb_of (List.mem_of_getElem? (i := 39) (by decide +kernel)) rfl
theorem tq_167 : Cond.methodLink R_E 11 y_R_init ∈ TB := tb_of (List.mem_of_getElem? (i := 40) (by decide +kernel)) rfl
theorem tq_168 : Cond.fieldLink R_E 14 "ValueDesk$Entity" "row" "LValueDesk$Row;" ∈ TB := tb_of (List.mem_of_getElem? (i := 41) (by decide +kernel)) rfl
theorem tq_169 : Cond.methodLink R_E 20 y_R_empty ∈ TB := tb_of (List.mem_of_getElem? (i := 187) (by decide +kernel)) rfl
theorem tq_170 : Cond.methodLink R_E 23 y_R_size ∈ TB := tb_of (List.mem_of_getElem? (i := 188) (by decide +kernel)) rfl
theorem tq_171 : Cond.methodLink R_E 27 y_R_at ∈ TB := tb_of (List.mem_of_getElem? (i := 189) (by decide +kernel)) rfl
theorem tq_172 : Cond.methodLink R_E 31 y_R_add ∈ TB := tb_of (List.mem_of_getElem? (i := 190) (by decide +kernel)) rfl
theorem tq_173 : Cond.fieldLink R_E 35 "ValueDesk$Entity" "known" "Z" ∈ TB := tb_of (List.mem_of_getElem? (i := 43) (by decide +kernel)) rfl
theorem tq_174 : Cond.methodLink R_F 3 objectInit ∈ TB := tb_of (List.mem_of_getElem? (i := 58) (by decide +kernel)) rfl
theorem tq_175 : Cond.methodLink R_F 9 y_R_at ∈ TB := tb_of (List.mem_of_getElem? (i := 140) (by decide +kernel)) rfl
theorem tq_176 : Cond.fieldLink R_F 15 "ValueDesk$Reference" "toEntity" "Z" ∈ TB := tb_of (List.mem_of_getElem? (i := 61) (by decide +kernel)) rfl
theorem tq_177 : Cond.methodLink R_F 21 y_F_readNumber ∈ TB := tb_of (List.mem_of_getElem? (i := 141) (by decide +kernel)) rfl
theorem tq_178 : Cond.instanceMethod y_F_readNumber ∈ TB := tb_of (List.mem_of_getElem? (i := 143) (by decide +kernel)) rfl
theorem tq_179 : Cond.selects R_F y_F_readNumber y_F_readNumber ∈ TB := tb_se (List.mem_of_getElem? (i := 2) (by decide +kernel)) rfl
theorem tq_180 : Cond.fieldLink R_F 25 "ValueDesk$Reference" "number" "I" ∈ TB := tb_of (List.mem_of_getElem? (i := 63) (by decide +kernel)) rfl
theorem tq_181 : Cond.methodLink R_F 29 y_F_close ∈ TB := tb_of (List.mem_of_getElem? (i := 152) (by decide +kernel)) rfl
theorem tq_182 : Cond.instanceMethod y_F_close ∈ TB := tb_of (List.mem_of_getElem? (i := 154) (by decide +kernel)) rfl
theorem tq_183 : Cond.selects R_F y_F_close y_F_close ∈ TB := tb_se (List.mem_of_getElem? (i := 4) (by decide +kernel)) rfl
theorem tq_184 : Cond.methodLink R_F 32 y_F_breakOff ∈ TB := tb_of (List.mem_of_getElem? (i := 148) (by decide +kernel)) rfl
theorem tq_185 : Cond.instanceMethod y_F_breakOff ∈ TB := tb_of (List.mem_of_getElem? (i := 150) (by decide +kernel)) rfl
theorem tq_186 : Cond.selects R_F y_F_breakOff y_F_breakOff ∈ TB := tb_se (List.mem_of_getElem? (i := 3) (by decide +kernel)) rfl
theorem tq_187 : Cond.methodLink R_F 36 y_F_digitOf ∈ TB := tb_of (List.mem_of_getElem? (i := 145) (by decide +kernel)) rfl
theorem tq_188 : Cond.static y_F_digitOf ∈ TB := tb_of (List.mem_of_getElem? (i := 146) (by decide +kernel)) rfl
theorem tq_189 : Cond.fieldLink R_F 40 "ValueDesk$Reference" "whole" "Z" ∈ TB := tb_of (List.mem_of_getElem? (i := 59) (by decide +kernel)) rfl
theorem tq_190 : Cond.fieldLink R_F 43 "ValueDesk$Reference" "end" "I" ∈ TB := tb_of (List.mem_of_getElem? (i := 65) (by decide +kernel)) rfl
theorem tq_191 : Cond.methodLink R_R 3 objectInit ∈ TB := tb_of (List.mem_of_getElem? (i := 20) (by decide +kernel)) rfl
theorem tq_192 : Cond.methodLink R_R 9 Lib.Math.max.name ∈ TB := tb_of (List.mem_of_getElem? (i := 21) (by decide +kernel)) rfl
theorem tq_193 : Cond.fieldLink R_R 15 "ValueDesk$Row" "bytes" "[I" ∈ TB := tb_of (List.mem_of_getElem? (i := 24) (by decide +kernel)) rfl
theorem tq_194 : Cond.fieldLink R_R 21 "ValueDesk$Row" "size" "I" ∈ TB := tb_of (List.mem_of_getElem? (i := 25) (by decide +kernel)) rfl
theorem tq_195 : Cond.constantLong R_R 25 (-1) ∈ TB := tb_of (List.mem_of_getElem? (i := 233) (by decide +kernel)) rfl
theorem tq_196 : Cond.classLink R_L 7 R_D ∈ TB := tb_of (List.mem_of_getElem? (i := 7) (by decide +kernel)) rfl
theorem tq_197 : Cond.instantiable R_D 9 ∈ TB := tb_of (List.mem_of_getElem? (i := 8) (by decide +kernel)) rfl
theorem tq_198 : Cond.methodLink R_L 9 y_D_init ∈ TB := tb_of (List.mem_of_getElem? (i := 9) (by decide +kernel)) rfl
theorem tq_199 : Cond.instanceMethod y_D_init ∈ TB := tb_of (List.mem_of_getElem? (i := 10) (by decide +kernel)) rfl
theorem tq_200 : Cond.classLink R_L 10 R_M ∈ TB := tb_of (List.mem_of_getElem? (i := 251) (by decide +kernel)) rfl
theorem tq_201 : Cond.instantiable R_M 21 ∈ TB := tb_of (List.mem_of_getElem? (i := 252) (by decide +kernel)) rfl
theorem tq_202 : Cond.methodLink R_L 12 y_M_init ∈ TB := tb_of (List.mem_of_getElem? (i := 253) (by decide +kernel)) rfl
theorem tq_203 : Cond.instanceMethod y_M_init ∈ TB := tb_of (List.mem_of_getElem? (i := 254) (by decide +kernel)) rfl
theorem tq_204 : Cond.constantLong R_L 13 4294967295 ∈ TB := tb_of (List.mem_of_getElem? (i := 417) (by decide +kernel)) rfl
theorem tq_205 : Cond.methodLink R_L 15 y_D_put ∈ TB := tb_of (List.mem_of_getElem? (i := 104) (by decide +kernel)) rfl
theorem tq_206 : Cond.instanceMethod y_D_put ∈ TB := tb_of (List.mem_of_getElem? (i := 105) (by decide +kernel)) rfl
theorem tq_207 : Cond.selects R_D y_D_put y_D_put ∈ TB := tb_of (List.mem_of_getElem? (i := 106) (by decide +kernel)) rfl
theorem tq_208 : Cond.methodLink R_L 19 y_M_put ∈ TB := tb_of (List.mem_of_getElem? (i := 322) (by decide +kernel)) rfl
theorem tq_209 : Cond.instanceMethod y_M_put ∈ TB := tb_of (List.mem_of_getElem? (i := 323) (by decide +kernel)) rfl
theorem tq_210 : Cond.selects R_M y_M_put y_M_put ∈ TB := tb_of (List.mem_of_getElem? (i := 324) (by decide +kernel)) rfl
theorem tq_211 : Cond.methodLink R_L 20 y_D_define ∈ TB := tb_of (List.mem_of_getElem? (i := 116) (by decide +kernel)) rfl
theorem tq_212 : Cond.instanceMethod y_D_define ∈ TB := tb_of (List.mem_of_getElem? (i := 117) (by decide +kernel)) rfl
theorem tq_213 : Cond.selects R_D y_D_define y_D_define ∈ TB := tb_of (List.mem_of_getElem? (i := 118) (by decide +kernel)) rfl
theorem tq_214 : Cond.methodLink R_L 24 y_M_define ∈ TB := tb_of (List.mem_of_getElem? (i := 326) (by decide +kernel)) rfl
theorem tq_215 : Cond.instanceMethod y_M_define ∈ TB := tb_of (List.mem_of_getElem? (i := 327) (by decide +kernel)) rfl
theorem tq_216 : Cond.selects R_M y_M_define y_M_define ∈ TB := tb_of (List.mem_of_getElem? (i := 328) (by decide +kernel)) rfl
theorem tq_217 : Cond.methodLink R_L 25 y_D_value ∈ TB := tb_of (List.mem_of_getElem? (i := 191) (by decide +kernel)) rfl
theorem tq_218 : Cond.instanceMethod y_D_value ∈ TB := tb_of (List.mem_of_getElem? (i := 192) (by decide +kernel)) rfl
theorem tq_219 : Cond.selects R_D y_D_value y_D_value ∈ TB := tb_of (List.mem_of_getElem? (i := 193) (by decide +kernel)) rfl
theorem tq_220 : Cond.methodLink R_L 29 y_M_value ∈ TB := tb_of (List.mem_of_getElem? (i := 364) (by decide +kernel)) rfl
theorem tq_221 : Cond.instanceMethod y_M_value ∈ TB := tb_of (List.mem_of_getElem? (i := 365) (by decide +kernel)) rfl
theorem tq_222 : Cond.selects R_M y_M_value y_M_value ∈ TB := tb_of (List.mem_of_getElem? (i := 366) (by decide +kernel)) rfl
theorem tq_223 : Cond.methodLink R_L 30 y_D_place ∈ TB := tb_of (List.mem_of_getElem? (i := 221) (by decide +kernel)) rfl
theorem tq_224 : Cond.instanceMethod y_D_place ∈ TB := tb_of (List.mem_of_getElem? (i := 222) (by decide +kernel)) rfl
theorem tq_225 : Cond.selects R_D y_D_place y_D_place ∈ TB := tb_of (List.mem_of_getElem? (i := 223) (by decide +kernel)) rfl
theorem tq_226 : Cond.methodLink R_L 34 y_M_place ∈ TB := tb_of (List.mem_of_getElem? (i := 389) (by decide +kernel)) rfl
theorem tq_227 : Cond.instanceMethod y_M_place ∈ TB := tb_of (List.mem_of_getElem? (i := 390) (by decide +kernel)) rfl
theorem tq_228 : Cond.selects R_M y_M_place y_M_place ∈ TB := tb_of (List.mem_of_getElem? (i := 391) (by decide +kernel)) rfl
theorem tq_229 : Cond.methodLink R_L 35 y_D_characters ∈ TB := tb_of (List.mem_of_getElem? (i := 225) (by decide +kernel)) rfl
theorem tq_230 : Cond.instanceMethod y_D_characters ∈ TB := tb_of (List.mem_of_getElem? (i := 226) (by decide +kernel)) rfl
theorem tq_231 : Cond.selects R_D y_D_characters y_D_characters ∈ TB := tb_of (List.mem_of_getElem? (i := 227) (by decide +kernel)) rfl
theorem tq_232 : Cond.methodLink R_L 39 y_M_characters ∈ TB := tb_of (List.mem_of_getElem? (i := 393) (by decide +kernel)) rfl
theorem tq_233 : Cond.instanceMethod y_M_characters ∈ TB := tb_of (List.mem_of_getElem? (i := 394) (by decide +kernel)) rfl
theorem tq_234 : Cond.selects R_M y_M_characters y_M_characters ∈ TB := tb_of (List.mem_of_getElem? (i := 395) (by decide +kernel)) rfl
theorem tq_235 : Cond.methodLink R_L 40 y_D_text ∈ TB := tb_of (List.mem_of_getElem? (i := 234) (by decide +kernel)) rfl
theorem tq_236 : Cond.instanceMethod y_D_text ∈ TB := tb_of (List.mem_of_getElem? (i := 235) (by decide +kernel)) rfl
theorem tq_237 : Cond.selects R_D y_D_text y_D_text ∈ TB := tb_of (List.mem_of_getElem? (i := 236) (by decide +kernel)) rfl
theorem tq_238 : Cond.methodLink R_L 44 y_M_text ∈ TB := tb_of (List.mem_of_getElem? (i := 401) (by decide +kernel)) rfl
theorem tq_239 : Cond.instanceMethod y_M_text ∈ TB := tb_of (List.mem_of_getElem? (i := 402) (by decide +kernel)) rfl
theorem tq_240 : Cond.selects R_M y_M_text y_M_text ∈ TB := tb_of (List.mem_of_getElem? (i := 403) (by decide +kernel)) rfl
theorem tq_241 : Cond.methodLink R_L 45 y_D_clear ∈ TB := tb_of (List.mem_of_getElem? (i := 239) (by decide +kernel)) rfl
theorem tq_242 : Cond.instanceMethod y_D_clear ∈ TB := tb_of (List.mem_of_getElem? (i := 240) (by decide +kernel)) rfl
theorem tq_243 : Cond.selects R_D y_D_clear y_D_clear ∈ TB := tb_of (List.mem_of_getElem? (i := 241) (by decide +kernel)) rfl
theorem tq_244 : Cond.methodLink R_L 48 y_M_clear ∈ TB := tb_of (List.mem_of_getElem? (i := 405) (by decide +kernel)) rfl
theorem tq_245 : Cond.instanceMethod y_M_clear ∈ TB := tb_of (List.mem_of_getElem? (i := 406) (by decide +kernel)) rfl
theorem tq_246 : Cond.selects R_M y_M_clear y_M_clear ∈ TB := tb_of (List.mem_of_getElem? (i := 407) (by decide +kernel)) rfl
theorem tq_247 : Cond.methodLink R_L 49 y_D_count ∈ TB := tb_of (List.mem_of_getElem? (i := 247) (by decide +kernel)) rfl
theorem tq_248 : Cond.instanceMethod y_D_count ∈ TB := tb_of (List.mem_of_getElem? (i := 248) (by decide +kernel)) rfl
theorem tq_249 : Cond.selects R_D y_D_count y_D_count ∈ TB := tb_of (List.mem_of_getElem? (i := 249) (by decide +kernel)) rfl
theorem tq_250 : Cond.methodLink R_L 52 y_M_count ∈ TB := tb_of (List.mem_of_getElem? (i := 413) (by decide +kernel)) rfl
theorem tq_251 : Cond.instanceMethod y_M_count ∈ TB := tb_of (List.mem_of_getElem? (i := 414) (by decide +kernel)) rfl
theorem tq_252 : Cond.selects R_M y_M_count y_M_count ∈ TB := tb_of (List.mem_of_getElem? (i := 415) (by decide +kernel)) rfl
theorem tq_oi : Cond.instanceMethod objectInit ∈ TB := tb_of (List.mem_of_getElem? (i := 13) (by decide +kernel)) rfl
theorem tq_oc : Cond.code objectInit ⟨#[0xb1]⟩ 1 none ∈ TB := tb_of (List.mem_of_getElem? (i := 14) rfl) rfl
theorem tq_ai : Cond.arrayClass .int ∈ TB := tb_of (List.mem_of_getElem? (i := 31) (by decide +kernel)) rfl
theorem tq_az : Cond.arrayClass .boolean ∈ TB := tb_of (List.mem_of_getElem? (i := 321) (by decide +kernel)) rfl
theorem tq_ms : Cond.static Lib.Math.max.name ∈ TB := tb_of (List.mem_of_getElem? (i := 22) (by decide +kernel)) rfl
theorem tq_mi : Cond.initialized "java/lang/Math" ∈ TB := tb_of (List.mem_of_getElem? (i := 3) (by decide +kernel)) rfl
theorem tq_mc : Cond.code Lib.Math.max.name Lib.Math.max.code 2 (some .int) ∈ TB := tb_of (List.mem_of_getElem? (i := 23) rfl) rfl
end
section
theorem d_R_init_0 : decode cc_R_init 0 = .ok (.aload_n 0, 1) := by decide +kernel
theorem d_R_init_1 : decode cc_R_init 1 = .ok (.invokespecial 3, 3) := by decide +kernel
theorem d_R_init_4 : decode cc_R_init 4 = .ok (.aload_n 0, 1) := by decide +kernel
theorem d_R_init_5 : decode cc_R_init 5 = .ok (.iload_n 1, 1) := by decide +kernel
theorem d_R_init_6 : decode cc_R_init 6 = .ok (.iconst 0, 1) := by decide +kernel
theorem d_R_init_7 : decode cc_R_init 7 = .ok (.invokestatic 9, 3) := by decide +kernel
theorem d_R_init_10 : decode cc_R_init 10 = .ok (.newarray .int, 2) := by decide +kernel
theorem d_R_init_12 : decode cc_R_init 12 = .ok (.putfield 15, 3) := by decide +kernel
theorem d_R_init_15 : decode cc_R_init 15 = .ok (.return_, 1) := by decide +kernel
theorem d_R_size_0 : decode cc_R_size 0 = .ok (.aload_n 0, 1) := by decide +kernel
theorem d_R_size_1 : decode cc_R_size 1 = .ok (.getfield 21, 3) := by decide +kernel
theorem d_R_size_4 : decode cc_R_size 4 = .ok (.ireturn, 1) := by decide +kernel
theorem d_R_empty_0 : decode cc_R_empty 0 = .ok (.aload_n 0, 1) := by decide +kernel
theorem d_R_empty_1 : decode cc_R_empty 1 = .ok (.iconst 0, 1) := by decide +kernel
theorem d_R_empty_2 : decode cc_R_empty 2 = .ok (.putfield 21, 3) := by decide +kernel
theorem d_R_empty_5 : decode cc_R_empty 5 = .ok (.return_, 1) := by decide +kernel
theorem d_R_add_0 : decode cc_R_add 0 = .ok (.aload_n 0, 1) := by decide +kernel
theorem d_R_add_1 : decode cc_R_add 1 = .ok (.getfield 21, 3) := by decide +kernel
theorem d_R_add_4 : decode cc_R_add 4 = .ok (.aload_n 0, 1) := by decide +kernel
theorem d_R_add_5 : decode cc_R_add 5 = .ok (.getfield 15, 3) := by decide +kernel
theorem d_R_add_8 : decode cc_R_add 8 = .ok (.arraylength, 1) := by decide +kernel
theorem d_R_add_9 : decode cc_R_add 9 = .ok (.if_icmp .lt 5, 3) := by decide +kernel
theorem d_R_add_12 : decode cc_R_add 12 = .ok (.iconst 0, 1) := by decide +kernel
theorem d_R_add_13 : decode cc_R_add 13 = .ok (.ireturn, 1) := by decide +kernel
theorem d_R_add_14 : decode cc_R_add 14 = .ok (.aload_n 0, 1) := by decide +kernel
theorem d_R_add_15 : decode cc_R_add 15 = .ok (.getfield 15, 3) := by decide +kernel
theorem d_R_add_18 : decode cc_R_add 18 = .ok (.aload_n 0, 1) := by decide +kernel
theorem d_R_add_19 : decode cc_R_add 19 = .ok (.getfield 21, 3) := by decide +kernel
theorem d_R_add_22 : decode cc_R_add 22 = .ok (.iload_n 1, 1) := by decide +kernel
theorem d_R_add_23 : decode cc_R_add 23 = .ok (.iastore, 1) := by decide +kernel
theorem d_R_add_24 : decode cc_R_add 24 = .ok (.aload_n 0, 1) := by decide +kernel
theorem d_R_add_25 : decode cc_R_add 25 = .ok (.dup, 1) := by decide +kernel
theorem d_R_add_26 : decode cc_R_add 26 = .ok (.getfield 21, 3) := by decide +kernel
theorem d_R_add_29 : decode cc_R_add 29 = .ok (.iconst 1, 1) := by decide +kernel
theorem d_R_add_30 : decode cc_R_add 30 = .ok (.iadd, 1) := by decide +kernel
theorem d_R_add_31 : decode cc_R_add 31 = .ok (.putfield 21, 3) := by decide +kernel
theorem d_R_add_34 : decode cc_R_add 34 = .ok (.iconst 1, 1) := by decide +kernel
theorem d_R_add_35 : decode cc_R_add 35 = .ok (.ireturn, 1) := by decide +kernel
theorem d_R_at_0 : decode cc_R_at 0 = .ok (.iload_n 1, 1) := by decide +kernel
theorem d_R_at_1 : decode cc_R_at 1 = .ok (.ifCond .lt 11, 3) := by decide +kernel
theorem d_R_at_4 : decode cc_R_at 4 = .ok (.iload_n 1, 1) := by decide +kernel
theorem d_R_at_5 : decode cc_R_at 5 = .ok (.aload_n 0, 1) := by decide +kernel
theorem d_R_at_6 : decode cc_R_at 6 = .ok (.getfield 21, 3) := by decide +kernel
theorem d_R_at_9 : decode cc_R_at 9 = .ok (.if_icmp .lt 7, 3) := by decide +kernel
theorem d_R_at_12 : decode cc_R_at 12 = .ok (.iconst (-1), 1) := by decide +kernel
theorem d_R_at_13 : decode cc_R_at 13 = .ok (.goto 9, 3) := by decide +kernel
theorem d_R_at_16 : decode cc_R_at 16 = .ok (.aload_n 0, 1) := by decide +kernel
theorem d_R_at_17 : decode cc_R_at 17 = .ok (.getfield 15, 3) := by decide +kernel
theorem d_R_at_20 : decode cc_R_at 20 = .ok (.iload_n 1, 1) := by decide +kernel
theorem d_R_at_21 : decode cc_R_at 21 = .ok (.iaload, 1) := by decide +kernel
theorem d_R_at_22 : decode cc_R_at 22 = .ok (.ireturn, 1) := by decide +kernel
theorem d_R_wordAt_0 : decode cc_R_wordAt 0 = .ok (.iload_n 1, 1) := by decide +kernel
theorem d_R_wordAt_1 : decode cc_R_wordAt 1 = .ok (.ifCond .ge 7, 3) := by decide +kernel
theorem d_R_wordAt_4 : decode cc_R_wordAt 4 = .ok (.ldc2_w 25, 3) := by decide +kernel
theorem d_R_wordAt_7 : decode cc_R_wordAt 7 = .ok (.lreturn, 1) := by decide +kernel
theorem d_R_wordAt_8 : decode cc_R_wordAt 8 = .ok (.lconst 0, 1) := by decide +kernel
theorem d_R_wordAt_9 : decode cc_R_wordAt 9 = .ok (.lstore_n 2, 1) := by decide +kernel
theorem d_R_wordAt_10 : decode cc_R_wordAt 10 = .ok (.iconst 0, 1) := by decide +kernel
theorem d_R_wordAt_11 : decode cc_R_wordAt 11 = .ok (.istore 4, 2) := by decide +kernel
theorem d_R_wordAt_13 : decode cc_R_wordAt 13 = .ok (.iload 4, 2) := by decide +kernel
theorem d_R_wordAt_15 : decode cc_R_wordAt 15 = .ok (.bipush 8, 2) := by decide +kernel
theorem d_R_wordAt_17 : decode cc_R_wordAt 17 = .ok (.if_icmp .ge 40, 3) := by decide +kernel
theorem d_R_wordAt_20 : decode cc_R_wordAt 20 = .ok (.lload_n 2, 1) := by decide +kernel
theorem d_R_wordAt_21 : decode cc_R_wordAt 21 = .ok (.bipush 8, 2) := by decide +kernel
theorem d_R_wordAt_23 : decode cc_R_wordAt 23 = .ok (.lshl, 1) := by decide +kernel
theorem d_R_wordAt_24 : decode cc_R_wordAt 24 = .ok (.iload_n 1, 1) := by decide +kernel
theorem d_R_wordAt_25 : decode cc_R_wordAt 25 = .ok (.aload_n 0, 1) := by decide +kernel
theorem d_R_wordAt_26 : decode cc_R_wordAt 26 = .ok (.getfield 21, 3) := by decide +kernel
theorem d_R_wordAt_29 : decode cc_R_wordAt 29 = .ok (.iload 4, 2) := by decide +kernel
theorem d_R_wordAt_31 : decode cc_R_wordAt 31 = .ok (.isub, 1) := by decide +kernel
theorem d_R_wordAt_32 : decode cc_R_wordAt 32 = .ok (.if_icmp .ge 15, 3) := by decide +kernel
theorem d_R_wordAt_35 : decode cc_R_wordAt 35 = .ok (.aload_n 0, 1) := by decide +kernel
theorem d_R_wordAt_36 : decode cc_R_wordAt 36 = .ok (.getfield 15, 3) := by decide +kernel
theorem d_R_wordAt_39 : decode cc_R_wordAt 39 = .ok (.iload_n 1, 1) := by decide +kernel
theorem d_R_wordAt_40 : decode cc_R_wordAt 40 = .ok (.iload 4, 2) := by decide +kernel
theorem d_R_wordAt_42 : decode cc_R_wordAt 42 = .ok (.iadd, 1) := by decide +kernel
theorem d_R_wordAt_43 : decode cc_R_wordAt 43 = .ok (.iaload, 1) := by decide +kernel
theorem d_R_wordAt_44 : decode cc_R_wordAt 44 = .ok (.goto 4, 3) := by decide +kernel
theorem d_R_wordAt_47 : decode cc_R_wordAt 47 = .ok (.iconst 0, 1) := by decide +kernel
theorem d_R_wordAt_48 : decode cc_R_wordAt 48 = .ok (.i2l, 1) := by decide +kernel
theorem d_R_wordAt_49 : decode cc_R_wordAt 49 = .ok (.lor, 1) := by decide +kernel
theorem d_R_wordAt_50 : decode cc_R_wordAt 50 = .ok (.lstore_n 2, 1) := by decide +kernel
theorem d_R_wordAt_51 : decode cc_R_wordAt 51 = .ok (.iinc 4 1, 3) := by decide +kernel
theorem d_R_wordAt_54 : decode cc_R_wordAt 54 = .ok (.goto (-41), 3) := by decide +kernel
theorem d_R_wordAt_57 : decode cc_R_wordAt 57 = .ok (.lload_n 2, 1) := by decide +kernel
theorem d_R_wordAt_58 : decode cc_R_wordAt 58 = .ok (.lreturn, 1) := by decide +kernel
theorem d_R_squeeze_0 : decode cc_R_squeeze 0 = .ok (.iconst 0, 1) := by decide +kernel
theorem d_R_squeeze_1 : decode cc_R_squeeze 1 = .ok (.istore_n 1, 1) := by decide +kernel
theorem d_R_squeeze_2 : decode cc_R_squeeze 2 = .ok (.iconst 0, 1) := by decide +kernel
theorem d_R_squeeze_3 : decode cc_R_squeeze 3 = .ok (.istore_n 2, 1) := by decide +kernel
theorem d_R_squeeze_4 : decode cc_R_squeeze 4 = .ok (.iload_n 2, 1) := by decide +kernel
theorem d_R_squeeze_5 : decode cc_R_squeeze 5 = .ok (.aload_n 0, 1) := by decide +kernel
theorem d_R_squeeze_6 : decode cc_R_squeeze 6 = .ok (.getfield 21, 3) := by decide +kernel
theorem d_R_squeeze_9 : decode cc_R_squeeze 9 = .ok (.if_icmp .ge 52, 3) := by decide +kernel
theorem d_R_squeeze_12 : decode cc_R_squeeze 12 = .ok (.aload_n 0, 1) := by decide +kernel
theorem d_R_squeeze_13 : decode cc_R_squeeze 13 = .ok (.getfield 15, 3) := by decide +kernel
theorem d_R_squeeze_16 : decode cc_R_squeeze 16 = .ok (.iload_n 2, 1) := by decide +kernel
theorem d_R_squeeze_17 : decode cc_R_squeeze 17 = .ok (.iaload, 1) := by decide +kernel
theorem d_R_squeeze_18 : decode cc_R_squeeze 18 = .ok (.bipush 32, 2) := by decide +kernel
theorem d_R_squeeze_20 : decode cc_R_squeeze 20 = .ok (.if_icmp .ne 20, 3) := by decide +kernel
theorem d_R_squeeze_23 : decode cc_R_squeeze 23 = .ok (.iload_n 1, 1) := by decide +kernel
theorem d_R_squeeze_24 : decode cc_R_squeeze 24 = .ok (.ifCond .le 31, 3) := by decide +kernel
theorem d_R_squeeze_27 : decode cc_R_squeeze 27 = .ok (.aload_n 0, 1) := by decide +kernel
theorem d_R_squeeze_28 : decode cc_R_squeeze 28 = .ok (.getfield 15, 3) := by decide +kernel
theorem d_R_squeeze_31 : decode cc_R_squeeze 31 = .ok (.iload_n 1, 1) := by decide +kernel
theorem d_R_squeeze_32 : decode cc_R_squeeze 32 = .ok (.iconst 1, 1) := by decide +kernel
theorem d_R_squeeze_33 : decode cc_R_squeeze 33 = .ok (.isub, 1) := by decide +kernel
theorem d_R_squeeze_34 : decode cc_R_squeeze 34 = .ok (.iaload, 1) := by decide +kernel
theorem d_R_squeeze_35 : decode cc_R_squeeze 35 = .ok (.bipush 32, 2) := by decide +kernel
theorem d_R_squeeze_37 : decode cc_R_squeeze 37 = .ok (.if_icmp .eq 18, 3) := by decide +kernel
theorem d_R_squeeze_40 : decode cc_R_squeeze 40 = .ok (.aload_n 0, 1) := by decide +kernel
theorem d_R_squeeze_41 : decode cc_R_squeeze 41 = .ok (.getfield 15, 3) := by decide +kernel
theorem d_R_squeeze_44 : decode cc_R_squeeze 44 = .ok (.iload_n 1, 1) := by decide +kernel
theorem d_R_squeeze_45 : decode cc_R_squeeze 45 = .ok (.aload_n 0, 1) := by decide +kernel
theorem d_R_squeeze_46 : decode cc_R_squeeze 46 = .ok (.getfield 15, 3) := by decide +kernel
theorem d_R_squeeze_49 : decode cc_R_squeeze 49 = .ok (.iload_n 2, 1) := by decide +kernel
theorem d_R_squeeze_50 : decode cc_R_squeeze 50 = .ok (.iaload, 1) := by decide +kernel
theorem d_R_squeeze_51 : decode cc_R_squeeze 51 = .ok (.iastore, 1) := by decide +kernel
theorem d_R_squeeze_52 : decode cc_R_squeeze 52 = .ok (.iinc 1 1, 3) := by decide +kernel
theorem d_R_squeeze_55 : decode cc_R_squeeze 55 = .ok (.iinc 2 1, 3) := by decide +kernel
theorem d_R_squeeze_58 : decode cc_R_squeeze 58 = .ok (.goto (-54), 3) := by decide +kernel
theorem d_R_squeeze_61 : decode cc_R_squeeze 61 = .ok (.aload_n 0, 1) := by decide +kernel
theorem d_R_squeeze_62 : decode cc_R_squeeze 62 = .ok (.iload_n 1, 1) := by decide +kernel
theorem d_R_squeeze_63 : decode cc_R_squeeze 63 = .ok (.ifCond .le 22, 3) := by decide +kernel
theorem d_R_squeeze_66 : decode cc_R_squeeze 66 = .ok (.aload_n 0, 1) := by decide +kernel
theorem d_R_squeeze_67 : decode cc_R_squeeze 67 = .ok (.getfield 15, 3) := by decide +kernel
theorem d_R_squeeze_70 : decode cc_R_squeeze 70 = .ok (.iload_n 1, 1) := by decide +kernel
theorem d_R_squeeze_71 : decode cc_R_squeeze 71 = .ok (.iconst 1, 1) := by decide +kernel
theorem d_R_squeeze_72 : decode cc_R_squeeze 72 = .ok (.isub, 1) := by decide +kernel
theorem d_R_squeeze_73 : decode cc_R_squeeze 73 = .ok (.iaload, 1) := by decide +kernel
theorem d_R_squeeze_74 : decode cc_R_squeeze 74 = .ok (.bipush 32, 2) := by decide +kernel
theorem d_R_squeeze_76 : decode cc_R_squeeze 76 = .ok (.if_icmp .ne 9, 3) := by decide +kernel
theorem d_R_squeeze_79 : decode cc_R_squeeze 79 = .ok (.iload_n 1, 1) := by decide +kernel
theorem d_R_squeeze_80 : decode cc_R_squeeze 80 = .ok (.iconst 1, 1) := by decide +kernel
theorem d_R_squeeze_81 : decode cc_R_squeeze 81 = .ok (.isub, 1) := by decide +kernel
theorem d_R_squeeze_82 : decode cc_R_squeeze 82 = .ok (.goto 4, 3) := by decide +kernel
theorem d_R_squeeze_85 : decode cc_R_squeeze 85 = .ok (.iload_n 1, 1) := by decide +kernel
theorem d_R_squeeze_86 : decode cc_R_squeeze 86 = .ok (.putfield 21, 3) := by decide +kernel
theorem d_R_squeeze_89 : decode cc_R_squeeze 89 = .ok (.return_, 1) := by decide +kernel
theorem d_F_init_0 : decode cc_F_init 0 = .ok (.aload_n 0, 1) := by decide +kernel
theorem d_F_init_1 : decode cc_F_init 1 = .ok (.invokespecial 3, 3) := by decide +kernel
theorem d_F_init_4 : decode cc_F_init 4 = .ok (.return_, 1) := by decide +kernel
theorem d_F_read_0 : decode cc_F_read 0 = .ok (.aload_n 1, 1) := by decide +kernel
theorem d_F_read_1 : decode cc_F_read 1 = .ok (.iload_n 2, 1) := by decide +kernel
theorem d_F_read_2 : decode cc_F_read 2 = .ok (.iconst 1, 1) := by decide +kernel
theorem d_F_read_3 : decode cc_F_read 3 = .ok (.iadd, 1) := by decide +kernel
theorem d_F_read_4 : decode cc_F_read 4 = .ok (.invokevirtual 9, 3) := by decide +kernel
theorem d_F_read_7 : decode cc_F_read 7 = .ok (.istore_n 3, 1) := by decide +kernel
theorem d_F_read_8 : decode cc_F_read 8 = .ok (.aload_n 0, 1) := by decide +kernel
theorem d_F_read_9 : decode cc_F_read 9 = .ok (.iload_n 3, 1) := by decide +kernel
theorem d_F_read_10 : decode cc_F_read 10 = .ok (.bipush 35, 2) := by decide +kernel
theorem d_F_read_12 : decode cc_F_read 12 = .ok (.if_icmp .eq 7, 3) := by decide +kernel
theorem d_F_read_15 : decode cc_F_read 15 = .ok (.iconst 1, 1) := by decide +kernel
theorem d_F_read_16 : decode cc_F_read 16 = .ok (.goto 4, 3) := by decide +kernel
theorem d_F_read_19 : decode cc_F_read 19 = .ok (.iconst 0, 1) := by decide +kernel
theorem d_F_read_20 : decode cc_F_read 20 = .ok (.putfield 15, 3) := by decide +kernel
theorem d_F_read_23 : decode cc_F_read 23 = .ok (.aload_n 0, 1) := by decide +kernel
theorem d_F_read_24 : decode cc_F_read 24 = .ok (.getfield 15, 3) := by decide +kernel
theorem d_F_read_27 : decode cc_F_read 27 = .ok (.ifCond .ne 14, 3) := by decide +kernel
theorem d_F_read_30 : decode cc_F_read 30 = .ok (.aload_n 0, 1) := by decide +kernel
theorem d_F_read_31 : decode cc_F_read 31 = .ok (.aload_n 1, 1) := by decide +kernel
theorem d_F_read_32 : decode cc_F_read 32 = .ok (.iload_n 2, 1) := by decide +kernel
theorem d_F_read_33 : decode cc_F_read 33 = .ok (.iconst 2, 1) := by decide +kernel
theorem d_F_read_34 : decode cc_F_read 34 = .ok (.iadd, 1) := by decide +kernel
theorem d_F_read_35 : decode cc_F_read 35 = .ok (.invokevirtual 21, 3) := by decide +kernel
theorem d_F_read_38 : decode cc_F_read 38 = .ok (.goto 41, 3) := by decide +kernel
theorem d_F_read_41 : decode cc_F_read 41 = .ok (.iload_n 3, 1) := by decide +kernel
theorem d_F_read_42 : decode cc_F_read 42 = .ok (.bipush 97, 2) := by decide +kernel
theorem d_F_read_44 : decode cc_F_read 44 = .ok (.if_icmp .lt 28, 3) := by decide +kernel
theorem d_F_read_47 : decode cc_F_read 47 = .ok (.iload_n 3, 1) := by decide +kernel
theorem d_F_read_48 : decode cc_F_read 48 = .ok (.bipush 122, 2) := by decide +kernel
theorem d_F_read_50 : decode cc_F_read 50 = .ok (.if_icmp .gt 22, 3) := by decide +kernel
theorem d_F_read_53 : decode cc_F_read 53 = .ok (.aload_n 0, 1) := by decide +kernel
theorem d_F_read_54 : decode cc_F_read 54 = .ok (.iload_n 3, 1) := by decide +kernel
theorem d_F_read_55 : decode cc_F_read 55 = .ok (.bipush 97, 2) := by decide +kernel
theorem d_F_read_57 : decode cc_F_read 57 = .ok (.isub, 1) := by decide +kernel
theorem d_F_read_58 : decode cc_F_read 58 = .ok (.putfield 25, 3) := by decide +kernel
theorem d_F_read_61 : decode cc_F_read 61 = .ok (.aload_n 0, 1) := by decide +kernel
theorem d_F_read_62 : decode cc_F_read 62 = .ok (.aload_n 1, 1) := by decide +kernel
theorem d_F_read_63 : decode cc_F_read 63 = .ok (.iload_n 2, 1) := by decide +kernel
theorem d_F_read_64 : decode cc_F_read 64 = .ok (.iconst 2, 1) := by decide +kernel
theorem d_F_read_65 : decode cc_F_read 65 = .ok (.iadd, 1) := by decide +kernel
theorem d_F_read_66 : decode cc_F_read 66 = .ok (.invokevirtual 29, 3) := by decide +kernel
theorem d_F_read_69 : decode cc_F_read 69 = .ok (.goto 10, 3) := by decide +kernel
theorem d_F_read_72 : decode cc_F_read 72 = .ok (.aload_n 0, 1) := by decide +kernel
theorem d_F_read_73 : decode cc_F_read 73 = .ok (.iload_n 2, 1) := by decide +kernel
theorem d_F_read_74 : decode cc_F_read 74 = .ok (.iconst 1, 1) := by decide +kernel
theorem d_F_read_75 : decode cc_F_read 75 = .ok (.iadd, 1) := by decide +kernel
theorem d_F_read_76 : decode cc_F_read 76 = .ok (.invokevirtual 32, 3) := by decide +kernel
theorem d_F_read_79 : decode cc_F_read 79 = .ok (.return_, 1) := by decide +kernel
theorem d_F_readNumber_0 : decode cc_F_readNumber 0 = .ok (.aload_n 1, 1) := by decide +kernel
theorem d_F_readNumber_1 : decode cc_F_readNumber 1 = .ok (.iload_n 2, 1) := by decide +kernel
theorem d_F_readNumber_2 : decode cc_F_readNumber 2 = .ok (.invokevirtual 9, 3) := by decide +kernel
theorem d_F_readNumber_5 : decode cc_F_readNumber 5 = .ok (.bipush 120, 2) := by decide +kernel
theorem d_F_readNumber_7 : decode cc_F_readNumber 7 = .ok (.if_icmp .ne 7, 3) := by decide +kernel
theorem d_F_readNumber_10 : decode cc_F_readNumber 10 = .ok (.iconst 1, 1) := by decide +kernel
theorem d_F_readNumber_11 : decode cc_F_readNumber 11 = .ok (.goto 4, 3) := by decide +kernel
theorem d_F_readNumber_14 : decode cc_F_readNumber 14 = .ok (.iconst 0, 1) := by decide +kernel
theorem d_F_readNumber_15 : decode cc_F_readNumber 15 = .ok (.istore_n 3, 1) := by decide +kernel
theorem d_F_readNumber_16 : decode cc_F_readNumber 16 = .ok (.iload_n 3, 1) := by decide +kernel
theorem d_F_readNumber_17 : decode cc_F_readNumber 17 = .ok (.ifCond .eq 8, 3) := by decide +kernel
theorem d_F_readNumber_20 : decode cc_F_readNumber 20 = .ok (.bipush 16, 2) := by decide +kernel
theorem d_F_readNumber_22 : decode cc_F_readNumber 22 = .ok (.goto 5, 3) := by decide +kernel
theorem d_F_readNumber_25 : decode cc_F_readNumber 25 = .ok (.bipush 10, 2) := by decide +kernel
theorem d_F_readNumber_27 : decode cc_F_readNumber 27 = .ok (.istore 4, 2) := by decide +kernel
theorem d_F_readNumber_29 : decode cc_F_readNumber 29 = .ok (.iload_n 3, 1) := by decide +kernel
theorem d_F_readNumber_30 : decode cc_F_readNumber 30 = .ok (.ifCond .eq 9, 3) := by decide +kernel
theorem d_F_readNumber_33 : decode cc_F_readNumber 33 = .ok (.iload_n 2, 1) := by decide +kernel
theorem d_F_readNumber_34 : decode cc_F_readNumber 34 = .ok (.iconst 1, 1) := by decide +kernel
theorem d_F_readNumber_35 : decode cc_F_readNumber 35 = .ok (.iadd, 1) := by decide +kernel
theorem d_F_readNumber_36 : decode cc_F_readNumber 36 = .ok (.goto 4, 3) := by decide +kernel
theorem d_F_readNumber_39 : decode cc_F_readNumber 39 = .ok (.iload_n 2, 1) := by decide +kernel
theorem d_F_readNumber_40 : decode cc_F_readNumber 40 = .ok (.istore 5, 2) := by decide +kernel
theorem d_F_readNumber_42 : decode cc_F_readNumber 42 = .ok (.iconst 0, 1) := by decide +kernel
theorem d_F_readNumber_43 : decode cc_F_readNumber 43 = .ok (.istore 6, 2) := by decide +kernel
theorem d_F_readNumber_45 : decode cc_F_readNumber 45 = .ok (.aload_n 0, 1) := by decide +kernel
theorem d_F_readNumber_46 : decode cc_F_readNumber 46 = .ok (.iconst 0, 1) := by decide +kernel
theorem d_F_readNumber_47 : decode cc_F_readNumber 47 = .ok (.putfield 25, 3) := by decide +kernel
theorem d_F_readNumber_50 : decode cc_F_readNumber 50 = .ok (.iload 6, 2) := by decide +kernel
theorem d_F_readNumber_52 : decode cc_F_readNumber 52 = .ok (.bipush 6, 2) := by decide +kernel
theorem d_F_readNumber_54 : decode cc_F_readNumber 54 = .ok (.if_icmp .ge 52, 3) := by decide +kernel
theorem d_F_readNumber_57 : decode cc_F_readNumber 57 = .ok (.aload_n 1, 1) := by decide +kernel
theorem d_F_readNumber_58 : decode cc_F_readNumber 58 = .ok (.iload 5, 2) := by decide +kernel
theorem d_F_readNumber_60 : decode cc_F_readNumber 60 = .ok (.iload 6, 2) := by decide +kernel
theorem d_F_readNumber_62 : decode cc_F_readNumber 62 = .ok (.iadd, 1) := by decide +kernel
theorem d_F_readNumber_63 : decode cc_F_readNumber 63 = .ok (.invokevirtual 9, 3) := by decide +kernel
theorem d_F_readNumber_66 : decode cc_F_readNumber 66 = .ok (.iload 4, 2) := by decide +kernel
theorem d_F_readNumber_68 : decode cc_F_readNumber 68 = .ok (.invokestatic 36, 3) := by decide +kernel
theorem d_F_readNumber_71 : decode cc_F_readNumber 71 = .ok (.ifCond .lt 35, 3) := by decide +kernel
theorem d_F_readNumber_74 : decode cc_F_readNumber 74 = .ok (.aload_n 0, 1) := by decide +kernel
theorem d_F_readNumber_75 : decode cc_F_readNumber 75 = .ok (.aload_n 0, 1) := by decide +kernel
theorem d_F_readNumber_76 : decode cc_F_readNumber 76 = .ok (.getfield 25, 3) := by decide +kernel
theorem d_F_readNumber_79 : decode cc_F_readNumber 79 = .ok (.iload 4, 2) := by decide +kernel
theorem d_F_readNumber_81 : decode cc_F_readNumber 81 = .ok (.imul, 1) := by decide +kernel
theorem d_F_readNumber_82 : decode cc_F_readNumber 82 = .ok (.aload_n 1, 1) := by decide +kernel
theorem d_F_readNumber_83 : decode cc_F_readNumber 83 = .ok (.iload 5, 2) := by decide +kernel
theorem d_F_readNumber_85 : decode cc_F_readNumber 85 = .ok (.iload 6, 2) := by decide +kernel
theorem d_F_readNumber_87 : decode cc_F_readNumber 87 = .ok (.iadd, 1) := by decide +kernel
theorem d_F_readNumber_88 : decode cc_F_readNumber 88 = .ok (.invokevirtual 9, 3) := by decide +kernel
theorem d_F_readNumber_91 : decode cc_F_readNumber 91 = .ok (.iload 4, 2) := by decide +kernel
theorem d_F_readNumber_93 : decode cc_F_readNumber 93 = .ok (.invokestatic 36, 3) := by decide +kernel
theorem d_F_readNumber_96 : decode cc_F_readNumber 96 = .ok (.iadd, 1) := by decide +kernel
theorem d_F_readNumber_97 : decode cc_F_readNumber 97 = .ok (.putfield 25, 3) := by decide +kernel
theorem d_F_readNumber_100 : decode cc_F_readNumber 100 = .ok (.iinc 6 1, 3) := by decide +kernel
theorem d_F_readNumber_103 : decode cc_F_readNumber 103 = .ok (.goto (-53), 3) := by decide +kernel
theorem d_F_readNumber_106 : decode cc_F_readNumber 106 = .ok (.iload 6, 2) := by decide +kernel
theorem d_F_readNumber_108 : decode cc_F_readNumber 108 = .ok (.ifCond .ne 12, 3) := by decide +kernel
theorem d_F_readNumber_111 : decode cc_F_readNumber 111 = .ok (.aload_n 0, 1) := by decide +kernel
theorem d_F_readNumber_112 : decode cc_F_readNumber 112 = .ok (.iload 5, 2) := by decide +kernel
theorem d_F_readNumber_114 : decode cc_F_readNumber 114 = .ok (.invokevirtual 32, 3) := by decide +kernel
theorem d_F_readNumber_117 : decode cc_F_readNumber 117 = .ok (.goto 13, 3) := by decide +kernel
theorem d_F_readNumber_120 : decode cc_F_readNumber 120 = .ok (.aload_n 0, 1) := by decide +kernel
theorem d_F_readNumber_121 : decode cc_F_readNumber 121 = .ok (.aload_n 1, 1) := by decide +kernel
theorem d_F_readNumber_122 : decode cc_F_readNumber 122 = .ok (.iload 5, 2) := by decide +kernel
theorem d_F_readNumber_124 : decode cc_F_readNumber 124 = .ok (.iload 6, 2) := by decide +kernel
theorem d_F_readNumber_126 : decode cc_F_readNumber 126 = .ok (.iadd, 1) := by decide +kernel
theorem d_F_readNumber_127 : decode cc_F_readNumber 127 = .ok (.invokevirtual 29, 3) := by decide +kernel
theorem d_F_readNumber_130 : decode cc_F_readNumber 130 = .ok (.return_, 1) := by decide +kernel
theorem d_F_close_0 : decode cc_F_close 0 = .ok (.aload_n 0, 1) := by decide +kernel
theorem d_F_close_1 : decode cc_F_close 1 = .ok (.aload_n 1, 1) := by decide +kernel
theorem d_F_close_2 : decode cc_F_close 2 = .ok (.iload_n 2, 1) := by decide +kernel
theorem d_F_close_3 : decode cc_F_close 3 = .ok (.invokevirtual 9, 3) := by decide +kernel
theorem d_F_close_6 : decode cc_F_close 6 = .ok (.bipush 59, 2) := by decide +kernel
theorem d_F_close_8 : decode cc_F_close 8 = .ok (.if_icmp .ne 7, 3) := by decide +kernel
theorem d_F_close_11 : decode cc_F_close 11 = .ok (.iconst 1, 1) := by decide +kernel
theorem d_F_close_12 : decode cc_F_close 12 = .ok (.goto 4, 3) := by decide +kernel
theorem d_F_close_15 : decode cc_F_close 15 = .ok (.iconst 0, 1) := by decide +kernel
theorem d_F_close_16 : decode cc_F_close 16 = .ok (.putfield 40, 3) := by decide +kernel
theorem d_F_close_19 : decode cc_F_close 19 = .ok (.aload_n 0, 1) := by decide +kernel
theorem d_F_close_20 : decode cc_F_close 20 = .ok (.aload_n 0, 1) := by decide +kernel
theorem d_F_close_21 : decode cc_F_close 21 = .ok (.getfield 40, 3) := by decide +kernel
theorem d_F_close_24 : decode cc_F_close 24 = .ok (.ifCond .eq 9, 3) := by decide +kernel
theorem d_F_close_27 : decode cc_F_close 27 = .ok (.iload_n 2, 1) := by decide +kernel
theorem d_F_close_28 : decode cc_F_close 28 = .ok (.iconst 1, 1) := by decide +kernel
theorem d_F_close_29 : decode cc_F_close 29 = .ok (.iadd, 1) := by decide +kernel
theorem d_F_close_30 : decode cc_F_close 30 = .ok (.goto 4, 3) := by decide +kernel
theorem d_F_close_33 : decode cc_F_close 33 = .ok (.iload_n 2, 1) := by decide +kernel
theorem d_F_close_34 : decode cc_F_close 34 = .ok (.putfield 43, 3) := by decide +kernel
theorem d_F_close_37 : decode cc_F_close 37 = .ok (.return_, 1) := by decide +kernel
theorem d_F_breakOff_0 : decode cc_F_breakOff 0 = .ok (.aload_n 0, 1) := by decide +kernel
theorem d_F_breakOff_1 : decode cc_F_breakOff 1 = .ok (.iconst 0, 1) := by decide +kernel
theorem d_F_breakOff_2 : decode cc_F_breakOff 2 = .ok (.putfield 40, 3) := by decide +kernel
theorem d_F_breakOff_5 : decode cc_F_breakOff 5 = .ok (.aload_n 0, 1) := by decide +kernel
theorem d_F_breakOff_6 : decode cc_F_breakOff 6 = .ok (.iload_n 1, 1) := by decide +kernel
theorem d_F_breakOff_7 : decode cc_F_breakOff 7 = .ok (.putfield 43, 3) := by decide +kernel
theorem d_F_breakOff_10 : decode cc_F_breakOff 10 = .ok (.return_, 1) := by decide +kernel
theorem d_F_digitOf_0 : decode cc_F_digitOf 0 = .ok (.iload_n 0, 1) := by decide +kernel
theorem d_F_digitOf_1 : decode cc_F_digitOf 1 = .ok (.bipush 48, 2) := by decide +kernel
theorem d_F_digitOf_3 : decode cc_F_digitOf 3 = .ok (.if_icmp .lt 14, 3) := by decide +kernel
theorem d_F_digitOf_6 : decode cc_F_digitOf 6 = .ok (.iload_n 0, 1) := by decide +kernel
theorem d_F_digitOf_7 : decode cc_F_digitOf 7 = .ok (.bipush 57, 2) := by decide +kernel
theorem d_F_digitOf_9 : decode cc_F_digitOf 9 = .ok (.if_icmp .gt 8, 3) := by decide +kernel
theorem d_F_digitOf_12 : decode cc_F_digitOf 12 = .ok (.iload_n 0, 1) := by decide +kernel
theorem d_F_digitOf_13 : decode cc_F_digitOf 13 = .ok (.bipush 48, 2) := by decide +kernel
theorem d_F_digitOf_15 : decode cc_F_digitOf 15 = .ok (.isub, 1) := by decide +kernel
theorem d_F_digitOf_16 : decode cc_F_digitOf 16 = .ok (.ireturn, 1) := by decide +kernel
theorem d_F_digitOf_17 : decode cc_F_digitOf 17 = .ok (.iload_n 1, 1) := by decide +kernel
theorem d_F_digitOf_18 : decode cc_F_digitOf 18 = .ok (.bipush 16, 2) := by decide +kernel
theorem d_F_digitOf_20 : decode cc_F_digitOf 20 = .ok (.if_icmp .ne 23, 3) := by decide +kernel
theorem d_F_digitOf_23 : decode cc_F_digitOf 23 = .ok (.iload_n 0, 1) := by decide +kernel
theorem d_F_digitOf_24 : decode cc_F_digitOf 24 = .ok (.bipush 97, 2) := by decide +kernel
theorem d_F_digitOf_26 : decode cc_F_digitOf 26 = .ok (.if_icmp .lt 17, 3) := by decide +kernel
theorem d_F_digitOf_29 : decode cc_F_digitOf 29 = .ok (.iload_n 0, 1) := by decide +kernel
theorem d_F_digitOf_30 : decode cc_F_digitOf 30 = .ok (.bipush 102, 2) := by decide +kernel
theorem d_F_digitOf_32 : decode cc_F_digitOf 32 = .ok (.if_icmp .gt 11, 3) := by decide +kernel
theorem d_F_digitOf_35 : decode cc_F_digitOf 35 = .ok (.iload_n 0, 1) := by decide +kernel
theorem d_F_digitOf_36 : decode cc_F_digitOf 36 = .ok (.bipush 97, 2) := by decide +kernel
theorem d_F_digitOf_38 : decode cc_F_digitOf 38 = .ok (.isub, 1) := by decide +kernel
theorem d_F_digitOf_39 : decode cc_F_digitOf 39 = .ok (.bipush 10, 2) := by decide +kernel
theorem d_F_digitOf_41 : decode cc_F_digitOf 41 = .ok (.iadd, 1) := by decide +kernel
theorem d_F_digitOf_42 : decode cc_F_digitOf 42 = .ok (.ireturn, 1) := by decide +kernel
theorem d_F_digitOf_43 : decode cc_F_digitOf 43 = .ok (.iload_n 1, 1) := by decide +kernel
theorem d_F_digitOf_44 : decode cc_F_digitOf 44 = .ok (.bipush 16, 2) := by decide +kernel
theorem d_F_digitOf_46 : decode cc_F_digitOf 46 = .ok (.if_icmp .ne 23, 3) := by decide +kernel
theorem d_F_digitOf_49 : decode cc_F_digitOf 49 = .ok (.iload_n 0, 1) := by decide +kernel
theorem d_F_digitOf_50 : decode cc_F_digitOf 50 = .ok (.bipush 65, 2) := by decide +kernel
theorem d_F_digitOf_52 : decode cc_F_digitOf 52 = .ok (.if_icmp .lt 17, 3) := by decide +kernel
theorem d_F_digitOf_55 : decode cc_F_digitOf 55 = .ok (.iload_n 0, 1) := by decide +kernel
theorem d_F_digitOf_56 : decode cc_F_digitOf 56 = .ok (.bipush 70, 2) := by decide +kernel
theorem d_F_digitOf_58 : decode cc_F_digitOf 58 = .ok (.if_icmp .gt 11, 3) := by decide +kernel
theorem d_F_digitOf_61 : decode cc_F_digitOf 61 = .ok (.iload_n 0, 1) := by decide +kernel
theorem d_F_digitOf_62 : decode cc_F_digitOf 62 = .ok (.bipush 65, 2) := by decide +kernel
theorem d_F_digitOf_64 : decode cc_F_digitOf 64 = .ok (.isub, 1) := by decide +kernel
theorem d_F_digitOf_65 : decode cc_F_digitOf 65 = .ok (.bipush 10, 2) := by decide +kernel
theorem d_F_digitOf_67 : decode cc_F_digitOf 67 = .ok (.iadd, 1) := by decide +kernel
theorem d_F_digitOf_68 : decode cc_F_digitOf 68 = .ok (.ireturn, 1) := by decide +kernel
theorem d_F_digitOf_69 : decode cc_F_digitOf 69 = .ok (.iconst (-1), 1) := by decide +kernel
theorem d_F_digitOf_70 : decode cc_F_digitOf 70 = .ok (.ireturn, 1) := by decide +kernel
theorem d_E_init_0 : decode cc_E_init 0 = .ok (.aload_n 0, 1) := by decide +kernel
theorem d_E_init_1 : decode cc_E_init 1 = .ok (.invokespecial 3, 3) := by decide +kernel
theorem d_E_init_4 : decode cc_E_init 4 = .ok (.aload_n 0, 1) := by decide +kernel
theorem d_E_init_5 : decode cc_E_init 5 = .ok (.new 9, 3) := by decide +kernel
theorem d_E_init_8 : decode cc_E_init 8 = .ok (.dup, 1) := by decide +kernel
theorem d_E_init_9 : decode cc_E_init 9 = .ok (.bipush 100, 2) := by decide +kernel
theorem d_E_init_11 : decode cc_E_init 11 = .ok (.invokespecial 11, 3) := by decide +kernel
theorem d_E_init_14 : decode cc_E_init 14 = .ok (.putfield 14, 3) := by decide +kernel
theorem d_E_init_17 : decode cc_E_init 17 = .ok (.return_, 1) := by decide +kernel
theorem d_E_learn_0 : decode cc_E_learn 0 = .ok (.aload_n 0, 1) := by decide +kernel
theorem d_E_learn_1 : decode cc_E_learn 1 = .ok (.getfield 14, 3) := by decide +kernel
theorem d_E_learn_4 : decode cc_E_learn 4 = .ok (.invokevirtual 20, 3) := by decide +kernel
theorem d_E_learn_7 : decode cc_E_learn 7 = .ok (.iconst 0, 1) := by decide +kernel
theorem d_E_learn_8 : decode cc_E_learn 8 = .ok (.istore_n 2, 1) := by decide +kernel
theorem d_E_learn_9 : decode cc_E_learn 9 = .ok (.iload_n 2, 1) := by decide +kernel
theorem d_E_learn_10 : decode cc_E_learn 10 = .ok (.aload_n 1, 1) := by decide +kernel
theorem d_E_learn_11 : decode cc_E_learn 11 = .ok (.invokevirtual 23, 3) := by decide +kernel
theorem d_E_learn_14 : decode cc_E_learn 14 = .ok (.if_icmp .ge 22, 3) := by decide +kernel
theorem d_E_learn_17 : decode cc_E_learn 17 = .ok (.aload_n 0, 1) := by decide +kernel
theorem d_E_learn_18 : decode cc_E_learn 18 = .ok (.getfield 14, 3) := by decide +kernel
theorem d_E_learn_21 : decode cc_E_learn 21 = .ok (.aload_n 1, 1) := by decide +kernel
theorem d_E_learn_22 : decode cc_E_learn 22 = .ok (.iload_n 2, 1) := by decide +kernel
theorem d_E_learn_23 : decode cc_E_learn 23 = .ok (.invokevirtual 27, 3) := by decide +kernel
theorem d_E_learn_26 : decode cc_E_learn 26 = .ok (.invokevirtual 31, 3) := by decide +kernel
theorem d_E_learn_29 : decode cc_E_learn 29 = .ok (.pop, 1) := by decide +kernel
theorem d_E_learn_30 : decode cc_E_learn 30 = .ok (.iinc 2 1, 3) := by decide +kernel
theorem d_E_learn_33 : decode cc_E_learn 33 = .ok (.goto (-24), 3) := by decide +kernel
theorem d_E_learn_36 : decode cc_E_learn 36 = .ok (.aload_n 0, 1) := by decide +kernel
theorem d_E_learn_37 : decode cc_E_learn 37 = .ok (.iconst 1, 1) := by decide +kernel
theorem d_E_learn_38 : decode cc_E_learn 38 = .ok (.putfield 35, 3) := by decide +kernel
theorem d_E_learn_41 : decode cc_E_learn 41 = .ok (.return_, 1) := by decide +kernel
end
section
theorem d_D_init_0 : decode cc_D_init 0 = .ok (.aload_n 0, 1) := by decide +kernel
theorem d_D_init_1 : decode cc_D_init 1 = .ok (.invokespecial 1, 3) := by decide +kernel
theorem d_D_init_4 : decode cc_D_init 4 = .ok (.aload_n 0, 1) := by decide +kernel
theorem d_D_init_5 : decode cc_D_init 5 = .ok (.new 7, 3) := by decide +kernel
theorem d_D_init_8 : decode cc_D_init 8 = .ok (.dup, 1) := by decide +kernel
theorem d_D_init_9 : decode cc_D_init 9 = .ok (.sipush 200, 3) := by decide +kernel
theorem d_D_init_12 : decode cc_D_init 12 = .ok (.invokespecial 11, 3) := by decide +kernel
theorem d_D_init_15 : decode cc_D_init 15 = .ok (.putfield 14, 3) := by decide +kernel
theorem d_D_init_18 : decode cc_D_init 18 = .ok (.aload_n 0, 1) := by decide +kernel
theorem d_D_init_19 : decode cc_D_init 19 = .ok (.new 7, 3) := by decide +kernel
theorem d_D_init_22 : decode cc_D_init 22 = .ok (.dup, 1) := by decide +kernel
theorem d_D_init_23 : decode cc_D_init 23 = .ok (.bipush 100, 2) := by decide +kernel
theorem d_D_init_25 : decode cc_D_init 25 = .ok (.invokespecial 11, 3) := by decide +kernel
theorem d_D_init_28 : decode cc_D_init 28 = .ok (.putfield 18, 3) := by decide +kernel
theorem d_D_init_31 : decode cc_D_init 31 = .ok (.aload_n 0, 1) := by decide +kernel
theorem d_D_init_32 : decode cc_D_init 32 = .ok (.new 7, 3) := by decide +kernel
theorem d_D_init_35 : decode cc_D_init 35 = .ok (.dup, 1) := by decide +kernel
theorem d_D_init_36 : decode cc_D_init 36 = .ok (.sipush 300, 3) := by decide +kernel
theorem d_D_init_39 : decode cc_D_init 39 = .ok (.invokespecial 11, 3) := by decide +kernel
theorem d_D_init_42 : decode cc_D_init 42 = .ok (.putfield 21, 3) := by decide +kernel
theorem d_D_init_45 : decode cc_D_init 45 = .ok (.aload_n 0, 1) := by decide +kernel
theorem d_D_init_46 : decode cc_D_init 46 = .ok (.bipush 26, 2) := by decide +kernel
theorem d_D_init_48 : decode cc_D_init 48 = .ok (.anewarray 24, 3) := by decide +kernel
theorem d_D_init_51 : decode cc_D_init 51 = .ok (.putfield 26, 3) := by decide +kernel
theorem d_D_init_54 : decode cc_D_init 54 = .ok (.iconst 0, 1) := by decide +kernel
theorem d_D_init_55 : decode cc_D_init 55 = .ok (.istore_n 1, 1) := by decide +kernel
theorem d_D_init_56 : decode cc_D_init 56 = .ok (.iload_n 1, 1) := by decide +kernel
theorem d_D_init_57 : decode cc_D_init 57 = .ok (.bipush 26, 2) := by decide +kernel
theorem d_D_init_59 : decode cc_D_init 59 = .ok (.if_icmp .ge 22, 3) := by decide +kernel
theorem d_D_init_62 : decode cc_D_init 62 = .ok (.aload_n 0, 1) := by decide +kernel
theorem d_D_init_63 : decode cc_D_init 63 = .ok (.getfield 26, 3) := by decide +kernel
theorem d_D_init_66 : decode cc_D_init 66 = .ok (.iload_n 1, 1) := by decide +kernel
theorem d_D_init_67 : decode cc_D_init 67 = .ok (.new 24, 3) := by decide +kernel
theorem d_D_init_70 : decode cc_D_init 70 = .ok (.dup, 1) := by decide +kernel
theorem d_D_init_71 : decode cc_D_init 71 = .ok (.invokespecial 30, 3) := by decide +kernel
theorem d_D_init_74 : decode cc_D_init 74 = .ok (.aastore, 1) := by decide +kernel
theorem d_D_init_75 : decode cc_D_init 75 = .ok (.iinc 1 1, 3) := by decide +kernel
theorem d_D_init_78 : decode cc_D_init 78 = .ok (.goto (-22), 3) := by decide +kernel
theorem d_D_init_81 : decode cc_D_init 81 = .ok (.aload_n 0, 1) := by decide +kernel
theorem d_D_init_82 : decode cc_D_init 82 = .ok (.new 31, 3) := by decide +kernel
theorem d_D_init_85 : decode cc_D_init 85 = .ok (.dup, 1) := by decide +kernel
theorem d_D_init_86 : decode cc_D_init 86 = .ok (.invokespecial 33, 3) := by decide +kernel
theorem d_D_init_89 : decode cc_D_init 89 = .ok (.putfield 34, 3) := by decide +kernel
theorem d_D_init_92 : decode cc_D_init 92 = .ok (.aload_n 0, 1) := by decide +kernel
theorem d_D_init_93 : decode cc_D_init 93 = .ok (.iconst (-1), 1) := by decide +kernel
theorem d_D_init_94 : decode cc_D_init 94 = .ok (.putfield 38, 3) := by decide +kernel
theorem d_D_init_97 : decode cc_D_init 97 = .ok (.return_, 1) := by decide +kernel
theorem d_D_put_0 : decode cc_D_put 0 = .ok (.iload_n 3, 1) := by decide +kernel
theorem d_D_put_1 : decode cc_D_put 1 = .ok (.iconst 1, 1) := by decide +kernel
theorem d_D_put_2 : decode cc_D_put 2 = .ok (.if_icmp .lt 24, 3) := by decide +kernel
theorem d_D_put_5 : decode cc_D_put 5 = .ok (.iload_n 3, 1) := by decide +kernel
theorem d_D_put_6 : decode cc_D_put 6 = .ok (.bipush 8, 2) := by decide +kernel
theorem d_D_put_8 : decode cc_D_put 8 = .ok (.if_icmp .gt 18, 3) := by decide +kernel
theorem d_D_put_11 : decode cc_D_put 11 = .ok (.aload_n 0, 1) := by decide +kernel
theorem d_D_put_12 : decode cc_D_put 12 = .ok (.getfield 14, 3) := by decide +kernel
theorem d_D_put_15 : decode cc_D_put 15 = .ok (.invokevirtual 42, 3) := by decide +kernel
theorem d_D_put_18 : decode cc_D_put 18 = .ok (.iload_n 3, 1) := by decide +kernel
theorem d_D_put_19 : decode cc_D_put 19 = .ok (.iadd, 1) := by decide +kernel
theorem d_D_put_20 : decode cc_D_put 20 = .ok (.sipush 200, 3) := by decide +kernel
theorem d_D_put_23 : decode cc_D_put 23 = .ok (.if_icmp .le 5, 3) := by decide +kernel
theorem d_D_put_26 : decode cc_D_put 26 = .ok (.iconst 0, 1) := by decide +kernel
theorem d_D_put_27 : decode cc_D_put 27 = .ok (.ireturn, 1) := by decide +kernel
theorem d_D_put_28 : decode cc_D_put 28 = .ok (.iload_n 3, 1) := by decide +kernel
theorem d_D_put_29 : decode cc_D_put 29 = .ok (.iconst 1, 1) := by decide +kernel
theorem d_D_put_30 : decode cc_D_put 30 = .ok (.isub, 1) := by decide +kernel
theorem d_D_put_31 : decode cc_D_put 31 = .ok (.istore 4, 2) := by decide +kernel
theorem d_D_put_33 : decode cc_D_put 33 = .ok (.iload 4, 2) := by decide +kernel
theorem d_D_put_35 : decode cc_D_put 35 = .ok (.ifCond .lt 29, 3) := by decide +kernel
theorem d_D_put_38 : decode cc_D_put 38 = .ok (.aload_n 0, 1) := by decide +kernel
theorem d_D_put_39 : decode cc_D_put 39 = .ok (.getfield 14, 3) := by decide +kernel
theorem d_D_put_42 : decode cc_D_put 42 = .ok (.lload_n 1, 1) := by decide +kernel
theorem d_D_put_43 : decode cc_D_put 43 = .ok (.bipush 8, 2) := by decide +kernel
theorem d_D_put_45 : decode cc_D_put 45 = .ok (.iload 4, 2) := by decide +kernel
theorem d_D_put_47 : decode cc_D_put 47 = .ok (.imul, 1) := by decide +kernel
theorem d_D_put_48 : decode cc_D_put 48 = .ok (.lushr, 1) := by decide +kernel
theorem d_D_put_49 : decode cc_D_put 49 = .ok (.l2i, 1) := by decide +kernel
theorem d_D_put_50 : decode cc_D_put 50 = .ok (.sipush 255, 3) := by decide +kernel
theorem d_D_put_53 : decode cc_D_put 53 = .ok (.iand, 1) := by decide +kernel
theorem d_D_put_54 : decode cc_D_put 54 = .ok (.invokevirtual 46, 3) := by decide +kernel
theorem d_D_put_57 : decode cc_D_put 57 = .ok (.pop, 1) := by decide +kernel
theorem d_D_put_58 : decode cc_D_put 58 = .ok (.iinc 4 (-1), 3) := by decide +kernel
theorem d_D_put_61 : decode cc_D_put 61 = .ok (.goto (-28), 3) := by decide +kernel
theorem d_D_put_64 : decode cc_D_put 64 = .ok (.iconst 1, 1) := by decide +kernel
theorem d_D_put_65 : decode cc_D_put 65 = .ok (.ireturn, 1) := by decide +kernel
theorem d_D_define_0 : decode cc_D_define 0 = .ok (.aload_n 0, 1) := by decide +kernel
theorem d_D_define_1 : decode cc_D_define 1 = .ok (.iload_n 1, 1) := by decide +kernel
theorem d_D_define_2 : decode cc_D_define 2 = .ok (.invokevirtual 50, 3) := by decide +kernel
theorem d_D_define_5 : decode cc_D_define 5 = .ok (.astore_n 2, 1) := by decide +kernel
theorem d_D_define_6 : decode cc_D_define 6 = .ok (.aload_n 2, 1) := by decide +kernel
theorem d_D_define_7 : decode cc_D_define 7 = .ok (.ifnonnull 6, 3) := by decide +kernel
theorem d_D_define_10 : decode cc_D_define 10 = .ok (.bipush (-10), 2) := by decide +kernel
theorem d_D_define_12 : decode cc_D_define 12 = .ok (.ireturn, 1) := by decide +kernel
theorem d_D_define_13 : decode cc_D_define 13 = .ok (.aload_n 0, 1) := by decide +kernel
theorem d_D_define_14 : decode cc_D_define 14 = .ok (.iconst (-1), 1) := by decide +kernel
theorem d_D_define_15 : decode cc_D_define 15 = .ok (.putfield 38, 3) := by decide +kernel
theorem d_D_define_18 : decode cc_D_define 18 = .ok (.aload_n 0, 1) := by decide +kernel
theorem d_D_define_19 : decode cc_D_define 19 = .ok (.invokevirtual 54, 3) := by decide +kernel
theorem d_D_define_22 : decode cc_D_define 22 = .ok (.istore_n 3, 1) := by decide +kernel
theorem d_D_define_23 : decode cc_D_define 23 = .ok (.aload_n 0, 1) := by decide +kernel
theorem d_D_define_24 : decode cc_D_define 24 = .ok (.getfield 14, 3) := by decide +kernel
theorem d_D_define_27 : decode cc_D_define 27 = .ok (.invokevirtual 57, 3) := by decide +kernel
theorem d_D_define_30 : decode cc_D_define 30 = .ok (.iload_n 3, 1) := by decide +kernel
theorem d_D_define_31 : decode cc_D_define 31 = .ok (.ifCond .eq 6, 3) := by decide +kernel
theorem d_D_define_34 : decode cc_D_define 34 = .ok (.iload_n 3, 1) := by decide +kernel
theorem d_D_define_35 : decode cc_D_define 35 = .ok (.ineg, 1) := by decide +kernel
theorem d_D_define_36 : decode cc_D_define 36 = .ok (.ireturn, 1) := by decide +kernel
theorem d_D_define_37 : decode cc_D_define 37 = .ok (.aload_n 2, 1) := by decide +kernel
theorem d_D_define_38 : decode cc_D_define 38 = .ok (.getfield 60, 3) := by decide +kernel
theorem d_D_define_41 : decode cc_D_define 41 = .ok (.ifCond .eq 6, 3) := by decide +kernel
theorem d_D_define_44 : decode cc_D_define 44 = .ok (.bipush (-9), 2) := by decide +kernel
theorem d_D_define_46 : decode cc_D_define 46 = .ok (.ireturn, 1) := by decide +kernel
theorem d_D_define_47 : decode cc_D_define 47 = .ok (.aload_n 2, 1) := by decide +kernel
theorem d_D_define_48 : decode cc_D_define 48 = .ok (.aload_n 0, 1) := by decide +kernel
theorem d_D_define_49 : decode cc_D_define 49 = .ok (.getfield 18, 3) := by decide +kernel
theorem d_D_define_52 : decode cc_D_define 52 = .ok (.invokevirtual 64, 3) := by decide +kernel
theorem d_D_define_55 : decode cc_D_define 55 = .ok (.aload_n 0, 1) := by decide +kernel
theorem d_D_define_56 : decode cc_D_define 56 = .ok (.getfield 18, 3) := by decide +kernel
theorem d_D_define_59 : decode cc_D_define 59 = .ok (.invokevirtual 42, 3) := by decide +kernel
theorem d_D_define_62 : decode cc_D_define 62 = .ok (.ireturn, 1) := by decide +kernel
theorem d_D_value_0 : decode cc_D_value 0 = .ok (.iload_n 1, 1) := by decide +kernel
theorem d_D_value_1 : decode cc_D_value 1 = .ok (.ifCond .lt 18, 3) := by decide +kernel
theorem d_D_value_4 : decode cc_D_value 4 = .ok (.iload_n 1, 1) := by decide +kernel
theorem d_D_value_5 : decode cc_D_value 5 = .ok (.iconst 1, 1) := by decide +kernel
theorem d_D_value_6 : decode cc_D_value 6 = .ok (.if_icmp .gt 13, 3) := by decide +kernel
theorem d_D_value_9 : decode cc_D_value 9 = .ok (.iload_n 2, 1) := by decide +kernel
theorem d_D_value_10 : decode cc_D_value 10 = .ok (.ifCond .lt 9, 3) := by decide +kernel
theorem d_D_value_13 : decode cc_D_value 13 = .ok (.iload_n 2, 1) := by decide +kernel
theorem d_D_value_14 : decode cc_D_value 14 = .ok (.ldc 68, 2) := by decide +kernel
theorem d_D_value_16 : decode cc_D_value 16 = .ok (.if_icmp .le 6, 3) := by decide +kernel
theorem d_D_value_19 : decode cc_D_value 19 = .ok (.bipush (-10), 2) := by decide +kernel
theorem d_D_value_21 : decode cc_D_value 21 = .ok (.ireturn, 1) := by decide +kernel
theorem d_D_value_22 : decode cc_D_value 22 = .ok (.aload_n 0, 1) := by decide +kernel
theorem d_D_value_23 : decode cc_D_value 23 = .ok (.iconst (-1), 1) := by decide +kernel
theorem d_D_value_24 : decode cc_D_value 24 = .ok (.putfield 38, 3) := by decide +kernel
theorem d_D_value_27 : decode cc_D_value 27 = .ok (.aload_n 0, 1) := by decide +kernel
theorem d_D_value_28 : decode cc_D_value 28 = .ok (.iload_n 2, 1) := by decide +kernel
theorem d_D_value_29 : decode cc_D_value 29 = .ok (.putfield 69, 3) := by decide +kernel
theorem d_D_value_32 : decode cc_D_value 32 = .ok (.aload_n 0, 1) := by decide +kernel
theorem d_D_value_33 : decode cc_D_value 33 = .ok (.iconst 0, 1) := by decide +kernel
theorem d_D_value_34 : decode cc_D_value 34 = .ok (.putfield 72, 3) := by decide +kernel
theorem d_D_value_37 : decode cc_D_value 37 = .ok (.aload_n 0, 1) := by decide +kernel
theorem d_D_value_38 : decode cc_D_value 38 = .ok (.iconst 0, 1) := by decide +kernel
theorem d_D_value_39 : decode cc_D_value 39 = .ok (.putfield 75, 3) := by decide +kernel
theorem d_D_value_42 : decode cc_D_value 42 = .ok (.aload_n 0, 1) := by decide +kernel
theorem d_D_value_43 : decode cc_D_value 43 = .ok (.getfield 21, 3) := by decide +kernel
theorem d_D_value_46 : decode cc_D_value 46 = .ok (.invokevirtual 57, 3) := by decide +kernel
theorem d_D_value_49 : decode cc_D_value 49 = .ok (.aload_n 0, 1) := by decide +kernel
theorem d_D_value_50 : decode cc_D_value 50 = .ok (.aload_n 0, 1) := by decide +kernel
theorem d_D_value_51 : decode cc_D_value 51 = .ok (.getfield 14, 3) := by decide +kernel
theorem d_D_value_54 : decode cc_D_value 54 = .ok (.iconst 0, 1) := by decide +kernel
theorem d_D_value_55 : decode cc_D_value 55 = .ok (.iconst (-1), 1) := by decide +kernel
theorem d_D_value_56 : decode cc_D_value 56 = .ok (.invokevirtual 78, 3) := by decide +kernel
theorem d_D_value_59 : decode cc_D_value 59 = .ok (.istore_n 3, 1) := by decide +kernel
theorem d_D_value_60 : decode cc_D_value 60 = .ok (.aload_n 0, 1) := by decide +kernel
theorem d_D_value_61 : decode cc_D_value 61 = .ok (.getfield 14, 3) := by decide +kernel
theorem d_D_value_64 : decode cc_D_value 64 = .ok (.invokevirtual 57, 3) := by decide +kernel
theorem d_D_value_67 : decode cc_D_value 67 = .ok (.iload_n 3, 1) := by decide +kernel
theorem d_D_value_68 : decode cc_D_value 68 = .ok (.ifCond .eq 13, 3) := by decide +kernel
theorem d_D_value_71 : decode cc_D_value 71 = .ok (.aload_n 0, 1) := by decide +kernel
theorem d_D_value_72 : decode cc_D_value 72 = .ok (.getfield 21, 3) := by decide +kernel
theorem d_D_value_75 : decode cc_D_value 75 = .ok (.invokevirtual 57, 3) := by decide +kernel
theorem d_D_value_78 : decode cc_D_value 78 = .ok (.iload_n 3, 1) := by decide +kernel
theorem d_D_value_79 : decode cc_D_value 79 = .ok (.ineg, 1) := by decide +kernel
theorem d_D_value_80 : decode cc_D_value 80 = .ok (.ireturn, 1) := by decide +kernel
theorem d_D_value_81 : decode cc_D_value 81 = .ok (.iload_n 1, 1) := by decide +kernel
theorem d_D_value_82 : decode cc_D_value 82 = .ok (.iconst 1, 1) := by decide +kernel
theorem d_D_value_83 : decode cc_D_value 83 = .ok (.if_icmp .ne 10, 3) := by decide +kernel
theorem d_D_value_86 : decode cc_D_value 86 = .ok (.aload_n 0, 1) := by decide +kernel
theorem d_D_value_87 : decode cc_D_value 87 = .ok (.getfield 21, 3) := by decide +kernel
theorem d_D_value_90 : decode cc_D_value 90 = .ok (.invokevirtual 82, 3) := by decide +kernel
theorem d_D_value_93 : decode cc_D_value 93 = .ok (.aload_n 0, 1) := by decide +kernel
theorem d_D_value_94 : decode cc_D_value 94 = .ok (.getfield 21, 3) := by decide +kernel
theorem d_D_value_97 : decode cc_D_value 97 = .ok (.invokevirtual 42, 3) := by decide +kernel
theorem d_D_value_100 : decode cc_D_value 100 = .ok (.ireturn, 1) := by decide +kernel
theorem d_D_place_0 : decode cc_D_place 0 = .ok (.aload_n 0, 1) := by decide +kernel
theorem d_D_place_1 : decode cc_D_place 1 = .ok (.getfield 38, 3) := by decide +kernel
theorem d_D_place_4 : decode cc_D_place 4 = .ok (.ireturn, 1) := by decide +kernel
theorem d_D_characters_0 : decode cc_D_characters 0 = .ok (.aload_n 0, 1) := by decide +kernel
theorem d_D_characters_1 : decode cc_D_characters 1 = .ok (.getfield 21, 3) := by decide +kernel
theorem d_D_characters_4 : decode cc_D_characters 4 = .ok (.iload_n 1, 1) := by decide +kernel
theorem d_D_characters_5 : decode cc_D_characters 5 = .ok (.invokevirtual 85, 3) := by decide +kernel
theorem d_D_characters_8 : decode cc_D_characters 8 = .ok (.lreturn, 1) := by decide +kernel
theorem d_D_text_0 : decode cc_D_text 0 = .ok (.aload_n 0, 1) := by decide +kernel
theorem d_D_text_1 : decode cc_D_text 1 = .ok (.iload_n 1, 1) := by decide +kernel
theorem d_D_text_2 : decode cc_D_text 2 = .ok (.invokevirtual 50, 3) := by decide +kernel
theorem d_D_text_5 : decode cc_D_text 5 = .ok (.astore_n 3, 1) := by decide +kernel
theorem d_D_text_6 : decode cc_D_text 6 = .ok (.aload_n 3, 1) := by decide +kernel
theorem d_D_text_7 : decode cc_D_text 7 = .ok (.ifnull 10, 3) := by decide +kernel
theorem d_D_text_10 : decode cc_D_text 10 = .ok (.aload_n 3, 1) := by decide +kernel
theorem d_D_text_11 : decode cc_D_text 11 = .ok (.getfield 60, 3) := by decide +kernel
theorem d_D_text_14 : decode cc_D_text 14 = .ok (.ifCond .ne 9, 3) := by decide +kernel
theorem d_D_text_17 : decode cc_D_text 17 = .ok (.ldc2_w 89, 3) := by decide +kernel
theorem d_D_text_20 : decode cc_D_text 20 = .ok (.goto 11, 3) := by decide +kernel
theorem d_D_text_23 : decode cc_D_text 23 = .ok (.aload_n 3, 1) := by decide +kernel
theorem d_D_text_24 : decode cc_D_text 24 = .ok (.getfield 91, 3) := by decide +kernel
theorem d_D_text_27 : decode cc_D_text 27 = .ok (.iload_n 2, 1) := by decide +kernel
theorem d_D_text_28 : decode cc_D_text 28 = .ok (.invokevirtual 85, 3) := by decide +kernel
theorem d_D_text_31 : decode cc_D_text 31 = .ok (.lreturn, 1) := by decide +kernel
theorem d_D_clear_0 : decode cc_D_clear 0 = .ok (.aload_n 0, 1) := by decide +kernel
theorem d_D_clear_1 : decode cc_D_clear 1 = .ok (.invokevirtual 94, 3) := by decide +kernel
theorem d_D_clear_4 : decode cc_D_clear 4 = .ok (.istore_n 1, 1) := by decide +kernel
theorem d_D_clear_5 : decode cc_D_clear 5 = .ok (.iconst 0, 1) := by decide +kernel
theorem d_D_clear_6 : decode cc_D_clear 6 = .ok (.istore_n 2, 1) := by decide +kernel
theorem d_D_clear_7 : decode cc_D_clear 7 = .ok (.iload_n 2, 1) := by decide +kernel
theorem d_D_clear_8 : decode cc_D_clear 8 = .ok (.bipush 26, 2) := by decide +kernel
theorem d_D_clear_10 : decode cc_D_clear 10 = .ok (.if_icmp .ge 19, 3) := by decide +kernel
theorem d_D_clear_13 : decode cc_D_clear 13 = .ok (.aload_n 0, 1) := by decide +kernel
theorem d_D_clear_14 : decode cc_D_clear 14 = .ok (.getfield 26, 3) := by decide +kernel
theorem d_D_clear_17 : decode cc_D_clear 17 = .ok (.iload_n 2, 1) := by decide +kernel
theorem d_D_clear_18 : decode cc_D_clear 18 = .ok (.aaload, 1) := by decide +kernel
theorem d_D_clear_19 : decode cc_D_clear 19 = .ok (.iconst 0, 1) := by decide +kernel
theorem d_D_clear_20 : decode cc_D_clear 20 = .ok (.putfield 60, 3) := by decide +kernel
theorem d_D_clear_23 : decode cc_D_clear 23 = .ok (.iinc 2 1, 3) := by decide +kernel
theorem d_D_clear_26 : decode cc_D_clear 26 = .ok (.goto (-19), 3) := by decide +kernel
theorem d_D_clear_29 : decode cc_D_clear 29 = .ok (.iload_n 1, 1) := by decide +kernel
theorem d_D_clear_30 : decode cc_D_clear 30 = .ok (.ireturn, 1) := by decide +kernel
theorem d_D_count_0 : decode cc_D_count 0 = .ok (.iload_n 1, 1) := by decide +kernel
theorem d_D_count_1 : decode cc_D_count 1 = .ok (.tableswitch 66 0 4 #[35, 43, 48, 56, 61], 35) := by decide +kernel
theorem d_D_count_36 : decode cc_D_count 36 = .ok (.aload_n 0, 1) := by decide +kernel
theorem d_D_count_37 : decode cc_D_count 37 = .ok (.getfield 14, 3) := by decide +kernel
theorem d_D_count_40 : decode cc_D_count 40 = .ok (.invokevirtual 42, 3) := by decide +kernel
theorem d_D_count_43 : decode cc_D_count 43 = .ok (.ireturn, 1) := by decide +kernel
theorem d_D_count_44 : decode cc_D_count 44 = .ok (.aload_n 0, 1) := by decide +kernel
theorem d_D_count_45 : decode cc_D_count 45 = .ok (.invokevirtual 94, 3) := by decide +kernel
theorem d_D_count_48 : decode cc_D_count 48 = .ok (.ireturn, 1) := by decide +kernel
theorem d_D_count_49 : decode cc_D_count 49 = .ok (.aload_n 0, 1) := by decide +kernel
theorem d_D_count_50 : decode cc_D_count 50 = .ok (.getfield 21, 3) := by decide +kernel
theorem d_D_count_53 : decode cc_D_count 53 = .ok (.invokevirtual 42, 3) := by decide +kernel
theorem d_D_count_56 : decode cc_D_count 56 = .ok (.ireturn, 1) := by decide +kernel
theorem d_D_count_57 : decode cc_D_count 57 = .ok (.aload_n 0, 1) := by decide +kernel
theorem d_D_count_58 : decode cc_D_count 58 = .ok (.getfield 72, 3) := by decide +kernel
theorem d_D_count_61 : decode cc_D_count 61 = .ok (.ireturn, 1) := by decide +kernel
theorem d_D_count_62 : decode cc_D_count 62 = .ok (.aload_n 0, 1) := by decide +kernel
theorem d_D_count_63 : decode cc_D_count 63 = .ok (.getfield 75, 3) := by decide +kernel
theorem d_D_count_66 : decode cc_D_count 66 = .ok (.ireturn, 1) := by decide +kernel
theorem d_D_count_67 : decode cc_D_count 67 = .ok (.iconst (-1), 1) := by decide +kernel
theorem d_D_count_68 : decode cc_D_count 68 = .ok (.ireturn, 1) := by decide +kernel
theorem d_D_known_0 : decode cc_D_known 0 = .ok (.iconst 0, 1) := by decide +kernel
theorem d_D_known_1 : decode cc_D_known 1 = .ok (.istore_n 1, 1) := by decide +kernel
theorem d_D_known_2 : decode cc_D_known 2 = .ok (.iconst 0, 1) := by decide +kernel
theorem d_D_known_3 : decode cc_D_known 3 = .ok (.istore_n 2, 1) := by decide +kernel
theorem d_D_known_4 : decode cc_D_known 4 = .ok (.iload_n 2, 1) := by decide +kernel
theorem d_D_known_5 : decode cc_D_known 5 = .ok (.bipush 26, 2) := by decide +kernel
theorem d_D_known_7 : decode cc_D_known 7 = .ok (.if_icmp .ge 24, 3) := by decide +kernel
theorem d_D_known_10 : decode cc_D_known 10 = .ok (.aload_n 0, 1) := by decide +kernel
theorem d_D_known_11 : decode cc_D_known 11 = .ok (.getfield 26, 3) := by decide +kernel
theorem d_D_known_14 : decode cc_D_known 14 = .ok (.iload_n 2, 1) := by decide +kernel
theorem d_D_known_15 : decode cc_D_known 15 = .ok (.aaload, 1) := by decide +kernel
theorem d_D_known_16 : decode cc_D_known 16 = .ok (.getfield 60, 3) := by decide +kernel
theorem d_D_known_19 : decode cc_D_known 19 = .ok (.ifCond .eq 6, 3) := by decide +kernel
theorem d_D_known_22 : decode cc_D_known 22 = .ok (.iinc 1 1, 3) := by decide +kernel
theorem d_D_known_25 : decode cc_D_known 25 = .ok (.iinc 2 1, 3) := by decide +kernel
theorem d_D_known_28 : decode cc_D_known 28 = .ok (.goto (-24), 3) := by decide +kernel
theorem d_D_known_31 : decode cc_D_known 31 = .ok (.iload_n 1, 1) := by decide +kernel
theorem d_D_known_32 : decode cc_D_known 32 = .ok (.ireturn, 1) := by decide +kernel
theorem d_D_entityOf_0 : decode cc_D_entityOf 0 = .ok (.iload_n 1, 1) := by decide +kernel
theorem d_D_entityOf_1 : decode cc_D_entityOf 1 = .ok (.ifCond .lt 9, 3) := by decide +kernel
theorem d_D_entityOf_4 : decode cc_D_entityOf 4 = .ok (.iload_n 1, 1) := by decide +kernel
theorem d_D_entityOf_5 : decode cc_D_entityOf 5 = .ok (.bipush 26, 2) := by decide +kernel
theorem d_D_entityOf_7 : decode cc_D_entityOf 7 = .ok (.if_icmp .lt 7, 3) := by decide +kernel
theorem d_D_entityOf_10 : decode cc_D_entityOf 10 = .ok (.aconst_null, 1) := by decide +kernel
theorem d_D_entityOf_11 : decode cc_D_entityOf 11 = .ok (.goto 9, 3) := by decide +kernel
theorem d_D_entityOf_14 : decode cc_D_entityOf 14 = .ok (.aload_n 0, 1) := by decide +kernel
theorem d_D_entityOf_15 : decode cc_D_entityOf 15 = .ok (.getfield 26, 3) := by decide +kernel
theorem d_D_entityOf_18 : decode cc_D_entityOf 18 = .ok (.iload_n 1, 1) := by decide +kernel
theorem d_D_entityOf_19 : decode cc_D_entityOf 19 = .ok (.aaload, 1) := by decide +kernel
theorem d_D_entityOf_20 : decode cc_D_entityOf 20 = .ok (.areturn, 1) := by decide +kernel
theorem d_D_fail_0 : decode cc_D_fail 0 = .ok (.aload_n 0, 1) := by decide +kernel
theorem d_D_fail_1 : decode cc_D_fail 1 = .ok (.iload_n 2, 1) := by decide +kernel
theorem d_D_fail_2 : decode cc_D_fail 2 = .ok (.putfield 38, 3) := by decide +kernel
theorem d_D_fail_5 : decode cc_D_fail 5 = .ok (.iload_n 1, 1) := by decide +kernel
theorem d_D_fail_6 : decode cc_D_fail 6 = .ok (.ireturn, 1) := by decide +kernel
theorem d_D_addTo_0 : decode cc_D_addTo 0 = .ok (.aload_n 1, 1) := by decide +kernel
theorem d_D_addTo_1 : decode cc_D_addTo 1 = .ok (.iload_n 2, 1) := by decide +kernel
theorem d_D_addTo_2 : decode cc_D_addTo 2 = .ok (.invokevirtual 46, 3) := by decide +kernel
theorem d_D_addTo_5 : decode cc_D_addTo 5 = .ok (.ifCond .eq 7, 3) := by decide +kernel
theorem d_D_addTo_8 : decode cc_D_addTo 8 = .ok (.iconst 0, 1) := by decide +kernel
theorem d_D_addTo_9 : decode cc_D_addTo 9 = .ok (.goto 10, 3) := by decide +kernel
theorem d_D_addTo_12 : decode cc_D_addTo 12 = .ok (.aload_n 0, 1) := by decide +kernel
theorem d_D_addTo_13 : decode cc_D_addTo 13 = .ok (.bipush 8, 2) := by decide +kernel
theorem d_D_addTo_15 : decode cc_D_addTo 15 = .ok (.iload_n 3, 1) := by decide +kernel
theorem d_D_addTo_16 : decode cc_D_addTo 16 = .ok (.invokevirtual 96, 3) := by decide +kernel
theorem d_D_addTo_19 : decode cc_D_addTo 19 = .ok (.ireturn, 1) := by decide +kernel
theorem d_D_readDraft_0 : decode cc_D_readDraft 0 = .ok (.aload_n 0, 1) := by decide +kernel
theorem d_D_readDraft_1 : decode cc_D_readDraft 1 = .ok (.getfield 18, 3) := by decide +kernel
theorem d_D_readDraft_4 : decode cc_D_readDraft 4 = .ok (.invokevirtual 57, 3) := by decide +kernel
theorem d_D_readDraft_7 : decode cc_D_readDraft 7 = .ok (.iconst 0, 1) := by decide +kernel
theorem d_D_readDraft_8 : decode cc_D_readDraft 8 = .ok (.istore_n 1, 1) := by decide +kernel
theorem d_D_readDraft_9 : decode cc_D_readDraft 9 = .ok (.iconst 0, 1) := by decide +kernel
theorem d_D_readDraft_10 : decode cc_D_readDraft 10 = .ok (.istore_n 2, 1) := by decide +kernel
theorem d_D_readDraft_11 : decode cc_D_readDraft 11 = .ok (.iload_n 2, 1) := by decide +kernel
theorem d_D_readDraft_12 : decode cc_D_readDraft 12 = .ok (.aload_n 0, 1) := by decide +kernel
theorem d_D_readDraft_13 : decode cc_D_readDraft 13 = .ok (.getfield 14, 3) := by decide +kernel
theorem d_D_readDraft_16 : decode cc_D_readDraft 16 = .ok (.invokevirtual 42, 3) := by decide +kernel
theorem d_D_readDraft_19 : decode cc_D_readDraft 19 = .ok (.if_icmp .ge 71, 3) := by decide +kernel
theorem d_D_readDraft_22 : decode cc_D_readDraft 22 = .ok (.iload_n 2, 1) := by decide +kernel
theorem d_D_readDraft_23 : decode cc_D_readDraft 23 = .ok (.iload_n 1, 1) := by decide +kernel
theorem d_D_readDraft_24 : decode cc_D_readDraft 24 = .ok (.if_icmp .ge 6, 3) := by decide +kernel
theorem d_D_readDraft_27 : decode cc_D_readDraft 27 = .ok (.goto 57, 3) := by decide +kernel
theorem d_D_readDraft_30 : decode cc_D_readDraft 30 = .ok (.aload_n 0, 1) := by decide +kernel
theorem d_D_readDraft_31 : decode cc_D_readDraft 31 = .ok (.getfield 14, 3) := by decide +kernel
theorem d_D_readDraft_34 : decode cc_D_readDraft 34 = .ok (.iload_n 2, 1) := by decide +kernel
theorem d_D_readDraft_35 : decode cc_D_readDraft 35 = .ok (.invokevirtual 100, 3) := by decide +kernel
theorem d_D_readDraft_38 : decode cc_D_readDraft 38 = .ok (.bipush 38, 2) := by decide +kernel
theorem d_D_readDraft_40 : decode cc_D_readDraft 40 = .ok (.if_icmp .ne 32, 3) := by decide +kernel
theorem d_D_readDraft_43 : decode cc_D_readDraft 43 = .ok (.aload_n 0, 1) := by decide +kernel
theorem d_D_readDraft_44 : decode cc_D_readDraft 44 = .ok (.getfield 34, 3) := by decide +kernel
theorem d_D_readDraft_47 : decode cc_D_readDraft 47 = .ok (.aload_n 0, 1) := by decide +kernel
theorem d_D_readDraft_48 : decode cc_D_readDraft 48 = .ok (.getfield 14, 3) := by decide +kernel
theorem d_D_readDraft_51 : decode cc_D_readDraft 51 = .ok (.iload_n 2, 1) := by decide +kernel
theorem d_D_readDraft_52 : decode cc_D_readDraft 52 = .ok (.invokevirtual 104, 3) := by decide +kernel
theorem d_D_readDraft_55 : decode cc_D_readDraft 55 = .ok (.aload_n 0, 1) := by decide +kernel
theorem d_D_readDraft_56 : decode cc_D_readDraft 56 = .ok (.getfield 34, 3) := by decide +kernel
theorem d_D_readDraft_59 : decode cc_D_readDraft 59 = .ok (.getfield 108, 3) := by decide +kernel
theorem d_D_readDraft_62 : decode cc_D_readDraft 62 = .ok (.istore_n 1, 1) := by decide +kernel
theorem d_D_readDraft_63 : decode cc_D_readDraft 63 = .ok (.aload_n 0, 1) := by decide +kernel
theorem d_D_readDraft_64 : decode cc_D_readDraft 64 = .ok (.iload_n 2, 1) := by decide +kernel
theorem d_D_readDraft_65 : decode cc_D_readDraft 65 = .ok (.invokevirtual 111, 3) := by decide +kernel
theorem d_D_readDraft_68 : decode cc_D_readDraft 68 = .ok (.istore_n 3, 1) := by decide +kernel
theorem d_D_readDraft_69 : decode cc_D_readDraft 69 = .ok (.goto 9, 3) := by decide +kernel
theorem d_D_readDraft_72 : decode cc_D_readDraft 72 = .ok (.aload_n 0, 1) := by decide +kernel
theorem d_D_readDraft_73 : decode cc_D_readDraft 73 = .ok (.iload_n 2, 1) := by decide +kernel
theorem d_D_readDraft_74 : decode cc_D_readDraft 74 = .ok (.invokevirtual 114, 3) := by decide +kernel
theorem d_D_readDraft_77 : decode cc_D_readDraft 77 = .ok (.istore_n 3, 1) := by decide +kernel
theorem d_D_readDraft_78 : decode cc_D_readDraft 78 = .ok (.iload_n 3, 1) := by decide +kernel
theorem d_D_readDraft_79 : decode cc_D_readDraft 79 = .ok (.ifCond .eq 5, 3) := by decide +kernel
theorem d_D_readDraft_82 : decode cc_D_readDraft 82 = .ok (.iload_n 3, 1) := by decide +kernel
theorem d_D_readDraft_83 : decode cc_D_readDraft 83 = .ok (.ireturn, 1) := by decide +kernel
theorem d_D_readDraft_84 : decode cc_D_readDraft 84 = .ok (.iinc 2 1, 3) := by decide +kernel
theorem d_D_readDraft_87 : decode cc_D_readDraft 87 = .ok (.goto (-76), 3) := by decide +kernel
theorem d_D_readDraft_90 : decode cc_D_readDraft 90 = .ok (.iconst 0, 1) := by decide +kernel
theorem d_D_readDraft_91 : decode cc_D_readDraft 91 = .ok (.ireturn, 1) := by decide +kernel
theorem d_D_draftByte_0 : decode cc_D_draftByte 0 = .ok (.aload_n 0, 1) := by decide +kernel
theorem d_D_draftByte_1 : decode cc_D_draftByte 1 = .ok (.getfield 14, 3) := by decide +kernel
theorem d_D_draftByte_4 : decode cc_D_draftByte 4 = .ok (.iload_n 1, 1) := by decide +kernel
theorem d_D_draftByte_5 : decode cc_D_draftByte 5 = .ok (.invokevirtual 100, 3) := by decide +kernel
theorem d_D_draftByte_8 : decode cc_D_draftByte 8 = .ok (.istore_n 2, 1) := by decide +kernel
theorem d_D_draftByte_9 : decode cc_D_draftByte 9 = .ok (.iload_n 2, 1) := by decide +kernel
theorem d_D_draftByte_10 : decode cc_D_draftByte 10 = .ok (.invokestatic 117, 3) := by decide +kernel
theorem d_D_draftByte_13 : decode cc_D_draftByte 13 = .ok (.ifCond .eq 16, 3) := by decide +kernel
theorem d_D_draftByte_16 : decode cc_D_draftByte 16 = .ok (.aload_n 0, 1) := by decide +kernel
theorem d_D_draftByte_17 : decode cc_D_draftByte 17 = .ok (.aload_n 0, 1) := by decide +kernel
theorem d_D_draftByte_18 : decode cc_D_draftByte 18 = .ok (.getfield 18, 3) := by decide +kernel
theorem d_D_draftByte_21 : decode cc_D_draftByte 21 = .ok (.iload_n 2, 1) := by decide +kernel
theorem d_D_draftByte_22 : decode cc_D_draftByte 22 = .ok (.iload_n 1, 1) := by decide +kernel
theorem d_D_draftByte_23 : decode cc_D_draftByte 23 = .ok (.invokevirtual 120, 3) := by decide +kernel
theorem d_D_draftByte_26 : decode cc_D_draftByte 26 = .ok (.goto 9, 3) := by decide +kernel
theorem d_D_draftByte_29 : decode cc_D_draftByte 29 = .ok (.aload_n 0, 1) := by decide +kernel
theorem d_D_draftByte_30 : decode cc_D_draftByte 30 = .ok (.iconst 1, 1) := by decide +kernel
theorem d_D_draftByte_31 : decode cc_D_draftByte 31 = .ok (.iload_n 1, 1) := by decide +kernel
theorem d_D_draftByte_32 : decode cc_D_draftByte 32 = .ok (.invokevirtual 96, 3) := by decide +kernel
theorem d_D_draftByte_35 : decode cc_D_draftByte 35 = .ok (.ireturn, 1) := by decide +kernel
theorem d_D_draftReference_0 : decode cc_D_draftReference 0 = .ok (.aload_n 0, 1) := by decide +kernel
theorem d_D_draftReference_1 : decode cc_D_draftReference 1 = .ok (.getfield 34, 3) := by decide +kernel
theorem d_D_draftReference_4 : decode cc_D_draftReference 4 = .ok (.getfield 123, 3) := by decide +kernel
theorem d_D_draftReference_7 : decode cc_D_draftReference 7 = .ok (.ifCond .ne 16, 3) := by decide +kernel
theorem d_D_draftReference_10 : decode cc_D_draftReference 10 = .ok (.aload_n 0, 1) := by decide +kernel
theorem d_D_draftReference_11 : decode cc_D_draftReference 11 = .ok (.iconst 1, 1) := by decide +kernel
theorem d_D_draftReference_12 : decode cc_D_draftReference 12 = .ok (.aload_n 0, 1) := by decide +kernel
theorem d_D_draftReference_13 : decode cc_D_draftReference 13 = .ok (.getfield 34, 3) := by decide +kernel
theorem d_D_draftReference_16 : decode cc_D_draftReference 16 = .ok (.getfield 108, 3) := by decide +kernel
theorem d_D_draftReference_19 : decode cc_D_draftReference 19 = .ok (.invokevirtual 96, 3) := by decide +kernel
theorem d_D_draftReference_22 : decode cc_D_draftReference 22 = .ok (.ireturn, 1) := by decide +kernel
theorem d_D_draftReference_23 : decode cc_D_draftReference 23 = .ok (.aload_n 0, 1) := by decide +kernel
theorem d_D_draftReference_24 : decode cc_D_draftReference 24 = .ok (.getfield 34, 3) := by decide +kernel
theorem d_D_draftReference_27 : decode cc_D_draftReference 27 = .ok (.getfield 126, 3) := by decide +kernel
theorem d_D_draftReference_30 : decode cc_D_draftReference 30 = .ok (.ifCond .eq 16, 3) := by decide +kernel
theorem d_D_draftReference_33 : decode cc_D_draftReference 33 = .ok (.aload_n 0, 1) := by decide +kernel
theorem d_D_draftReference_34 : decode cc_D_draftReference 34 = .ok (.iload_n 1, 1) := by decide +kernel
theorem d_D_draftReference_35 : decode cc_D_draftReference 35 = .ok (.aload_n 0, 1) := by decide +kernel
theorem d_D_draftReference_36 : decode cc_D_draftReference 36 = .ok (.getfield 34, 3) := by decide +kernel
theorem d_D_draftReference_39 : decode cc_D_draftReference 39 = .ok (.getfield 108, 3) := by decide +kernel
theorem d_D_draftReference_42 : decode cc_D_draftReference 42 = .ok (.invokevirtual 129, 3) := by decide +kernel
theorem d_D_draftReference_45 : decode cc_D_draftReference 45 = .ok (.ireturn, 1) := by decide +kernel
theorem d_D_draftReference_46 : decode cc_D_draftReference 46 = .ok (.aload_n 0, 1) := by decide +kernel
theorem d_D_draftReference_47 : decode cc_D_draftReference 47 = .ok (.aload_n 0, 1) := by decide +kernel
theorem d_D_draftReference_48 : decode cc_D_draftReference 48 = .ok (.getfield 18, 3) := by decide +kernel
theorem d_D_draftReference_51 : decode cc_D_draftReference 51 = .ok (.iload_n 1, 1) := by decide +kernel
theorem d_D_draftReference_52 : decode cc_D_draftReference 52 = .ok (.invokevirtual 132, 3) := by decide +kernel
theorem d_D_draftReference_55 : decode cc_D_draftReference 55 = .ok (.ireturn, 1) := by decide +kernel
theorem d_D_draftAsItStands_0 : decode cc_D_draftAsItStands 0 = .ok (.iload_n 1, 1) := by decide +kernel
theorem d_D_draftAsItStands_1 : decode cc_D_draftAsItStands 1 = .ok (.istore_n 3, 1) := by decide +kernel
theorem d_D_draftAsItStands_2 : decode cc_D_draftAsItStands 2 = .ok (.iload_n 3, 1) := by decide +kernel
theorem d_D_draftAsItStands_3 : decode cc_D_draftAsItStands 3 = .ok (.iload_n 2, 1) := by decide +kernel
theorem d_D_draftAsItStands_4 : decode cc_D_draftAsItStands 4 = .ok (.if_icmp .ge 35, 3) := by decide +kernel
theorem d_D_draftAsItStands_7 : decode cc_D_draftAsItStands 7 = .ok (.aload_n 0, 1) := by decide +kernel
theorem d_D_draftAsItStands_8 : decode cc_D_draftAsItStands 8 = .ok (.getfield 18, 3) := by decide +kernel
theorem d_D_draftAsItStands_11 : decode cc_D_draftAsItStands 11 = .ok (.aload_n 0, 1) := by decide +kernel
theorem d_D_draftAsItStands_12 : decode cc_D_draftAsItStands 12 = .ok (.getfield 14, 3) := by decide +kernel
theorem d_D_draftAsItStands_15 : decode cc_D_draftAsItStands 15 = .ok (.iload_n 3, 1) := by decide +kernel
theorem d_D_draftAsItStands_16 : decode cc_D_draftAsItStands 16 = .ok (.invokevirtual 100, 3) := by decide +kernel
theorem d_D_draftAsItStands_19 : decode cc_D_draftAsItStands 19 = .ok (.invokevirtual 46, 3) := by decide +kernel
theorem d_D_draftAsItStands_22 : decode cc_D_draftAsItStands 22 = .ok (.ifCond .ne 11, 3) := by decide +kernel
theorem d_D_draftAsItStands_25 : decode cc_D_draftAsItStands 25 = .ok (.aload_n 0, 1) := by decide +kernel
theorem d_D_draftAsItStands_26 : decode cc_D_draftAsItStands 26 = .ok (.bipush 8, 2) := by decide +kernel
theorem d_D_draftAsItStands_28 : decode cc_D_draftAsItStands 28 = .ok (.iload_n 1, 1) := by decide +kernel
theorem d_D_draftAsItStands_29 : decode cc_D_draftAsItStands 29 = .ok (.invokevirtual 96, 3) := by decide +kernel
theorem d_D_draftAsItStands_32 : decode cc_D_draftAsItStands 32 = .ok (.ireturn, 1) := by decide +kernel
theorem d_D_draftAsItStands_33 : decode cc_D_draftAsItStands 33 = .ok (.iinc 3 1, 3) := by decide +kernel
theorem d_D_draftAsItStands_36 : decode cc_D_draftAsItStands 36 = .ok (.goto (-34), 3) := by decide +kernel
theorem d_D_draftAsItStands_39 : decode cc_D_draftAsItStands 39 = .ok (.iconst 0, 1) := by decide +kernel
theorem d_D_draftAsItStands_40 : decode cc_D_draftAsItStands 40 = .ok (.ireturn, 1) := by decide +kernel
theorem d_D_addByNumber_0 : decode cc_D_addByNumber 0 = .ok (.aload_n 0, 1) := by decide +kernel
theorem d_D_addByNumber_1 : decode cc_D_addByNumber 1 = .ok (.getfield 34, 3) := by decide +kernel
theorem d_D_addByNumber_4 : decode cc_D_addByNumber 4 = .ok (.getfield 136, 3) := by decide +kernel
theorem d_D_addByNumber_7 : decode cc_D_addByNumber 7 = .ok (.istore_n 3, 1) := by decide +kernel
theorem d_D_addByNumber_8 : decode cc_D_addByNumber 8 = .ok (.iload_n 3, 1) := by decide +kernel
theorem d_D_addByNumber_9 : decode cc_D_addByNumber 9 = .ok (.invokestatic 117, 3) := by decide +kernel
theorem d_D_addByNumber_12 : decode cc_D_addByNumber 12 = .ok (.ifCond .eq 13, 3) := by decide +kernel
theorem d_D_addByNumber_15 : decode cc_D_addByNumber 15 = .ok (.aload_n 0, 1) := by decide +kernel
theorem d_D_addByNumber_16 : decode cc_D_addByNumber 16 = .ok (.aload_n 1, 1) := by decide +kernel
theorem d_D_addByNumber_17 : decode cc_D_addByNumber 17 = .ok (.iload_n 3, 1) := by decide +kernel
theorem d_D_addByNumber_18 : decode cc_D_addByNumber 18 = .ok (.iload_n 2, 1) := by decide +kernel
theorem d_D_addByNumber_19 : decode cc_D_addByNumber 19 = .ok (.invokevirtual 120, 3) := by decide +kernel
theorem d_D_addByNumber_22 : decode cc_D_addByNumber 22 = .ok (.goto 9, 3) := by decide +kernel
theorem d_D_addByNumber_25 : decode cc_D_addByNumber 25 = .ok (.aload_n 0, 1) := by decide +kernel
theorem d_D_addByNumber_26 : decode cc_D_addByNumber 26 = .ok (.iconst 5, 1) := by decide +kernel
theorem d_D_addByNumber_27 : decode cc_D_addByNumber 27 = .ok (.iload_n 2, 1) := by decide +kernel
theorem d_D_addByNumber_28 : decode cc_D_addByNumber 28 = .ok (.invokevirtual 96, 3) := by decide +kernel
theorem d_D_addByNumber_31 : decode cc_D_addByNumber 31 = .ok (.ireturn, 1) := by decide +kernel
theorem d_D_readValue_0 : decode cc_D_readValue 0 = .ok (.iconst 0, 1) := by decide +kernel
theorem d_D_readValue_1 : decode cc_D_readValue 1 = .ok (.istore 4, 2) := by decide +kernel
theorem d_D_readValue_3 : decode cc_D_readValue 3 = .ok (.iconst 0, 1) := by decide +kernel
theorem d_D_readValue_4 : decode cc_D_readValue 4 = .ok (.istore 5, 2) := by decide +kernel
theorem d_D_readValue_6 : decode cc_D_readValue 6 = .ok (.iload 5, 2) := by decide +kernel
theorem d_D_readValue_8 : decode cc_D_readValue 8 = .ok (.aload_n 1, 1) := by decide +kernel
theorem d_D_readValue_9 : decode cc_D_readValue 9 = .ok (.invokevirtual 42, 3) := by decide +kernel
theorem d_D_readValue_12 : decode cc_D_readValue 12 = .ok (.if_icmp .ge 115, 3) := by decide +kernel
theorem d_D_readValue_15 : decode cc_D_readValue 15 = .ok (.iload 5, 2) := by decide +kernel
theorem d_D_readValue_17 : decode cc_D_readValue 17 = .ok (.iload 4, 2) := by decide +kernel
theorem d_D_readValue_19 : decode cc_D_readValue 19 = .ok (.if_icmp .ge 6, 3) := by decide +kernel
theorem d_D_readValue_22 : decode cc_D_readValue 22 = .ok (.goto 99, 3) := by decide +kernel
theorem d_D_readValue_25 : decode cc_D_readValue 25 = .ok (.iload_n 2, 1) := by decide +kernel
theorem d_D_readValue_26 : decode cc_D_readValue 26 = .ok (.ifCond .ne 8, 3) := by decide +kernel
theorem d_D_readValue_29 : decode cc_D_readValue 29 = .ok (.iload 5, 2) := by decide +kernel
theorem d_D_readValue_31 : decode cc_D_readValue 31 = .ok (.goto 4, 3) := by decide +kernel
theorem d_D_readValue_34 : decode cc_D_readValue 34 = .ok (.iload_n 3, 1) := by decide +kernel
theorem d_D_readValue_35 : decode cc_D_readValue 35 = .ok (.istore 6, 2) := by decide +kernel
theorem d_D_readValue_37 : decode cc_D_readValue 37 = .ok (.aload_n 1, 1) := by decide +kernel
theorem d_D_readValue_38 : decode cc_D_readValue 38 = .ok (.iload 5, 2) := by decide +kernel
theorem d_D_readValue_40 : decode cc_D_readValue 40 = .ok (.invokevirtual 100, 3) := by decide +kernel
theorem d_D_readValue_43 : decode cc_D_readValue 43 = .ok (.bipush 38, 2) := by decide +kernel
theorem d_D_readValue_45 : decode cc_D_readValue 45 = .ok (.if_icmp .ne 54, 3) := by decide +kernel
theorem d_D_readValue_48 : decode cc_D_readValue 48 = .ok (.aload_n 0, 1) := by decide +kernel
theorem d_D_readValue_49 : decode cc_D_readValue 49 = .ok (.getfield 34, 3) := by decide +kernel
theorem d_D_readValue_52 : decode cc_D_readValue 52 = .ok (.aload_n 1, 1) := by decide +kernel
theorem d_D_readValue_53 : decode cc_D_readValue 53 = .ok (.iload 5, 2) := by decide +kernel
theorem d_D_readValue_55 : decode cc_D_readValue 55 = .ok (.invokevirtual 104, 3) := by decide +kernel
theorem d_D_readValue_58 : decode cc_D_readValue 58 = .ok (.aload_n 0, 1) := by decide +kernel
theorem d_D_readValue_59 : decode cc_D_readValue 59 = .ok (.getfield 34, 3) := by decide +kernel
theorem d_D_readValue_62 : decode cc_D_readValue 62 = .ok (.getfield 108, 3) := by decide +kernel
theorem d_D_readValue_65 : decode cc_D_readValue 65 = .ok (.istore 4, 2) := by decide +kernel
theorem d_D_readValue_67 : decode cc_D_readValue 67 = .ok (.aload_n 0, 1) := by decide +kernel
theorem d_D_readValue_68 : decode cc_D_readValue 68 = .ok (.getfield 34, 3) := by decide +kernel
theorem d_D_readValue_71 : decode cc_D_readValue 71 = .ok (.getfield 123, 3) := by decide +kernel
theorem d_D_readValue_74 : decode cc_D_readValue 74 = .ok (.ifCond .eq 13, 3) := by decide +kernel
theorem d_D_readValue_77 : decode cc_D_readValue 77 = .ok (.aload_n 0, 1) := by decide +kernel
theorem d_D_readValue_78 : decode cc_D_readValue 78 = .ok (.iload_n 2, 1) := by decide +kernel
theorem d_D_readValue_79 : decode cc_D_readValue 79 = .ok (.iload 6, 2) := by decide +kernel
theorem d_D_readValue_81 : decode cc_D_readValue 81 = .ok (.invokevirtual 139, 3) := by decide +kernel
theorem d_D_readValue_84 : decode cc_D_readValue 84 = .ok (.goto 10, 3) := by decide +kernel
theorem d_D_readValue_87 : decode cc_D_readValue 87 = .ok (.aload_n 0, 1) := by decide +kernel
theorem d_D_readValue_88 : decode cc_D_readValue 88 = .ok (.aload_n 1, 1) := by decide +kernel
theorem d_D_readValue_89 : decode cc_D_readValue 89 = .ok (.iload_n 2, 1) := by decide +kernel
theorem d_D_readValue_90 : decode cc_D_readValue 90 = .ok (.iload_n 3, 1) := by decide +kernel
theorem d_D_readValue_91 : decode cc_D_readValue 91 = .ok (.invokevirtual 142, 3) := by decide +kernel
theorem d_D_readValue_94 : decode cc_D_readValue 94 = .ok (.istore 7, 2) := by decide +kernel
theorem d_D_readValue_96 : decode cc_D_readValue 96 = .ok (.goto 17, 3) := by decide +kernel
theorem d_D_readValue_99 : decode cc_D_readValue 99 = .ok (.aload_n 0, 1) := by decide +kernel
theorem d_D_readValue_100 : decode cc_D_readValue 100 = .ok (.aload_n 1, 1) := by decide +kernel
theorem d_D_readValue_101 : decode cc_D_readValue 101 = .ok (.iload 5, 2) := by decide +kernel
theorem d_D_readValue_103 : decode cc_D_readValue 103 = .ok (.invokevirtual 100, 3) := by decide +kernel
theorem d_D_readValue_106 : decode cc_D_readValue 106 = .ok (.iload 6, 2) := by decide +kernel
theorem d_D_readValue_108 : decode cc_D_readValue 108 = .ok (.invokevirtual 145, 3) := by decide +kernel
theorem d_D_readValue_111 : decode cc_D_readValue 111 = .ok (.istore 7, 2) := by decide +kernel
theorem d_D_readValue_113 : decode cc_D_readValue 113 = .ok (.iload 7, 2) := by decide +kernel
theorem d_D_readValue_115 : decode cc_D_readValue 115 = .ok (.ifCond .eq 6, 3) := by decide +kernel
theorem d_D_readValue_118 : decode cc_D_readValue 118 = .ok (.iload 7, 2) := by decide +kernel
theorem d_D_readValue_120 : decode cc_D_readValue 120 = .ok (.ireturn, 1) := by decide +kernel
theorem d_D_readValue_121 : decode cc_D_readValue 121 = .ok (.iinc 5 1, 3) := by decide +kernel
theorem d_D_readValue_124 : decode cc_D_readValue 124 = .ok (.goto (-118), 3) := by decide +kernel
theorem d_D_readValue_127 : decode cc_D_readValue 127 = .ok (.iconst 0, 1) := by decide +kernel
theorem d_D_readValue_128 : decode cc_D_readValue 128 = .ok (.ireturn, 1) := by decide +kernel
theorem d_D_failBroken_0 : decode cc_D_failBroken 0 = .ok (.iload_n 2, 1) := by decide +kernel
theorem d_D_failBroken_1 : decode cc_D_failBroken 1 = .ok (.ifCond .ne 16, 3) := by decide +kernel
theorem d_D_failBroken_4 : decode cc_D_failBroken 4 = .ok (.aload_n 0, 1) := by decide +kernel
theorem d_D_failBroken_5 : decode cc_D_failBroken 5 = .ok (.iconst 1, 1) := by decide +kernel
theorem d_D_failBroken_6 : decode cc_D_failBroken 6 = .ok (.aload_n 0, 1) := by decide +kernel
theorem d_D_failBroken_7 : decode cc_D_failBroken 7 = .ok (.getfield 34, 3) := by decide +kernel
theorem d_D_failBroken_10 : decode cc_D_failBroken 10 = .ok (.getfield 108, 3) := by decide +kernel
theorem d_D_failBroken_13 : decode cc_D_failBroken 13 = .ok (.invokevirtual 96, 3) := by decide +kernel
theorem d_D_failBroken_16 : decode cc_D_failBroken 16 = .ok (.ireturn, 1) := by decide +kernel
theorem d_D_failBroken_17 : decode cc_D_failBroken 17 = .ok (.aload_n 0, 1) := by decide +kernel
theorem d_D_failBroken_18 : decode cc_D_failBroken 18 = .ok (.aload_n 0, 1) := by decide +kernel
theorem d_D_failBroken_19 : decode cc_D_failBroken 19 = .ok (.getfield 34, 3) := by decide +kernel
theorem d_D_failBroken_22 : decode cc_D_failBroken 22 = .ok (.getfield 108, 3) := by decide +kernel
theorem d_D_failBroken_25 : decode cc_D_failBroken 25 = .ok (.aload_n 1, 1) := by decide +kernel
theorem d_D_failBroken_26 : decode cc_D_failBroken 26 = .ok (.invokevirtual 42, 3) := by decide +kernel
theorem d_D_failBroken_29 : decode cc_D_failBroken 29 = .ok (.if_icmp .ge 7, 3) := by decide +kernel
theorem d_D_failBroken_32 : decode cc_D_failBroken 32 = .ok (.iconst 1, 1) := by decide +kernel
theorem d_D_failBroken_33 : decode cc_D_failBroken 33 = .ok (.goto 5, 3) := by decide +kernel
theorem d_D_failBroken_36 : decode cc_D_failBroken 36 = .ok (.bipush 7, 2) := by decide +kernel
theorem d_D_failBroken_38 : decode cc_D_failBroken 38 = .ok (.iload_n 3, 1) := by decide +kernel
theorem d_D_failBroken_39 : decode cc_D_failBroken 39 = .ok (.invokevirtual 96, 3) := by decide +kernel
theorem d_D_failBroken_42 : decode cc_D_failBroken 42 = .ok (.ireturn, 1) := by decide +kernel
theorem d_D_takeByte_0 : decode cc_D_takeByte 0 = .ok (.iload_n 1, 1) := by decide +kernel
theorem d_D_takeByte_1 : decode cc_D_takeByte 1 = .ok (.bipush 60, 2) := by decide +kernel
theorem d_D_takeByte_3 : decode cc_D_takeByte 3 = .ok (.if_icmp .ne 10, 3) := by decide +kernel
theorem d_D_takeByte_6 : decode cc_D_takeByte 6 = .ok (.aload_n 0, 1) := by decide +kernel
theorem d_D_takeByte_7 : decode cc_D_takeByte 7 = .ok (.iconst 4, 1) := by decide +kernel
theorem d_D_takeByte_8 : decode cc_D_takeByte 8 = .ok (.iload_n 2, 1) := by decide +kernel
theorem d_D_takeByte_9 : decode cc_D_takeByte 9 = .ok (.invokevirtual 96, 3) := by decide +kernel
theorem d_D_takeByte_12 : decode cc_D_takeByte 12 = .ok (.ireturn, 1) := by decide +kernel
theorem d_D_takeByte_13 : decode cc_D_takeByte 13 = .ok (.iload_n 1, 1) := by decide +kernel
theorem d_D_takeByte_14 : decode cc_D_takeByte 14 = .ok (.invokestatic 117, 3) := by decide +kernel
theorem d_D_takeByte_17 : decode cc_D_takeByte 17 = .ok (.ifCond .ne 10, 3) := by decide +kernel
theorem d_D_takeByte_20 : decode cc_D_takeByte 20 = .ok (.aload_n 0, 1) := by decide +kernel
theorem d_D_takeByte_21 : decode cc_D_takeByte 21 = .ok (.iconst 1, 1) := by decide +kernel
theorem d_D_takeByte_22 : decode cc_D_takeByte 22 = .ok (.iload_n 2, 1) := by decide +kernel
theorem d_D_takeByte_23 : decode cc_D_takeByte 23 = .ok (.invokevirtual 96, 3) := by decide +kernel
theorem d_D_takeByte_26 : decode cc_D_takeByte 26 = .ok (.ireturn, 1) := by decide +kernel
theorem d_D_takeByte_27 : decode cc_D_takeByte 27 = .ok (.aload_n 0, 1) := by decide +kernel
theorem d_D_takeByte_28 : decode cc_D_takeByte 28 = .ok (.aload_n 0, 1) := by decide +kernel
theorem d_D_takeByte_29 : decode cc_D_takeByte 29 = .ok (.getfield 21, 3) := by decide +kernel
theorem d_D_takeByte_32 : decode cc_D_takeByte 32 = .ok (.iload_n 1, 1) := by decide +kernel
theorem d_D_takeByte_33 : decode cc_D_takeByte 33 = .ok (.bipush 32, 2) := by decide +kernel
theorem d_D_takeByte_35 : decode cc_D_takeByte 35 = .ok (.if_icmp .ge 8, 3) := by decide +kernel
theorem d_D_takeByte_38 : decode cc_D_takeByte 38 = .ok (.bipush 32, 2) := by decide +kernel
theorem d_D_takeByte_40 : decode cc_D_takeByte 40 = .ok (.goto 4, 3) := by decide +kernel
theorem d_D_takeByte_43 : decode cc_D_takeByte 43 = .ok (.iload_n 1, 1) := by decide +kernel
theorem d_D_takeByte_44 : decode cc_D_takeByte 44 = .ok (.iload_n 2, 1) := by decide +kernel
theorem d_D_takeByte_45 : decode cc_D_takeByte 45 = .ok (.invokevirtual 120, 3) := by decide +kernel
theorem d_D_takeByte_48 : decode cc_D_takeByte 48 = .ok (.ireturn, 1) := by decide +kernel
theorem d_D_takeReference_0 : decode cc_D_takeReference 0 = .ok (.aload_n 0, 1) := by decide +kernel
theorem d_D_takeReference_1 : decode cc_D_takeReference 1 = .ok (.getfield 34, 3) := by decide +kernel
theorem d_D_takeReference_4 : decode cc_D_takeReference 4 = .ok (.getfield 126, 3) := by decide +kernel
theorem d_D_takeReference_7 : decode cc_D_takeReference 7 = .ok (.ifCond .eq 19, 3) := by decide +kernel
theorem d_D_takeReference_10 : decode cc_D_takeReference 10 = .ok (.aload_n 0, 1) := by decide +kernel
theorem d_D_takeReference_11 : decode cc_D_takeReference 11 = .ok (.aload_n 0, 1) := by decide +kernel
theorem d_D_takeReference_12 : decode cc_D_takeReference 12 = .ok (.getfield 34, 3) := by decide +kernel
theorem d_D_takeReference_15 : decode cc_D_takeReference 15 = .ok (.getfield 136, 3) := by decide +kernel
theorem d_D_takeReference_18 : decode cc_D_takeReference 18 = .ok (.iload_n 1, 1) := by decide +kernel
theorem d_D_takeReference_19 : decode cc_D_takeReference 19 = .ok (.iload_n 2, 1) := by decide +kernel
theorem d_D_takeReference_20 : decode cc_D_takeReference 20 = .ok (.invokevirtual 148, 3) := by decide +kernel
theorem d_D_takeReference_23 : decode cc_D_takeReference 23 = .ok (.goto 12, 3) := by decide +kernel
theorem d_D_takeReference_26 : decode cc_D_takeReference 26 = .ok (.aload_n 0, 1) := by decide +kernel
theorem d_D_takeReference_27 : decode cc_D_takeReference 27 = .ok (.aload_n 0, 1) := by decide +kernel
theorem d_D_takeReference_28 : decode cc_D_takeReference 28 = .ok (.getfield 21, 3) := by decide +kernel
theorem d_D_takeReference_31 : decode cc_D_takeReference 31 = .ok (.iload_n 2, 1) := by decide +kernel
theorem d_D_takeReference_32 : decode cc_D_takeReference 32 = .ok (.invokevirtual 132, 3) := by decide +kernel
theorem d_D_takeReference_35 : decode cc_D_takeReference 35 = .ok (.ireturn, 1) := by decide +kernel
theorem d_D_takeEntity_0 : decode cc_D_takeEntity 0 = .ok (.aload_n 0, 1) := by decide +kernel
theorem d_D_takeEntity_1 : decode cc_D_takeEntity 1 = .ok (.iload_n 1, 1) := by decide +kernel
theorem d_D_takeEntity_2 : decode cc_D_takeEntity 2 = .ok (.invokevirtual 50, 3) := by decide +kernel
theorem d_D_takeEntity_5 : decode cc_D_takeEntity 5 = .ok (.astore 4, 2) := by decide +kernel
theorem d_D_takeEntity_7 : decode cc_D_takeEntity 7 = .ok (.aload 4, 2) := by decide +kernel
theorem d_D_takeEntity_9 : decode cc_D_takeEntity 9 = .ok (.ifnull 11, 3) := by decide +kernel
theorem d_D_takeEntity_12 : decode cc_D_takeEntity 12 = .ok (.aload 4, 2) := by decide +kernel
theorem d_D_takeEntity_14 : decode cc_D_takeEntity 14 = .ok (.getfield 60, 3) := by decide +kernel
theorem d_D_takeEntity_17 : decode cc_D_takeEntity 17 = .ok (.ifCond .ne 10, 3) := by decide +kernel
theorem d_D_takeEntity_20 : decode cc_D_takeEntity 20 = .ok (.aload_n 0, 1) := by decide +kernel
theorem d_D_takeEntity_21 : decode cc_D_takeEntity 21 = .ok (.iconst 2, 1) := by decide +kernel
theorem d_D_takeEntity_22 : decode cc_D_takeEntity 22 = .ok (.iload_n 3, 1) := by decide +kernel
theorem d_D_takeEntity_23 : decode cc_D_takeEntity 23 = .ok (.invokevirtual 96, 3) := by decide +kernel
theorem d_D_takeEntity_26 : decode cc_D_takeEntity 26 = .ok (.ireturn, 1) := by decide +kernel
theorem d_D_takeEntity_27 : decode cc_D_takeEntity 27 = .ok (.aload 4, 2) := by decide +kernel
theorem d_D_takeEntity_29 : decode cc_D_takeEntity 29 = .ok (.getfield 152, 3) := by decide +kernel
theorem d_D_takeEntity_32 : decode cc_D_takeEntity 32 = .ok (.ifCond .ne 9, 3) := by decide +kernel
theorem d_D_takeEntity_35 : decode cc_D_takeEntity 35 = .ok (.iload_n 2, 1) := by decide +kernel
theorem d_D_takeEntity_36 : decode cc_D_takeEntity 36 = .ok (.bipush 26, 2) := by decide +kernel
theorem d_D_takeEntity_38 : decode cc_D_takeEntity 38 = .ok (.if_icmp .lt 10, 3) := by decide +kernel
theorem d_D_takeEntity_41 : decode cc_D_takeEntity 41 = .ok (.aload_n 0, 1) := by decide +kernel
theorem d_D_takeEntity_42 : decode cc_D_takeEntity 42 = .ok (.iconst 3, 1) := by decide +kernel
theorem d_D_takeEntity_43 : decode cc_D_takeEntity 43 = .ok (.iload_n 3, 1) := by decide +kernel
theorem d_D_takeEntity_44 : decode cc_D_takeEntity 44 = .ok (.invokevirtual 96, 3) := by decide +kernel
theorem d_D_takeEntity_47 : decode cc_D_takeEntity 47 = .ok (.ireturn, 1) := by decide +kernel
theorem d_D_takeEntity_48 : decode cc_D_takeEntity 48 = .ok (.aload 4, 2) := by decide +kernel
theorem d_D_takeEntity_50 : decode cc_D_takeEntity 50 = .ok (.getfield 91, 3) := by decide +kernel
theorem d_D_takeEntity_53 : decode cc_D_takeEntity 53 = .ok (.invokevirtual 42, 3) := by decide +kernel
theorem d_D_takeEntity_56 : decode cc_D_takeEntity 56 = .ok (.aload_n 0, 1) := by decide +kernel
theorem d_D_takeEntity_57 : decode cc_D_takeEntity 57 = .ok (.getfield 69, 3) := by decide +kernel
theorem d_D_takeEntity_60 : decode cc_D_takeEntity 60 = .ok (.aload_n 0, 1) := by decide +kernel
theorem d_D_takeEntity_61 : decode cc_D_takeEntity 61 = .ok (.getfield 72, 3) := by decide +kernel
theorem d_D_takeEntity_64 : decode cc_D_takeEntity 64 = .ok (.isub, 1) := by decide +kernel
theorem d_D_takeEntity_65 : decode cc_D_takeEntity 65 = .ok (.if_icmp .le 11, 3) := by decide +kernel
theorem d_D_takeEntity_68 : decode cc_D_takeEntity 68 = .ok (.aload_n 0, 1) := by decide +kernel
theorem d_D_takeEntity_69 : decode cc_D_takeEntity 69 = .ok (.bipush 6, 2) := by decide +kernel
theorem d_D_takeEntity_71 : decode cc_D_takeEntity 71 = .ok (.iload_n 3, 1) := by decide +kernel
theorem d_D_takeEntity_72 : decode cc_D_takeEntity 72 = .ok (.invokevirtual 96, 3) := by decide +kernel
theorem d_D_takeEntity_75 : decode cc_D_takeEntity 75 = .ok (.ireturn, 1) := by decide +kernel
theorem d_D_takeEntity_76 : decode cc_D_takeEntity 76 = .ok (.aload_n 0, 1) := by decide +kernel
theorem d_D_takeEntity_77 : decode cc_D_takeEntity 77 = .ok (.dup, 1) := by decide +kernel
theorem d_D_takeEntity_78 : decode cc_D_takeEntity 78 = .ok (.getfield 72, 3) := by decide +kernel
theorem d_D_takeEntity_81 : decode cc_D_takeEntity 81 = .ok (.aload 4, 2) := by decide +kernel
theorem d_D_takeEntity_83 : decode cc_D_takeEntity 83 = .ok (.getfield 91, 3) := by decide +kernel
theorem d_D_takeEntity_86 : decode cc_D_takeEntity 86 = .ok (.invokevirtual 42, 3) := by decide +kernel
theorem d_D_takeEntity_89 : decode cc_D_takeEntity 89 = .ok (.iadd, 1) := by decide +kernel
theorem d_D_takeEntity_90 : decode cc_D_takeEntity 90 = .ok (.putfield 72, 3) := by decide +kernel
theorem d_D_takeEntity_93 : decode cc_D_takeEntity 93 = .ok (.aload_n 0, 1) := by decide +kernel
theorem d_D_takeEntity_94 : decode cc_D_takeEntity 94 = .ok (.aload_n 0, 1) := by decide +kernel
theorem d_D_takeEntity_95 : decode cc_D_takeEntity 95 = .ok (.getfield 75, 3) := by decide +kernel
theorem d_D_takeEntity_98 : decode cc_D_takeEntity 98 = .ok (.iload_n 2, 1) := by decide +kernel
theorem d_D_takeEntity_99 : decode cc_D_takeEntity 99 = .ok (.iconst 1, 1) := by decide +kernel
theorem d_D_takeEntity_100 : decode cc_D_takeEntity 100 = .ok (.iadd, 1) := by decide +kernel
theorem d_D_takeEntity_101 : decode cc_D_takeEntity 101 = .ok (.invokestatic 155, 3) := by decide +kernel
theorem d_D_takeEntity_104 : decode cc_D_takeEntity 104 = .ok (.putfield 75, 3) := by decide +kernel
theorem d_D_takeEntity_107 : decode cc_D_takeEntity 107 = .ok (.aload 4, 2) := by decide +kernel
theorem d_D_takeEntity_109 : decode cc_D_takeEntity 109 = .ok (.iconst 1, 1) := by decide +kernel
theorem d_D_takeEntity_110 : decode cc_D_takeEntity 110 = .ok (.putfield 152, 3) := by decide +kernel
theorem d_D_takeEntity_113 : decode cc_D_takeEntity 113 = .ok (.aload_n 0, 1) := by decide +kernel
theorem d_D_takeEntity_114 : decode cc_D_takeEntity 114 = .ok (.aload 4, 2) := by decide +kernel
theorem d_D_takeEntity_116 : decode cc_D_takeEntity 116 = .ok (.getfield 91, 3) := by decide +kernel
theorem d_D_takeEntity_119 : decode cc_D_takeEntity 119 = .ok (.iload_n 2, 1) := by decide +kernel
theorem d_D_takeEntity_120 : decode cc_D_takeEntity 120 = .ok (.iconst 1, 1) := by decide +kernel
theorem d_D_takeEntity_121 : decode cc_D_takeEntity 121 = .ok (.iadd, 1) := by decide +kernel
theorem d_D_takeEntity_122 : decode cc_D_takeEntity 122 = .ok (.iload_n 3, 1) := by decide +kernel
theorem d_D_takeEntity_123 : decode cc_D_takeEntity 123 = .ok (.invokevirtual 78, 3) := by decide +kernel
theorem d_D_takeEntity_126 : decode cc_D_takeEntity 126 = .ok (.istore 5, 2) := by decide +kernel
theorem d_D_takeEntity_128 : decode cc_D_takeEntity 128 = .ok (.aload 4, 2) := by decide +kernel
theorem d_D_takeEntity_130 : decode cc_D_takeEntity 130 = .ok (.iconst 0, 1) := by decide +kernel
theorem d_D_takeEntity_131 : decode cc_D_takeEntity 131 = .ok (.putfield 152, 3) := by decide +kernel
theorem d_D_takeEntity_134 : decode cc_D_takeEntity 134 = .ok (.iload 5, 2) := by decide +kernel
theorem d_D_takeEntity_136 : decode cc_D_takeEntity 136 = .ok (.ireturn, 1) := by decide +kernel
theorem d_D_isCharacter_0 : decode cc_D_isCharacter 0 = .ok (.iload_n 0, 1) := by decide +kernel
theorem d_D_isCharacter_1 : decode cc_D_isCharacter 1 = .ok (.bipush 9, 2) := by decide +kernel
theorem d_D_isCharacter_3 : decode cc_D_isCharacter 3 = .ok (.if_icmp .eq 27, 3) := by decide +kernel
theorem d_D_isCharacter_6 : decode cc_D_isCharacter 6 = .ok (.iload_n 0, 1) := by decide +kernel
theorem d_D_isCharacter_7 : decode cc_D_isCharacter 7 = .ok (.bipush 10, 2) := by decide +kernel
theorem d_D_isCharacter_9 : decode cc_D_isCharacter 9 = .ok (.if_icmp .eq 21, 3) := by decide +kernel
theorem d_D_isCharacter_12 : decode cc_D_isCharacter 12 = .ok (.iload_n 0, 1) := by decide +kernel
theorem d_D_isCharacter_13 : decode cc_D_isCharacter 13 = .ok (.bipush 13, 2) := by decide +kernel
theorem d_D_isCharacter_15 : decode cc_D_isCharacter 15 = .ok (.if_icmp .eq 15, 3) := by decide +kernel
theorem d_D_isCharacter_18 : decode cc_D_isCharacter 18 = .ok (.iload_n 0, 1) := by decide +kernel
theorem d_D_isCharacter_19 : decode cc_D_isCharacter 19 = .ok (.bipush 32, 2) := by decide +kernel
theorem d_D_isCharacter_21 : decode cc_D_isCharacter 21 = .ok (.if_icmp .lt 13, 3) := by decide +kernel
theorem d_D_isCharacter_24 : decode cc_D_isCharacter 24 = .ok (.iload_n 0, 1) := by decide +kernel
theorem d_D_isCharacter_25 : decode cc_D_isCharacter 25 = .ok (.bipush 126, 2) := by decide +kernel
theorem d_D_isCharacter_27 : decode cc_D_isCharacter 27 = .ok (.if_icmp .gt 7, 3) := by decide +kernel
theorem d_D_isCharacter_30 : decode cc_D_isCharacter 30 = .ok (.iconst 1, 1) := by decide +kernel
theorem d_D_isCharacter_31 : decode cc_D_isCharacter 31 = .ok (.goto 4, 3) := by decide +kernel
theorem d_D_isCharacter_34 : decode cc_D_isCharacter 34 = .ok (.iconst 0, 1) := by decide +kernel
theorem d_D_isCharacter_35 : decode cc_D_isCharacter 35 = .ok (.ireturn, 1) := by decide +kernel
end
section
theorem d_M_init_0 : decode cc_M_init 0 = .ok (.aload_n 0, 1) := by decide +kernel
theorem d_M_init_1 : decode cc_M_init 1 = .ok (.invokespecial 1, 3) := by decide +kernel
theorem d_M_init_4 : decode cc_M_init 4 = .ok (.aload_n 0, 1) := by decide +kernel
theorem d_M_init_5 : decode cc_M_init 5 = .ok (.iconst 0, 1) := by decide +kernel
theorem d_M_init_6 : decode cc_M_init 6 = .ok (.putfield 7, 3) := by decide +kernel
theorem d_M_init_9 : decode cc_M_init 9 = .ok (.aload_n 0, 1) := by decide +kernel
theorem d_M_init_10 : decode cc_M_init 10 = .ok (.sipush 200, 3) := by decide +kernel
theorem d_M_init_13 : decode cc_M_init 13 = .ok (.newarray .int, 2) := by decide +kernel
theorem d_M_init_15 : decode cc_M_init 15 = .ok (.putfield 13, 3) := by decide +kernel
theorem d_M_init_18 : decode cc_M_init 18 = .ok (.aload_n 0, 1) := by decide +kernel
theorem d_M_init_19 : decode cc_M_init 19 = .ok (.iconst 0, 1) := by decide +kernel
theorem d_M_init_20 : decode cc_M_init 20 = .ok (.putfield 17, 3) := by decide +kernel
theorem d_M_init_23 : decode cc_M_init 23 = .ok (.aload_n 0, 1) := by decide +kernel
theorem d_M_init_24 : decode cc_M_init 24 = .ok (.bipush 26, 2) := by decide +kernel
theorem d_M_init_26 : decode cc_M_init 26 = .ok (.newarray .boolean, 2) := by decide +kernel
theorem d_M_init_28 : decode cc_M_init 28 = .ok (.putfield 20, 3) := by decide +kernel
theorem d_M_init_31 : decode cc_M_init 31 = .ok (.aload_n 0, 1) := by decide +kernel
theorem d_M_init_32 : decode cc_M_init 32 = .ok (.bipush 26, 2) := by decide +kernel
theorem d_M_init_34 : decode cc_M_init 34 = .ok (.newarray .int, 2) := by decide +kernel
theorem d_M_init_36 : decode cc_M_init 36 = .ok (.putfield 24, 3) := by decide +kernel
theorem d_M_init_39 : decode cc_M_init 39 = .ok (.aload_n 0, 1) := by decide +kernel
theorem d_M_init_40 : decode cc_M_init 40 = .ok (.sipush 2600, 3) := by decide +kernel
theorem d_M_init_43 : decode cc_M_init 43 = .ok (.newarray .int, 2) := by decide +kernel
theorem d_M_init_45 : decode cc_M_init 45 = .ok (.putfield 27, 3) := by decide +kernel
theorem d_M_init_48 : decode cc_M_init 48 = .ok (.aload_n 0, 1) := by decide +kernel
theorem d_M_init_49 : decode cc_M_init 49 = .ok (.sipush 301, 3) := by decide +kernel
theorem d_M_init_52 : decode cc_M_init 52 = .ok (.newarray .int, 2) := by decide +kernel
theorem d_M_init_54 : decode cc_M_init 54 = .ok (.putfield 30, 3) := by decide +kernel
theorem d_M_init_57 : decode cc_M_init 57 = .ok (.aload_n 0, 1) := by decide +kernel
theorem d_M_init_58 : decode cc_M_init 58 = .ok (.iconst 0, 1) := by decide +kernel
theorem d_M_init_59 : decode cc_M_init 59 = .ok (.putfield 33, 3) := by decide +kernel
theorem d_M_init_62 : decode cc_M_init 62 = .ok (.aload_n 0, 1) := by decide +kernel
theorem d_M_init_63 : decode cc_M_init 63 = .ok (.iconst (-1), 1) := by decide +kernel
theorem d_M_init_64 : decode cc_M_init 64 = .ok (.putfield 36, 3) := by decide +kernel
theorem d_M_init_67 : decode cc_M_init 67 = .ok (.aload_n 0, 1) := by decide +kernel
theorem d_M_init_68 : decode cc_M_init 68 = .ok (.iconst 0, 1) := by decide +kernel
theorem d_M_init_69 : decode cc_M_init 69 = .ok (.putfield 39, 3) := by decide +kernel
theorem d_M_init_72 : decode cc_M_init 72 = .ok (.aload_n 0, 1) := by decide +kernel
theorem d_M_init_73 : decode cc_M_init 73 = .ok (.iconst 0, 1) := by decide +kernel
theorem d_M_init_74 : decode cc_M_init 74 = .ok (.putfield 42, 3) := by decide +kernel
theorem d_M_init_77 : decode cc_M_init 77 = .ok (.aload_n 0, 1) := by decide +kernel
theorem d_M_init_78 : decode cc_M_init 78 = .ok (.iconst 0, 1) := by decide +kernel
theorem d_M_init_79 : decode cc_M_init 79 = .ok (.putfield 45, 3) := by decide +kernel
theorem d_M_init_82 : decode cc_M_init 82 = .ok (.aload_n 0, 1) := by decide +kernel
theorem d_M_init_83 : decode cc_M_init 83 = .ok (.bipush 28, 2) := by decide +kernel
theorem d_M_init_85 : decode cc_M_init 85 = .ok (.newarray .int, 2) := by decide +kernel
theorem d_M_init_87 : decode cc_M_init 87 = .ok (.putfield 48, 3) := by decide +kernel
theorem d_M_init_90 : decode cc_M_init 90 = .ok (.aload_n 0, 1) := by decide +kernel
theorem d_M_init_91 : decode cc_M_init 91 = .ok (.bipush 28, 2) := by decide +kernel
theorem d_M_init_93 : decode cc_M_init 93 = .ok (.newarray .int, 2) := by decide +kernel
theorem d_M_init_95 : decode cc_M_init 95 = .ok (.putfield 51, 3) := by decide +kernel
theorem d_M_init_98 : decode cc_M_init 98 = .ok (.aload_n 0, 1) := by decide +kernel
theorem d_M_init_99 : decode cc_M_init 99 = .ok (.iconst 0, 1) := by decide +kernel
theorem d_M_init_100 : decode cc_M_init 100 = .ok (.putfield 54, 3) := by decide +kernel
theorem d_M_init_103 : decode cc_M_init 103 = .ok (.aload_n 0, 1) := by decide +kernel
theorem d_M_init_104 : decode cc_M_init 104 = .ok (.iconst 0, 1) := by decide +kernel
theorem d_M_init_105 : decode cc_M_init 105 = .ok (.putfield 57, 3) := by decide +kernel
theorem d_M_init_108 : decode cc_M_init 108 = .ok (.aload_n 0, 1) := by decide +kernel
theorem d_M_init_109 : decode cc_M_init 109 = .ok (.iconst 0, 1) := by decide +kernel
theorem d_M_init_110 : decode cc_M_init 110 = .ok (.putfield 60, 3) := by decide +kernel
theorem d_M_init_113 : decode cc_M_init 113 = .ok (.aload_n 0, 1) := by decide +kernel
theorem d_M_init_114 : decode cc_M_init 114 = .ok (.iconst 0, 1) := by decide +kernel
theorem d_M_init_115 : decode cc_M_init 115 = .ok (.putfield 63, 3) := by decide +kernel
theorem d_M_init_118 : decode cc_M_init 118 = .ok (.aload_n 0, 1) := by decide +kernel
theorem d_M_init_119 : decode cc_M_init 119 = .ok (.iconst 0, 1) := by decide +kernel
theorem d_M_init_120 : decode cc_M_init 120 = .ok (.putfield 66, 3) := by decide +kernel
theorem d_M_init_123 : decode cc_M_init 123 = .ok (.aload_n 0, 1) := by decide +kernel
theorem d_M_init_124 : decode cc_M_init 124 = .ok (.sipush 204, 3) := by decide +kernel
theorem d_M_init_127 : decode cc_M_init 127 = .ok (.newarray .int, 2) := by decide +kernel
theorem d_M_init_129 : decode cc_M_init 129 = .ok (.putfield 69, 3) := by decide +kernel
theorem d_M_init_132 : decode cc_M_init 132 = .ok (.aload_n 0, 1) := by decide +kernel
theorem d_M_init_133 : decode cc_M_init 133 = .ok (.iconst 0, 1) := by decide +kernel
theorem d_M_init_134 : decode cc_M_init 134 = .ok (.putfield 72, 3) := by decide +kernel
theorem d_M_init_137 : decode cc_M_init 137 = .ok (.return_, 1) := by decide +kernel
theorem d_M_isCharacter_0 : decode cc_M_isCharacter 0 = .ok (.iload_n 0, 1) := by decide +kernel
theorem d_M_isCharacter_1 : decode cc_M_isCharacter 1 = .ok (.bipush 9, 2) := by decide +kernel
theorem d_M_isCharacter_3 : decode cc_M_isCharacter 3 = .ok (.if_icmp .eq 27, 3) := by decide +kernel
theorem d_M_isCharacter_6 : decode cc_M_isCharacter 6 = .ok (.iload_n 0, 1) := by decide +kernel
theorem d_M_isCharacter_7 : decode cc_M_isCharacter 7 = .ok (.bipush 10, 2) := by decide +kernel
theorem d_M_isCharacter_9 : decode cc_M_isCharacter 9 = .ok (.if_icmp .eq 21, 3) := by decide +kernel
theorem d_M_isCharacter_12 : decode cc_M_isCharacter 12 = .ok (.iload_n 0, 1) := by decide +kernel
theorem d_M_isCharacter_13 : decode cc_M_isCharacter 13 = .ok (.bipush 13, 2) := by decide +kernel
theorem d_M_isCharacter_15 : decode cc_M_isCharacter 15 = .ok (.if_icmp .eq 15, 3) := by decide +kernel
theorem d_M_isCharacter_18 : decode cc_M_isCharacter 18 = .ok (.iload_n 0, 1) := by decide +kernel
theorem d_M_isCharacter_19 : decode cc_M_isCharacter 19 = .ok (.bipush 32, 2) := by decide +kernel
theorem d_M_isCharacter_21 : decode cc_M_isCharacter 21 = .ok (.if_icmp .lt 13, 3) := by decide +kernel
theorem d_M_isCharacter_24 : decode cc_M_isCharacter 24 = .ok (.iload_n 0, 1) := by decide +kernel
theorem d_M_isCharacter_25 : decode cc_M_isCharacter 25 = .ok (.bipush 126, 2) := by decide +kernel
theorem d_M_isCharacter_27 : decode cc_M_isCharacter 27 = .ok (.if_icmp .gt 7, 3) := by decide +kernel
theorem d_M_isCharacter_30 : decode cc_M_isCharacter 30 = .ok (.iconst 1, 1) := by decide +kernel
theorem d_M_isCharacter_31 : decode cc_M_isCharacter 31 = .ok (.goto 4, 3) := by decide +kernel
theorem d_M_isCharacter_34 : decode cc_M_isCharacter 34 = .ok (.iconst 0, 1) := by decide +kernel
theorem d_M_isCharacter_35 : decode cc_M_isCharacter 35 = .ok (.ireturn, 1) := by decide +kernel
theorem d_M_length_0 : decode cc_M_length 0 = .ok (.aload_n 0, 1) := by decide +kernel
theorem d_M_length_1 : decode cc_M_length 1 = .ok (.getfield 45, 3) := by decide +kernel
theorem d_M_length_4 : decode cc_M_length 4 = .ok (.ifCond .ne 10, 3) := by decide +kernel
theorem d_M_length_7 : decode cc_M_length 7 = .ok (.aload_n 0, 1) := by decide +kernel
theorem d_M_length_8 : decode cc_M_length 8 = .ok (.getfield 17, 3) := by decide +kernel
theorem d_M_length_11 : decode cc_M_length 11 = .ok (.goto 17, 3) := by decide +kernel
theorem d_M_length_14 : decode cc_M_length 14 = .ok (.aload_n 0, 1) := by decide +kernel
theorem d_M_length_15 : decode cc_M_length 15 = .ok (.getfield 24, 3) := by decide +kernel
theorem d_M_length_18 : decode cc_M_length 18 = .ok (.aload_n 0, 1) := by decide +kernel
theorem d_M_length_19 : decode cc_M_length 19 = .ok (.getfield 48, 3) := by decide +kernel
theorem d_M_length_22 : decode cc_M_length 22 = .ok (.aload_n 0, 1) := by decide +kernel
theorem d_M_length_23 : decode cc_M_length 23 = .ok (.getfield 45, 3) := by decide +kernel
theorem d_M_length_26 : decode cc_M_length 26 = .ok (.iaload, 1) := by decide +kernel
theorem d_M_length_27 : decode cc_M_length 27 = .ok (.iaload, 1) := by decide +kernel
theorem d_M_length_28 : decode cc_M_length 28 = .ok (.ireturn, 1) := by decide +kernel
theorem d_M_byteOf_0 : decode cc_M_byteOf 0 = .ok (.iload_n 1, 1) := by decide +kernel
theorem d_M_byteOf_1 : decode cc_M_byteOf 1 = .ok (.aload_n 0, 1) := by decide +kernel
theorem d_M_byteOf_2 : decode cc_M_byteOf 2 = .ok (.invokevirtual 75, 3) := by decide +kernel
theorem d_M_byteOf_5 : decode cc_M_byteOf 5 = .ok (.if_icmp .lt 5, 3) := by decide +kernel
theorem d_M_byteOf_8 : decode cc_M_byteOf 8 = .ok (.iconst (-1), 1) := by decide +kernel
theorem d_M_byteOf_9 : decode cc_M_byteOf 9 = .ok (.ireturn, 1) := by decide +kernel
theorem d_M_byteOf_10 : decode cc_M_byteOf 10 = .ok (.aload_n 0, 1) := by decide +kernel
theorem d_M_byteOf_11 : decode cc_M_byteOf 11 = .ok (.getfield 45, 3) := by decide +kernel
theorem d_M_byteOf_14 : decode cc_M_byteOf 14 = .ok (.ifCond .ne 12, 3) := by decide +kernel
theorem d_M_byteOf_17 : decode cc_M_byteOf 17 = .ok (.aload_n 0, 1) := by decide +kernel
theorem d_M_byteOf_18 : decode cc_M_byteOf 18 = .ok (.getfield 13, 3) := by decide +kernel
theorem d_M_byteOf_21 : decode cc_M_byteOf 21 = .ok (.iload_n 1, 1) := by decide +kernel
theorem d_M_byteOf_22 : decode cc_M_byteOf 22 = .ok (.iaload, 1) := by decide +kernel
theorem d_M_byteOf_23 : decode cc_M_byteOf 23 = .ok (.goto 22, 3) := by decide +kernel
theorem d_M_byteOf_26 : decode cc_M_byteOf 26 = .ok (.aload_n 0, 1) := by decide +kernel
theorem d_M_byteOf_27 : decode cc_M_byteOf 27 = .ok (.getfield 27, 3) := by decide +kernel
theorem d_M_byteOf_30 : decode cc_M_byteOf 30 = .ok (.bipush 100, 2) := by decide +kernel
theorem d_M_byteOf_32 : decode cc_M_byteOf 32 = .ok (.aload_n 0, 1) := by decide +kernel
theorem d_M_byteOf_33 : decode cc_M_byteOf 33 = .ok (.getfield 48, 3) := by decide +kernel
theorem d_M_byteOf_36 : decode cc_M_byteOf 36 = .ok (.aload_n 0, 1) := by decide +kernel
theorem d_M_byteOf_37 : decode cc_M_byteOf 37 = .ok (.getfield 45, 3) := by decide +kernel
theorem d_M_byteOf_40 : decode cc_M_byteOf 40 = .ok (.iaload, 1) := by decide +kernel
theorem d_M_byteOf_41 : decode cc_M_byteOf 41 = .ok (.imul, 1) := by decide +kernel
theorem d_M_byteOf_42 : decode cc_M_byteOf 42 = .ok (.iload_n 1, 1) := by decide +kernel
theorem d_M_byteOf_43 : decode cc_M_byteOf 43 = .ok (.iadd, 1) := by decide +kernel
theorem d_M_byteOf_44 : decode cc_M_byteOf 44 = .ok (.iaload, 1) := by decide +kernel
theorem d_M_byteOf_45 : decode cc_M_byteOf 45 = .ok (.ireturn, 1) := by decide +kernel
theorem d_M_fails_0 : decode cc_M_fails 0 = .ok (.aload_n 0, 1) := by decide +kernel
theorem d_M_fails_1 : decode cc_M_fails 1 = .ok (.iload_n 1, 1) := by decide +kernel
theorem d_M_fails_2 : decode cc_M_fails 2 = .ok (.putfield 54, 3) := by decide +kernel
theorem d_M_fails_5 : decode cc_M_fails 5 = .ok (.aload_n 0, 1) := by decide +kernel
theorem d_M_fails_6 : decode cc_M_fails 6 = .ok (.aload_n 0, 1) := by decide +kernel
theorem d_M_fails_7 : decode cc_M_fails 7 = .ok (.getfield 45, 3) := by decide +kernel
theorem d_M_fails_10 : decode cc_M_fails 10 = .ok (.ifCond .ne 7, 3) := by decide +kernel
theorem d_M_fails_13 : decode cc_M_fails 13 = .ok (.iload_n 2, 1) := by decide +kernel
theorem d_M_fails_14 : decode cc_M_fails 14 = .ok (.goto 7, 3) := by decide +kernel
theorem d_M_fails_17 : decode cc_M_fails 17 = .ok (.aload_n 0, 1) := by decide +kernel
theorem d_M_fails_18 : decode cc_M_fails 18 = .ok (.getfield 57, 3) := by decide +kernel
theorem d_M_fails_21 : decode cc_M_fails 21 = .ok (.putfield 36, 3) := by decide +kernel
theorem d_M_fails_24 : decode cc_M_fails 24 = .ok (.return_, 1) := by decide +kernel
theorem d_M_digit_0 : decode cc_M_digit 0 = .ok (.iload_n 0, 1) := by decide +kernel
theorem d_M_digit_1 : decode cc_M_digit 1 = .ok (.bipush 48, 2) := by decide +kernel
theorem d_M_digit_3 : decode cc_M_digit 3 = .ok (.if_icmp .lt 14, 3) := by decide +kernel
theorem d_M_digit_6 : decode cc_M_digit 6 = .ok (.iload_n 0, 1) := by decide +kernel
theorem d_M_digit_7 : decode cc_M_digit 7 = .ok (.bipush 57, 2) := by decide +kernel
theorem d_M_digit_9 : decode cc_M_digit 9 = .ok (.if_icmp .gt 8, 3) := by decide +kernel
theorem d_M_digit_12 : decode cc_M_digit 12 = .ok (.iload_n 0, 1) := by decide +kernel
theorem d_M_digit_13 : decode cc_M_digit 13 = .ok (.bipush 48, 2) := by decide +kernel
theorem d_M_digit_15 : decode cc_M_digit 15 = .ok (.isub, 1) := by decide +kernel
theorem d_M_digit_16 : decode cc_M_digit 16 = .ok (.ireturn, 1) := by decide +kernel
theorem d_M_digit_17 : decode cc_M_digit 17 = .ok (.iload_n 1, 1) := by decide +kernel
theorem d_M_digit_18 : decode cc_M_digit 18 = .ok (.ifCond .eq 20, 3) := by decide +kernel
theorem d_M_digit_21 : decode cc_M_digit 21 = .ok (.iload_n 0, 1) := by decide +kernel
theorem d_M_digit_22 : decode cc_M_digit 22 = .ok (.bipush 97, 2) := by decide +kernel
theorem d_M_digit_24 : decode cc_M_digit 24 = .ok (.if_icmp .lt 14, 3) := by decide +kernel
theorem d_M_digit_27 : decode cc_M_digit 27 = .ok (.iload_n 0, 1) := by decide +kernel
theorem d_M_digit_28 : decode cc_M_digit 28 = .ok (.bipush 102, 2) := by decide +kernel
theorem d_M_digit_30 : decode cc_M_digit 30 = .ok (.if_icmp .gt 8, 3) := by decide +kernel
theorem d_M_digit_33 : decode cc_M_digit 33 = .ok (.iload_n 0, 1) := by decide +kernel
theorem d_M_digit_34 : decode cc_M_digit 34 = .ok (.bipush 87, 2) := by decide +kernel
theorem d_M_digit_36 : decode cc_M_digit 36 = .ok (.isub, 1) := by decide +kernel
theorem d_M_digit_37 : decode cc_M_digit 37 = .ok (.ireturn, 1) := by decide +kernel
theorem d_M_digit_38 : decode cc_M_digit 38 = .ok (.iload_n 1, 1) := by decide +kernel
theorem d_M_digit_39 : decode cc_M_digit 39 = .ok (.ifCond .eq 20, 3) := by decide +kernel
theorem d_M_digit_42 : decode cc_M_digit 42 = .ok (.iload_n 0, 1) := by decide +kernel
theorem d_M_digit_43 : decode cc_M_digit 43 = .ok (.bipush 65, 2) := by decide +kernel
theorem d_M_digit_45 : decode cc_M_digit 45 = .ok (.if_icmp .lt 14, 3) := by decide +kernel
theorem d_M_digit_48 : decode cc_M_digit 48 = .ok (.iload_n 0, 1) := by decide +kernel
theorem d_M_digit_49 : decode cc_M_digit 49 = .ok (.bipush 70, 2) := by decide +kernel
theorem d_M_digit_51 : decode cc_M_digit 51 = .ok (.if_icmp .gt 8, 3) := by decide +kernel
theorem d_M_digit_54 : decode cc_M_digit 54 = .ok (.iload_n 0, 1) := by decide +kernel
theorem d_M_digit_55 : decode cc_M_digit 55 = .ok (.bipush 55, 2) := by decide +kernel
theorem d_M_digit_57 : decode cc_M_digit 57 = .ok (.isub, 1) := by decide +kernel
theorem d_M_digit_58 : decode cc_M_digit 58 = .ok (.ireturn, 1) := by decide +kernel
theorem d_M_digit_59 : decode cc_M_digit 59 = .ok (.iconst (-1), 1) := by decide +kernel
theorem d_M_digit_60 : decode cc_M_digit 60 = .ok (.ireturn, 1) := by decide +kernel
theorem d_M_stops_0 : decode cc_M_stops 0 = .ok (.aload_n 0, 1) := by decide +kernel
theorem d_M_stops_1 : decode cc_M_stops 1 = .ok (.aload_n 0, 1) := by decide +kernel
theorem d_M_stops_2 : decode cc_M_stops 2 = .ok (.getfield 45, 3) := by decide +kernel
theorem d_M_stops_5 : decode cc_M_stops 5 = .ok (.ifCond .le 16, 3) := by decide +kernel
theorem d_M_stops_8 : decode cc_M_stops 8 = .ok (.iload_n 1, 1) := by decide +kernel
theorem d_M_stops_9 : decode cc_M_stops 9 = .ok (.aload_n 0, 1) := by decide +kernel
theorem d_M_stops_10 : decode cc_M_stops 10 = .ok (.invokevirtual 75, 3) := by decide +kernel
theorem d_M_stops_13 : decode cc_M_stops 13 = .ok (.if_icmp .lt 8, 3) := by decide +kernel
theorem d_M_stops_16 : decode cc_M_stops 16 = .ok (.bipush 7, 2) := by decide +kernel
theorem d_M_stops_18 : decode cc_M_stops 18 = .ok (.goto 4, 3) := by decide +kernel
theorem d_M_stops_21 : decode cc_M_stops 21 = .ok (.iconst 1, 1) := by decide +kernel
theorem d_M_stops_22 : decode cc_M_stops 22 = .ok (.iload_n 1, 1) := by decide +kernel
theorem d_M_stops_23 : decode cc_M_stops 23 = .ok (.invokevirtual 79, 3) := by decide +kernel
theorem d_M_stops_26 : decode cc_M_stops 26 = .ok (.return_, 1) := by decide +kernel
theorem d_M_look_0 : decode cc_M_look 0 = .ok (.aload_n 0, 1) := by decide +kernel
theorem d_M_look_1 : decode cc_M_look 1 = .ok (.iload_n 1, 1) := by decide +kernel
theorem d_M_look_2 : decode cc_M_look 2 = .ok (.iconst 1, 1) := by decide +kernel
theorem d_M_look_3 : decode cc_M_look 3 = .ok (.iadd, 1) := by decide +kernel
theorem d_M_look_4 : decode cc_M_look 4 = .ok (.invokevirtual 83, 3) := by decide +kernel
theorem d_M_look_7 : decode cc_M_look 7 = .ok (.istore_n 2, 1) := by decide +kernel
theorem d_M_look_8 : decode cc_M_look 8 = .ok (.iload_n 1, 1) := by decide +kernel
theorem d_M_look_9 : decode cc_M_look 9 = .ok (.iconst 2, 1) := by decide +kernel
theorem d_M_look_10 : decode cc_M_look 10 = .ok (.iadd, 1) := by decide +kernel
theorem d_M_look_11 : decode cc_M_look 11 = .ok (.istore_n 3, 1) := by decide +kernel
theorem d_M_look_12 : decode cc_M_look 12 = .ok (.iload_n 2, 1) := by decide +kernel
theorem d_M_look_13 : decode cc_M_look 13 = .ok (.bipush 97, 2) := by decide +kernel
theorem d_M_look_15 : decode cc_M_look 15 = .ok (.if_icmp .lt 25, 3) := by decide +kernel
theorem d_M_look_18 : decode cc_M_look 18 = .ok (.iload_n 2, 1) := by decide +kernel
theorem d_M_look_19 : decode cc_M_look 19 = .ok (.bipush 122, 2) := by decide +kernel
theorem d_M_look_21 : decode cc_M_look 21 = .ok (.if_icmp .gt 19, 3) := by decide +kernel
theorem d_M_look_24 : decode cc_M_look 24 = .ok (.aload_n 0, 1) := by decide +kernel
theorem d_M_look_25 : decode cc_M_look 25 = .ok (.iconst 1, 1) := by decide +kernel
theorem d_M_look_26 : decode cc_M_look 26 = .ok (.putfield 60, 3) := by decide +kernel
theorem d_M_look_29 : decode cc_M_look 29 = .ok (.aload_n 0, 1) := by decide +kernel
theorem d_M_look_30 : decode cc_M_look 30 = .ok (.iload_n 2, 1) := by decide +kernel
theorem d_M_look_31 : decode cc_M_look 31 = .ok (.bipush 97, 2) := by decide +kernel
theorem d_M_look_33 : decode cc_M_look 33 = .ok (.isub, 1) := by decide +kernel
theorem d_M_look_34 : decode cc_M_look 34 = .ok (.putfield 63, 3) := by decide +kernel
theorem d_M_look_37 : decode cc_M_look 37 = .ok (.goto 130, 3) := by decide +kernel
theorem d_M_look_40 : decode cc_M_look 40 = .ok (.iload_n 2, 1) := by decide +kernel
theorem d_M_look_41 : decode cc_M_look 41 = .ok (.bipush 35, 2) := by decide +kernel
theorem d_M_look_43 : decode cc_M_look 43 = .ok (.if_icmp .ne 116, 3) := by decide +kernel
theorem d_M_look_46 : decode cc_M_look 46 = .ok (.aload_n 0, 1) := by decide +kernel
theorem d_M_look_47 : decode cc_M_look 47 = .ok (.iconst 2, 1) := by decide +kernel
theorem d_M_look_48 : decode cc_M_look 48 = .ok (.putfield 60, 3) := by decide +kernel
theorem d_M_look_51 : decode cc_M_look 51 = .ok (.aload_n 0, 1) := by decide +kernel
theorem d_M_look_52 : decode cc_M_look 52 = .ok (.iload_n 3, 1) := by decide +kernel
theorem d_M_look_53 : decode cc_M_look 53 = .ok (.invokevirtual 83, 3) := by decide +kernel
theorem d_M_look_56 : decode cc_M_look 56 = .ok (.bipush 120, 2) := by decide +kernel
theorem d_M_look_58 : decode cc_M_look 58 = .ok (.if_icmp .ne 7, 3) := by decide +kernel
theorem d_M_look_61 : decode cc_M_look 61 = .ok (.iconst 1, 1) := by decide +kernel
theorem d_M_look_62 : decode cc_M_look 62 = .ok (.goto 4, 3) := by decide +kernel
theorem d_M_look_65 : decode cc_M_look 65 = .ok (.iconst 0, 1) := by decide +kernel
theorem d_M_look_66 : decode cc_M_look 66 = .ok (.istore 4, 2) := by decide +kernel
theorem d_M_look_68 : decode cc_M_look 68 = .ok (.iload 4, 2) := by decide +kernel
theorem d_M_look_70 : decode cc_M_look 70 = .ok (.ifCond .eq 6, 3) := by decide +kernel
theorem d_M_look_73 : decode cc_M_look 73 = .ok (.iinc 3 1, 3) := by decide +kernel
theorem d_M_look_76 : decode cc_M_look 76 = .ok (.iconst 0, 1) := by decide +kernel
theorem d_M_look_77 : decode cc_M_look 77 = .ok (.istore 5, 2) := by decide +kernel
theorem d_M_look_79 : decode cc_M_look 79 = .ok (.aload_n 0, 1) := by decide +kernel
theorem d_M_look_80 : decode cc_M_look 80 = .ok (.iconst 0, 1) := by decide +kernel
theorem d_M_look_81 : decode cc_M_look 81 = .ok (.putfield 63, 3) := by decide +kernel
theorem d_M_look_84 : decode cc_M_look 84 = .ok (.iload 5, 2) := by decide +kernel
theorem d_M_look_86 : decode cc_M_look 86 = .ok (.bipush 6, 2) := by decide +kernel
theorem d_M_look_88 : decode cc_M_look 88 = .ok (.if_icmp .ge 57, 3) := by decide +kernel
theorem d_M_look_91 : decode cc_M_look 91 = .ok (.aload_n 0, 1) := by decide +kernel
theorem d_M_look_92 : decode cc_M_look 92 = .ok (.iload_n 3, 1) := by decide +kernel
theorem d_M_look_93 : decode cc_M_look 93 = .ok (.invokevirtual 83, 3) := by decide +kernel
theorem d_M_look_96 : decode cc_M_look 96 = .ok (.iload 4, 2) := by decide +kernel
theorem d_M_look_98 : decode cc_M_look 98 = .ok (.invokestatic 87, 3) := by decide +kernel
theorem d_M_look_101 : decode cc_M_look 101 = .ok (.ifCond .lt 44, 3) := by decide +kernel
theorem d_M_look_104 : decode cc_M_look 104 = .ok (.aload_n 0, 1) := by decide +kernel
theorem d_M_look_105 : decode cc_M_look 105 = .ok (.aload_n 0, 1) := by decide +kernel
theorem d_M_look_106 : decode cc_M_look 106 = .ok (.getfield 63, 3) := by decide +kernel
theorem d_M_look_109 : decode cc_M_look 109 = .ok (.iload 4, 2) := by decide +kernel
theorem d_M_look_111 : decode cc_M_look 111 = .ok (.ifCond .eq 8, 3) := by decide +kernel
theorem d_M_look_114 : decode cc_M_look 114 = .ok (.bipush 16, 2) := by decide +kernel
theorem d_M_look_116 : decode cc_M_look 116 = .ok (.goto 5, 3) := by decide +kernel
theorem d_M_look_119 : decode cc_M_look 119 = .ok (.bipush 10, 2) := by decide +kernel
theorem d_M_look_121 : decode cc_M_look 121 = .ok (.imul, 1) := by decide +kernel
theorem d_M_look_122 : decode cc_M_look 122 = .ok (.aload_n 0, 1) := by decide +kernel
theorem d_M_look_123 : decode cc_M_look 123 = .ok (.iload_n 3, 1) := by decide +kernel
theorem d_M_look_124 : decode cc_M_look 124 = .ok (.invokevirtual 83, 3) := by decide +kernel
theorem d_M_look_127 : decode cc_M_look 127 = .ok (.iload 4, 2) := by decide +kernel
theorem d_M_look_129 : decode cc_M_look 129 = .ok (.invokestatic 87, 3) := by decide +kernel
theorem d_M_look_132 : decode cc_M_look 132 = .ok (.iadd, 1) := by decide +kernel
theorem d_M_look_133 : decode cc_M_look 133 = .ok (.putfield 63, 3) := by decide +kernel
theorem d_M_look_136 : decode cc_M_look 136 = .ok (.iinc 5 1, 3) := by decide +kernel
theorem d_M_look_139 : decode cc_M_look 139 = .ok (.iinc 3 1, 3) := by decide +kernel
theorem d_M_look_142 : decode cc_M_look 142 = .ok (.goto (-58), 3) := by decide +kernel
theorem d_M_look_145 : decode cc_M_look 145 = .ok (.iload 5, 2) := by decide +kernel
theorem d_M_look_147 : decode cc_M_look 147 = .ok (.ifCond .ne 9, 3) := by decide +kernel
theorem d_M_look_150 : decode cc_M_look 150 = .ok (.aload_n 0, 1) := by decide +kernel
theorem d_M_look_151 : decode cc_M_look 151 = .ok (.iload_n 3, 1) := by decide +kernel
theorem d_M_look_152 : decode cc_M_look 152 = .ok (.invokevirtual 91, 3) := by decide +kernel
theorem d_M_look_155 : decode cc_M_look 155 = .ok (.return_, 1) := by decide +kernel
theorem d_M_look_156 : decode cc_M_look 156 = .ok (.goto 11, 3) := by decide +kernel
theorem d_M_look_159 : decode cc_M_look 159 = .ok (.aload_n 0, 1) := by decide +kernel
theorem d_M_look_160 : decode cc_M_look 160 = .ok (.iload_n 1, 1) := by decide +kernel
theorem d_M_look_161 : decode cc_M_look 161 = .ok (.iconst 1, 1) := by decide +kernel
theorem d_M_look_162 : decode cc_M_look 162 = .ok (.iadd, 1) := by decide +kernel
theorem d_M_look_163 : decode cc_M_look 163 = .ok (.invokevirtual 91, 3) := by decide +kernel
theorem d_M_look_166 : decode cc_M_look 166 = .ok (.return_, 1) := by decide +kernel
theorem d_M_look_167 : decode cc_M_look 167 = .ok (.aload_n 0, 1) := by decide +kernel
theorem d_M_look_168 : decode cc_M_look 168 = .ok (.iload_n 3, 1) := by decide +kernel
theorem d_M_look_169 : decode cc_M_look 169 = .ok (.invokevirtual 83, 3) := by decide +kernel
theorem d_M_look_172 : decode cc_M_look 172 = .ok (.bipush 59, 2) := by decide +kernel
theorem d_M_look_174 : decode cc_M_look 174 = .ok (.if_icmp .eq 9, 3) := by decide +kernel
theorem d_M_look_177 : decode cc_M_look 177 = .ok (.aload_n 0, 1) := by decide +kernel
theorem d_M_look_178 : decode cc_M_look 178 = .ok (.iload_n 3, 1) := by decide +kernel
theorem d_M_look_179 : decode cc_M_look 179 = .ok (.invokevirtual 91, 3) := by decide +kernel
theorem d_M_look_182 : decode cc_M_look 182 = .ok (.return_, 1) := by decide +kernel
theorem d_M_look_183 : decode cc_M_look 183 = .ok (.aload_n 0, 1) := by decide +kernel
theorem d_M_look_184 : decode cc_M_look 184 = .ok (.iload_n 3, 1) := by decide +kernel
theorem d_M_look_185 : decode cc_M_look 185 = .ok (.iconst 1, 1) := by decide +kernel
theorem d_M_look_186 : decode cc_M_look 186 = .ok (.iadd, 1) := by decide +kernel
theorem d_M_look_187 : decode cc_M_look 187 = .ok (.putfield 66, 3) := by decide +kernel
theorem d_M_look_190 : decode cc_M_look 190 = .ok (.aload_n 0, 1) := by decide +kernel
theorem d_M_look_191 : decode cc_M_look 191 = .ok (.getfield 60, 3) := by decide +kernel
theorem d_M_look_194 : decode cc_M_look 194 = .ok (.iconst 2, 1) := by decide +kernel
theorem d_M_look_195 : decode cc_M_look 195 = .ok (.if_icmp .ne 19, 3) := by decide +kernel
theorem d_M_look_198 : decode cc_M_look 198 = .ok (.aload_n 0, 1) := by decide +kernel
theorem d_M_look_199 : decode cc_M_look 199 = .ok (.getfield 63, 3) := by decide +kernel
theorem d_M_look_202 : decode cc_M_look 202 = .ok (.invokestatic 95, 3) := by decide +kernel
theorem d_M_look_205 : decode cc_M_look 205 = .ok (.ifCond .ne 9, 3) := by decide +kernel
theorem d_M_look_208 : decode cc_M_look 208 = .ok (.aload_n 0, 1) := by decide +kernel
theorem d_M_look_209 : decode cc_M_look 209 = .ok (.iconst 5, 1) := by decide +kernel
theorem d_M_look_210 : decode cc_M_look 210 = .ok (.iload_n 1, 1) := by decide +kernel
theorem d_M_look_211 : decode cc_M_look 211 = .ok (.invokevirtual 79, 3) := by decide +kernel
theorem d_M_look_214 : decode cc_M_look 214 = .ok (.return_, 1) := by decide +kernel
theorem d_M_add_0 : decode cc_M_add 0 = .ok (.aload_n 0, 1) := by decide +kernel
theorem d_M_add_1 : decode cc_M_add 1 = .ok (.getfield 33, 3) := by decide +kernel
theorem d_M_add_4 : decode cc_M_add 4 = .ok (.sipush 300, 3) := by decide +kernel
theorem d_M_add_7 : decode cc_M_add 7 = .ok (.if_icmp .ne 11, 3) := by decide +kernel
theorem d_M_add_10 : decode cc_M_add 10 = .ok (.aload_n 0, 1) := by decide +kernel
theorem d_M_add_11 : decode cc_M_add 11 = .ok (.bipush 8, 2) := by decide +kernel
theorem d_M_add_13 : decode cc_M_add 13 = .ok (.iload_n 2, 1) := by decide +kernel
theorem d_M_add_14 : decode cc_M_add 14 = .ok (.invokevirtual 79, 3) := by decide +kernel
theorem d_M_add_17 : decode cc_M_add 17 = .ok (.return_, 1) := by decide +kernel
theorem d_M_add_18 : decode cc_M_add 18 = .ok (.aload_n 0, 1) := by decide +kernel
theorem d_M_add_19 : decode cc_M_add 19 = .ok (.getfield 30, 3) := by decide +kernel
theorem d_M_add_22 : decode cc_M_add 22 = .ok (.aload_n 0, 1) := by decide +kernel
theorem d_M_add_23 : decode cc_M_add 23 = .ok (.getfield 33, 3) := by decide +kernel
theorem d_M_add_26 : decode cc_M_add 26 = .ok (.iload_n 1, 1) := by decide +kernel
theorem d_M_add_27 : decode cc_M_add 27 = .ok (.iastore, 1) := by decide +kernel
theorem d_M_add_28 : decode cc_M_add 28 = .ok (.aload_n 0, 1) := by decide +kernel
theorem d_M_add_29 : decode cc_M_add 29 = .ok (.dup, 1) := by decide +kernel
theorem d_M_add_30 : decode cc_M_add 30 = .ok (.getfield 33, 3) := by decide +kernel
theorem d_M_add_33 : decode cc_M_add 33 = .ok (.iconst 1, 1) := by decide +kernel
theorem d_M_add_34 : decode cc_M_add 34 = .ok (.iadd, 1) := by decide +kernel
theorem d_M_add_35 : decode cc_M_add 35 = .ok (.putfield 33, 3) := by decide +kernel
theorem d_M_add_38 : decode cc_M_add 38 = .ok (.return_, 1) := by decide +kernel
theorem d_M_isOpen_0 : decode cc_M_isOpen 0 = .ok (.iconst 1, 1) := by decide +kernel
theorem d_M_isOpen_1 : decode cc_M_isOpen 1 = .ok (.istore_n 2, 1) := by decide +kernel
theorem d_M_isOpen_2 : decode cc_M_isOpen 2 = .ok (.iload_n 2, 1) := by decide +kernel
theorem d_M_isOpen_3 : decode cc_M_isOpen 3 = .ok (.aload_n 0, 1) := by decide +kernel
theorem d_M_isOpen_4 : decode cc_M_isOpen 4 = .ok (.getfield 45, 3) := by decide +kernel
theorem d_M_isOpen_7 : decode cc_M_isOpen 7 = .ok (.if_icmp .gt 21, 3) := by decide +kernel
theorem d_M_isOpen_10 : decode cc_M_isOpen 10 = .ok (.aload_n 0, 1) := by decide +kernel
theorem d_M_isOpen_11 : decode cc_M_isOpen 11 = .ok (.getfield 48, 3) := by decide +kernel
theorem d_M_isOpen_14 : decode cc_M_isOpen 14 = .ok (.iload_n 2, 1) := by decide +kernel
theorem d_M_isOpen_15 : decode cc_M_isOpen 15 = .ok (.iaload, 1) := by decide +kernel
theorem d_M_isOpen_16 : decode cc_M_isOpen 16 = .ok (.iload_n 1, 1) := by decide +kernel
theorem d_M_isOpen_17 : decode cc_M_isOpen 17 = .ok (.if_icmp .ne 5, 3) := by decide +kernel
theorem d_M_isOpen_20 : decode cc_M_isOpen 20 = .ok (.iconst 1, 1) := by decide +kernel
theorem d_M_isOpen_21 : decode cc_M_isOpen 21 = .ok (.ireturn, 1) := by decide +kernel
theorem d_M_isOpen_22 : decode cc_M_isOpen 22 = .ok (.iinc 2 1, 3) := by decide +kernel
theorem d_M_isOpen_25 : decode cc_M_isOpen 25 = .ok (.goto (-23), 3) := by decide +kernel
theorem d_M_isOpen_28 : decode cc_M_isOpen 28 = .ok (.iconst 0, 1) := by decide +kernel
theorem d_M_isOpen_29 : decode cc_M_isOpen 29 = .ok (.ireturn, 1) := by decide +kernel
theorem d_M_open_0 : decode cc_M_open 0 = .ok (.aload_n 0, 1) := by decide +kernel
theorem d_M_open_1 : decode cc_M_open 1 = .ok (.getfield 20, 3) := by decide +kernel
theorem d_M_open_4 : decode cc_M_open 4 = .ok (.iload_n 1, 1) := by decide +kernel
theorem d_M_open_5 : decode cc_M_open 5 = .ok (.baload, 1) := by decide +kernel
theorem d_M_open_6 : decode cc_M_open 6 = .ok (.ifCond .ne 12, 3) := by decide +kernel
theorem d_M_open_9 : decode cc_M_open 9 = .ok (.aload_n 0, 1) := by decide +kernel
theorem d_M_open_10 : decode cc_M_open 10 = .ok (.iconst 2, 1) := by decide +kernel
theorem d_M_open_11 : decode cc_M_open 11 = .ok (.iload_n 2, 1) := by decide +kernel
theorem d_M_open_12 : decode cc_M_open 12 = .ok (.invokevirtual 79, 3) := by decide +kernel
theorem d_M_open_15 : decode cc_M_open 15 = .ok (.goto 134, 3) := by decide +kernel
theorem d_M_open_18 : decode cc_M_open 18 = .ok (.aload_n 0, 1) := by decide +kernel
theorem d_M_open_19 : decode cc_M_open 19 = .ok (.iload_n 1, 1) := by decide +kernel
theorem d_M_open_20 : decode cc_M_open 20 = .ok (.invokevirtual 99, 3) := by decide +kernel
theorem d_M_open_23 : decode cc_M_open 23 = .ok (.ifCond .eq 12, 3) := by decide +kernel
theorem d_M_open_26 : decode cc_M_open 26 = .ok (.aload_n 0, 1) := by decide +kernel
theorem d_M_open_27 : decode cc_M_open 27 = .ok (.iconst 3, 1) := by decide +kernel
theorem d_M_open_28 : decode cc_M_open 28 = .ok (.iload_n 2, 1) := by decide +kernel
theorem d_M_open_29 : decode cc_M_open 29 = .ok (.invokevirtual 79, 3) := by decide +kernel
theorem d_M_open_32 : decode cc_M_open 32 = .ok (.goto 117, 3) := by decide +kernel
theorem d_M_open_35 : decode cc_M_open 35 = .ok (.aload_n 0, 1) := by decide +kernel
theorem d_M_open_36 : decode cc_M_open 36 = .ok (.getfield 39, 3) := by decide +kernel
theorem d_M_open_39 : decode cc_M_open 39 = .ok (.aload_n 0, 1) := by decide +kernel
theorem d_M_open_40 : decode cc_M_open 40 = .ok (.getfield 24, 3) := by decide +kernel
theorem d_M_open_43 : decode cc_M_open 43 = .ok (.iload_n 1, 1) := by decide +kernel
theorem d_M_open_44 : decode cc_M_open 44 = .ok (.iaload, 1) := by decide +kernel
theorem d_M_open_45 : decode cc_M_open 45 = .ok (.iadd, 1) := by decide +kernel
theorem d_M_open_46 : decode cc_M_open 46 = .ok (.iload_n 3, 1) := by decide +kernel
theorem d_M_open_47 : decode cc_M_open 47 = .ok (.if_icmp .le 13, 3) := by decide +kernel
theorem d_M_open_50 : decode cc_M_open 50 = .ok (.aload_n 0, 1) := by decide +kernel
theorem d_M_open_51 : decode cc_M_open 51 = .ok (.bipush 6, 2) := by decide +kernel
theorem d_M_open_53 : decode cc_M_open 53 = .ok (.iload_n 2, 1) := by decide +kernel
theorem d_M_open_54 : decode cc_M_open 54 = .ok (.invokevirtual 79, 3) := by decide +kernel
theorem d_M_open_57 : decode cc_M_open 57 = .ok (.goto 92, 3) := by decide +kernel
theorem d_M_open_60 : decode cc_M_open 60 = .ok (.aload_n 0, 1) := by decide +kernel
theorem d_M_open_61 : decode cc_M_open 61 = .ok (.getfield 45, 3) := by decide +kernel
theorem d_M_open_64 : decode cc_M_open 64 = .ok (.ifCond .ne 8, 3) := by decide +kernel
theorem d_M_open_67 : decode cc_M_open 67 = .ok (.aload_n 0, 1) := by decide +kernel
theorem d_M_open_68 : decode cc_M_open 68 = .ok (.iload_n 2, 1) := by decide +kernel
theorem d_M_open_69 : decode cc_M_open 69 = .ok (.putfield 57, 3) := by decide +kernel
theorem d_M_open_72 : decode cc_M_open 72 = .ok (.aload_n 0, 1) := by decide +kernel
theorem d_M_open_73 : decode cc_M_open 73 = .ok (.getfield 51, 3) := by decide +kernel
theorem d_M_open_76 : decode cc_M_open 76 = .ok (.aload_n 0, 1) := by decide +kernel
theorem d_M_open_77 : decode cc_M_open 77 = .ok (.getfield 45, 3) := by decide +kernel
theorem d_M_open_80 : decode cc_M_open 80 = .ok (.aload_n 0, 1) := by decide +kernel
theorem d_M_open_81 : decode cc_M_open 81 = .ok (.getfield 66, 3) := by decide +kernel
theorem d_M_open_84 : decode cc_M_open 84 = .ok (.iastore, 1) := by decide +kernel
theorem d_M_open_85 : decode cc_M_open 85 = .ok (.aload_n 0, 1) := by decide +kernel
theorem d_M_open_86 : decode cc_M_open 86 = .ok (.dup, 1) := by decide +kernel
theorem d_M_open_87 : decode cc_M_open 87 = .ok (.getfield 39, 3) := by decide +kernel
theorem d_M_open_90 : decode cc_M_open 90 = .ok (.aload_n 0, 1) := by decide +kernel
theorem d_M_open_91 : decode cc_M_open 91 = .ok (.getfield 24, 3) := by decide +kernel
theorem d_M_open_94 : decode cc_M_open 94 = .ok (.iload_n 1, 1) := by decide +kernel
theorem d_M_open_95 : decode cc_M_open 95 = .ok (.iaload, 1) := by decide +kernel
theorem d_M_open_96 : decode cc_M_open 96 = .ok (.iadd, 1) := by decide +kernel
theorem d_M_open_97 : decode cc_M_open 97 = .ok (.putfield 39, 3) := by decide +kernel
theorem d_M_open_100 : decode cc_M_open 100 = .ok (.aload_n 0, 1) := by decide +kernel
theorem d_M_open_101 : decode cc_M_open 101 = .ok (.dup, 1) := by decide +kernel
theorem d_M_open_102 : decode cc_M_open 102 = .ok (.getfield 45, 3) := by decide +kernel
theorem d_M_open_105 : decode cc_M_open 105 = .ok (.iconst 1, 1) := by decide +kernel
theorem d_M_open_106 : decode cc_M_open 106 = .ok (.iadd, 1) := by decide +kernel
theorem d_M_open_107 : decode cc_M_open 107 = .ok (.putfield 45, 3) := by decide +kernel
theorem d_M_open_110 : decode cc_M_open 110 = .ok (.aload_n 0, 1) := by decide +kernel
theorem d_M_open_111 : decode cc_M_open 111 = .ok (.getfield 48, 3) := by decide +kernel
theorem d_M_open_114 : decode cc_M_open 114 = .ok (.aload_n 0, 1) := by decide +kernel
theorem d_M_open_115 : decode cc_M_open 115 = .ok (.getfield 45, 3) := by decide +kernel
theorem d_M_open_118 : decode cc_M_open 118 = .ok (.iload_n 1, 1) := by decide +kernel
theorem d_M_open_119 : decode cc_M_open 119 = .ok (.iastore, 1) := by decide +kernel
theorem d_M_open_120 : decode cc_M_open 120 = .ok (.aload_n 0, 1) := by decide +kernel
theorem d_M_open_121 : decode cc_M_open 121 = .ok (.getfield 51, 3) := by decide +kernel
theorem d_M_open_124 : decode cc_M_open 124 = .ok (.aload_n 0, 1) := by decide +kernel
theorem d_M_open_125 : decode cc_M_open 125 = .ok (.getfield 45, 3) := by decide +kernel
theorem d_M_open_128 : decode cc_M_open 128 = .ok (.iconst 0, 1) := by decide +kernel
theorem d_M_open_129 : decode cc_M_open 129 = .ok (.iastore, 1) := by decide +kernel
theorem d_M_open_130 : decode cc_M_open 130 = .ok (.aload_n 0, 1) := by decide +kernel
theorem d_M_open_131 : decode cc_M_open 131 = .ok (.getfield 45, 3) := by decide +kernel
theorem d_M_open_134 : decode cc_M_open 134 = .ok (.aload_n 0, 1) := by decide +kernel
theorem d_M_open_135 : decode cc_M_open 135 = .ok (.getfield 42, 3) := by decide +kernel
theorem d_M_open_138 : decode cc_M_open 138 = .ok (.if_icmp .le 11, 3) := by decide +kernel
theorem d_M_open_141 : decode cc_M_open 141 = .ok (.aload_n 0, 1) := by decide +kernel
theorem d_M_open_142 : decode cc_M_open 142 = .ok (.aload_n 0, 1) := by decide +kernel
theorem d_M_open_143 : decode cc_M_open 143 = .ok (.getfield 45, 3) := by decide +kernel
theorem d_M_open_146 : decode cc_M_open 146 = .ok (.putfield 42, 3) := by decide +kernel
theorem d_M_open_149 : decode cc_M_open 149 = .ok (.return_, 1) := by decide +kernel
theorem d_M_step_0 : decode cc_M_step 0 = .ok (.aload_n 0, 1) := by decide +kernel
theorem d_M_step_1 : decode cc_M_step 1 = .ok (.getfield 51, 3) := by decide +kernel
theorem d_M_step_4 : decode cc_M_step 4 = .ok (.aload_n 0, 1) := by decide +kernel
theorem d_M_step_5 : decode cc_M_step 5 = .ok (.getfield 45, 3) := by decide +kernel
theorem d_M_step_8 : decode cc_M_step 8 = .ok (.iaload, 1) := by decide +kernel
theorem d_M_step_9 : decode cc_M_step 9 = .ok (.istore_n 2, 1) := by decide +kernel
theorem d_M_step_10 : decode cc_M_step 10 = .ok (.aload_n 0, 1) := by decide +kernel
theorem d_M_step_11 : decode cc_M_step 11 = .ok (.iload_n 2, 1) := by decide +kernel
theorem d_M_step_12 : decode cc_M_step 12 = .ok (.invokevirtual 83, 3) := by decide +kernel
theorem d_M_step_15 : decode cc_M_step 15 = .ok (.istore_n 3, 1) := by decide +kernel
theorem d_M_step_16 : decode cc_M_step 16 = .ok (.iload_n 3, 1) := by decide +kernel
theorem d_M_step_17 : decode cc_M_step 17 = .ok (.bipush 38, 2) := by decide +kernel
theorem d_M_step_19 : decode cc_M_step 19 = .ok (.if_icmp .ne 68, 3) := by decide +kernel
theorem d_M_step_22 : decode cc_M_step 22 = .ok (.aload_n 0, 1) := by decide +kernel
theorem d_M_step_23 : decode cc_M_step 23 = .ok (.iload_n 2, 1) := by decide +kernel
theorem d_M_step_24 : decode cc_M_step 24 = .ok (.invokevirtual 102, 3) := by decide +kernel
theorem d_M_step_27 : decode cc_M_step 27 = .ok (.aload_n 0, 1) := by decide +kernel
theorem d_M_step_28 : decode cc_M_step 28 = .ok (.getfield 54, 3) := by decide +kernel
theorem d_M_step_31 : decode cc_M_step 31 = .ok (.ifCond .ne 24, 3) := by decide +kernel
theorem d_M_step_34 : decode cc_M_step 34 = .ok (.aload_n 0, 1) := by decide +kernel
theorem d_M_step_35 : decode cc_M_step 35 = .ok (.getfield 60, 3) := by decide +kernel
theorem d_M_step_38 : decode cc_M_step 38 = .ok (.iconst 1, 1) := by decide +kernel
theorem d_M_step_39 : decode cc_M_step 39 = .ok (.if_icmp .ne 16, 3) := by decide +kernel
theorem d_M_step_42 : decode cc_M_step 42 = .ok (.aload_n 0, 1) := by decide +kernel
theorem d_M_step_43 : decode cc_M_step 43 = .ok (.aload_n 0, 1) := by decide +kernel
theorem d_M_step_44 : decode cc_M_step 44 = .ok (.getfield 63, 3) := by decide +kernel
theorem d_M_step_47 : decode cc_M_step 47 = .ok (.iload_n 2, 1) := by decide +kernel
theorem d_M_step_48 : decode cc_M_step 48 = .ok (.iload_n 1, 1) := by decide +kernel
theorem d_M_step_49 : decode cc_M_step 49 = .ok (.invokevirtual 105, 3) := by decide +kernel
theorem d_M_step_52 : decode cc_M_step 52 = .ok (.goto 95, 3) := by decide +kernel
theorem d_M_step_55 : decode cc_M_step 55 = .ok (.aload_n 0, 1) := by decide +kernel
theorem d_M_step_56 : decode cc_M_step 56 = .ok (.getfield 54, 3) := by decide +kernel
theorem d_M_step_59 : decode cc_M_step 59 = .ok (.ifCond .ne 88, 3) := by decide +kernel
theorem d_M_step_62 : decode cc_M_step 62 = .ok (.aload_n 0, 1) := by decide +kernel
theorem d_M_step_63 : decode cc_M_step 63 = .ok (.aload_n 0, 1) := by decide +kernel
theorem d_M_step_64 : decode cc_M_step 64 = .ok (.getfield 63, 3) := by decide +kernel
theorem d_M_step_67 : decode cc_M_step 67 = .ok (.iload_n 2, 1) := by decide +kernel
theorem d_M_step_68 : decode cc_M_step 68 = .ok (.invokevirtual 109, 3) := by decide +kernel
theorem d_M_step_71 : decode cc_M_step 71 = .ok (.aload_n 0, 1) := by decide +kernel
theorem d_M_step_72 : decode cc_M_step 72 = .ok (.getfield 51, 3) := by decide +kernel
theorem d_M_step_75 : decode cc_M_step 75 = .ok (.aload_n 0, 1) := by decide +kernel
theorem d_M_step_76 : decode cc_M_step 76 = .ok (.getfield 45, 3) := by decide +kernel
theorem d_M_step_79 : decode cc_M_step 79 = .ok (.aload_n 0, 1) := by decide +kernel
theorem d_M_step_80 : decode cc_M_step 80 = .ok (.getfield 66, 3) := by decide +kernel
theorem d_M_step_83 : decode cc_M_step 83 = .ok (.iastore, 1) := by decide +kernel
theorem d_M_step_84 : decode cc_M_step 84 = .ok (.goto 63, 3) := by decide +kernel
theorem d_M_step_87 : decode cc_M_step 87 = .ok (.iload_n 3, 1) := by decide +kernel
theorem d_M_step_88 : decode cc_M_step 88 = .ok (.bipush 60, 2) := by decide +kernel
theorem d_M_step_90 : decode cc_M_step 90 = .ok (.if_icmp .ne 12, 3) := by decide +kernel
theorem d_M_step_93 : decode cc_M_step 93 = .ok (.aload_n 0, 1) := by decide +kernel
theorem d_M_step_94 : decode cc_M_step 94 = .ok (.iconst 4, 1) := by decide +kernel
theorem d_M_step_95 : decode cc_M_step 95 = .ok (.iload_n 2, 1) := by decide +kernel
theorem d_M_step_96 : decode cc_M_step 96 = .ok (.invokevirtual 79, 3) := by decide +kernel
theorem d_M_step_99 : decode cc_M_step 99 = .ok (.goto 48, 3) := by decide +kernel
theorem d_M_step_102 : decode cc_M_step 102 = .ok (.iload_n 3, 1) := by decide +kernel
theorem d_M_step_103 : decode cc_M_step 103 = .ok (.invokestatic 95, 3) := by decide +kernel
theorem d_M_step_106 : decode cc_M_step 106 = .ok (.ifCond .ne 12, 3) := by decide +kernel
theorem d_M_step_109 : decode cc_M_step 109 = .ok (.aload_n 0, 1) := by decide +kernel
theorem d_M_step_110 : decode cc_M_step 110 = .ok (.iconst 1, 1) := by decide +kernel
theorem d_M_step_111 : decode cc_M_step 111 = .ok (.iload_n 2, 1) := by decide +kernel
theorem d_M_step_112 : decode cc_M_step 112 = .ok (.invokevirtual 79, 3) := by decide +kernel
theorem d_M_step_115 : decode cc_M_step 115 = .ok (.goto 32, 3) := by decide +kernel
theorem d_M_step_118 : decode cc_M_step 118 = .ok (.aload_n 0, 1) := by decide +kernel
theorem d_M_step_119 : decode cc_M_step 119 = .ok (.iload_n 3, 1) := by decide +kernel
theorem d_M_step_120 : decode cc_M_step 120 = .ok (.bipush 32, 2) := by decide +kernel
theorem d_M_step_122 : decode cc_M_step 122 = .ok (.if_icmp .ge 8, 3) := by decide +kernel
theorem d_M_step_125 : decode cc_M_step 125 = .ok (.bipush 32, 2) := by decide +kernel
theorem d_M_step_127 : decode cc_M_step 127 = .ok (.goto 4, 3) := by decide +kernel
theorem d_M_step_130 : decode cc_M_step 130 = .ok (.iload_n 3, 1) := by decide +kernel
theorem d_M_step_131 : decode cc_M_step 131 = .ok (.iload_n 2, 1) := by decide +kernel
theorem d_M_step_132 : decode cc_M_step 132 = .ok (.invokevirtual 109, 3) := by decide +kernel
theorem d_M_step_135 : decode cc_M_step 135 = .ok (.aload_n 0, 1) := by decide +kernel
theorem d_M_step_136 : decode cc_M_step 136 = .ok (.getfield 51, 3) := by decide +kernel
theorem d_M_step_139 : decode cc_M_step 139 = .ok (.aload_n 0, 1) := by decide +kernel
theorem d_M_step_140 : decode cc_M_step 140 = .ok (.getfield 45, 3) := by decide +kernel
theorem d_M_step_143 : decode cc_M_step 143 = .ok (.iload_n 2, 1) := by decide +kernel
theorem d_M_step_144 : decode cc_M_step 144 = .ok (.iconst 1, 1) := by decide +kernel
theorem d_M_step_145 : decode cc_M_step 145 = .ok (.iadd, 1) := by decide +kernel
theorem d_M_step_146 : decode cc_M_step 146 = .ok (.iastore, 1) := by decide +kernel
theorem d_M_step_147 : decode cc_M_step 147 = .ok (.return_, 1) := by decide +kernel
theorem d_M_trim_0 : decode cc_M_trim 0 = .ok (.iconst 0, 1) := by decide +kernel
theorem d_M_trim_1 : decode cc_M_trim 1 = .ok (.istore_n 1, 1) := by decide +kernel
theorem d_M_trim_2 : decode cc_M_trim 2 = .ok (.iconst 0, 1) := by decide +kernel
theorem d_M_trim_3 : decode cc_M_trim 3 = .ok (.istore_n 2, 1) := by decide +kernel
theorem d_M_trim_4 : decode cc_M_trim 4 = .ok (.iload_n 2, 1) := by decide +kernel
theorem d_M_trim_5 : decode cc_M_trim 5 = .ok (.aload_n 0, 1) := by decide +kernel
theorem d_M_trim_6 : decode cc_M_trim 6 = .ok (.getfield 33, 3) := by decide +kernel
theorem d_M_trim_9 : decode cc_M_trim 9 = .ok (.if_icmp .ge 62, 3) := by decide +kernel
theorem d_M_trim_12 : decode cc_M_trim 12 = .ok (.aload_n 0, 1) := by decide +kernel
theorem d_M_trim_13 : decode cc_M_trim 13 = .ok (.getfield 30, 3) := by decide +kernel
theorem d_M_trim_16 : decode cc_M_trim 16 = .ok (.iload_n 2, 1) := by decide +kernel
theorem d_M_trim_17 : decode cc_M_trim 17 = .ok (.iaload, 1) := by decide +kernel
theorem d_M_trim_18 : decode cc_M_trim 18 = .ok (.bipush 32, 2) := by decide +kernel
theorem d_M_trim_20 : decode cc_M_trim 20 = .ok (.if_icmp .ne 7, 3) := by decide +kernel
theorem d_M_trim_23 : decode cc_M_trim 23 = .ok (.iconst 1, 1) := by decide +kernel
theorem d_M_trim_24 : decode cc_M_trim 24 = .ok (.goto 4, 3) := by decide +kernel
theorem d_M_trim_27 : decode cc_M_trim 27 = .ok (.iconst 0, 1) := by decide +kernel
theorem d_M_trim_28 : decode cc_M_trim 28 = .ok (.istore_n 3, 1) := by decide +kernel
theorem d_M_trim_29 : decode cc_M_trim 29 = .ok (.iload_n 3, 1) := by decide +kernel
theorem d_M_trim_30 : decode cc_M_trim 30 = .ok (.ifCond .eq 20, 3) := by decide +kernel
theorem d_M_trim_33 : decode cc_M_trim 33 = .ok (.iload_n 1, 1) := by decide +kernel
theorem d_M_trim_34 : decode cc_M_trim 34 = .ok (.ifCond .le 31, 3) := by decide +kernel
theorem d_M_trim_37 : decode cc_M_trim 37 = .ok (.aload_n 0, 1) := by decide +kernel
theorem d_M_trim_38 : decode cc_M_trim 38 = .ok (.getfield 30, 3) := by decide +kernel
theorem d_M_trim_41 : decode cc_M_trim 41 = .ok (.iload_n 1, 1) := by decide +kernel
theorem d_M_trim_42 : decode cc_M_trim 42 = .ok (.iconst 1, 1) := by decide +kernel
theorem d_M_trim_43 : decode cc_M_trim 43 = .ok (.isub, 1) := by decide +kernel
theorem d_M_trim_44 : decode cc_M_trim 44 = .ok (.iaload, 1) := by decide +kernel
theorem d_M_trim_45 : decode cc_M_trim 45 = .ok (.bipush 32, 2) := by decide +kernel
theorem d_M_trim_47 : decode cc_M_trim 47 = .ok (.if_icmp .eq 18, 3) := by decide +kernel
theorem d_M_trim_50 : decode cc_M_trim 50 = .ok (.aload_n 0, 1) := by decide +kernel
theorem d_M_trim_51 : decode cc_M_trim 51 = .ok (.getfield 30, 3) := by decide +kernel
theorem d_M_trim_54 : decode cc_M_trim 54 = .ok (.iload_n 1, 1) := by decide +kernel
theorem d_M_trim_55 : decode cc_M_trim 55 = .ok (.aload_n 0, 1) := by decide +kernel
theorem d_M_trim_56 : decode cc_M_trim 56 = .ok (.getfield 30, 3) := by decide +kernel
theorem d_M_trim_59 : decode cc_M_trim 59 = .ok (.iload_n 2, 1) := by decide +kernel
theorem d_M_trim_60 : decode cc_M_trim 60 = .ok (.iaload, 1) := by decide +kernel
theorem d_M_trim_61 : decode cc_M_trim 61 = .ok (.iastore, 1) := by decide +kernel
theorem d_M_trim_62 : decode cc_M_trim 62 = .ok (.iinc 1 1, 3) := by decide +kernel
theorem d_M_trim_65 : decode cc_M_trim 65 = .ok (.iinc 2 1, 3) := by decide +kernel
theorem d_M_trim_68 : decode cc_M_trim 68 = .ok (.goto (-64), 3) := by decide +kernel
theorem d_M_trim_71 : decode cc_M_trim 71 = .ok (.iload_n 1, 1) := by decide +kernel
theorem d_M_trim_72 : decode cc_M_trim 72 = .ok (.ifCond .le 19, 3) := by decide +kernel
theorem d_M_trim_75 : decode cc_M_trim 75 = .ok (.aload_n 0, 1) := by decide +kernel
theorem d_M_trim_76 : decode cc_M_trim 76 = .ok (.getfield 30, 3) := by decide +kernel
theorem d_M_trim_79 : decode cc_M_trim 79 = .ok (.iload_n 1, 1) := by decide +kernel
theorem d_M_trim_80 : decode cc_M_trim 80 = .ok (.iconst 1, 1) := by decide +kernel
theorem d_M_trim_81 : decode cc_M_trim 81 = .ok (.isub, 1) := by decide +kernel
theorem d_M_trim_82 : decode cc_M_trim 82 = .ok (.iaload, 1) := by decide +kernel
theorem d_M_trim_83 : decode cc_M_trim 83 = .ok (.bipush 32, 2) := by decide +kernel
theorem d_M_trim_85 : decode cc_M_trim 85 = .ok (.if_icmp .ne 6, 3) := by decide +kernel
theorem d_M_trim_88 : decode cc_M_trim 88 = .ok (.iinc 1 (-1), 3) := by decide +kernel
theorem d_M_trim_91 : decode cc_M_trim 91 = .ok (.aload_n 0, 1) := by decide +kernel
theorem d_M_trim_92 : decode cc_M_trim 92 = .ok (.iload_n 1, 1) := by decide +kernel
theorem d_M_trim_93 : decode cc_M_trim 93 = .ok (.putfield 33, 3) := by decide +kernel
theorem d_M_trim_96 : decode cc_M_trim 96 = .ok (.return_, 1) := by decide +kernel
theorem d_M_eight_0 : decode cc_M_eight 0 = .ok (.lconst 0, 1) := by decide +kernel
theorem d_M_eight_1 : decode cc_M_eight 1 = .ok (.lstore 4, 2) := by decide +kernel
theorem d_M_eight_3 : decode cc_M_eight 3 = .ok (.iconst 0, 1) := by decide +kernel
theorem d_M_eight_4 : decode cc_M_eight 4 = .ok (.istore 6, 2) := by decide +kernel
theorem d_M_eight_6 : decode cc_M_eight 6 = .ok (.iload 6, 2) := by decide +kernel
theorem d_M_eight_8 : decode cc_M_eight 8 = .ok (.bipush 8, 2) := by decide +kernel
theorem d_M_eight_10 : decode cc_M_eight 10 = .ok (.if_icmp .ge 38, 3) := by decide +kernel
theorem d_M_eight_13 : decode cc_M_eight 13 = .ok (.lload 4, 2) := by decide +kernel
theorem d_M_eight_15 : decode cc_M_eight 15 = .ok (.bipush 8, 2) := by decide +kernel
theorem d_M_eight_17 : decode cc_M_eight 17 = .ok (.lshl, 1) := by decide +kernel
theorem d_M_eight_18 : decode cc_M_eight 18 = .ok (.iload_n 3, 1) := by decide +kernel
theorem d_M_eight_19 : decode cc_M_eight 19 = .ok (.iload_n 2, 1) := by decide +kernel
theorem d_M_eight_20 : decode cc_M_eight 20 = .ok (.iload 6, 2) := by decide +kernel
theorem d_M_eight_22 : decode cc_M_eight 22 = .ok (.isub, 1) := by decide +kernel
theorem d_M_eight_23 : decode cc_M_eight 23 = .ok (.if_icmp .ge 14, 3) := by decide +kernel
theorem d_M_eight_26 : decode cc_M_eight 26 = .ok (.aload_n 0, 1) := by decide +kernel
theorem d_M_eight_27 : decode cc_M_eight 27 = .ok (.iload_n 1, 1) := by decide +kernel
theorem d_M_eight_28 : decode cc_M_eight 28 = .ok (.iload_n 3, 1) := by decide +kernel
theorem d_M_eight_29 : decode cc_M_eight 29 = .ok (.iadd, 1) := by decide +kernel
theorem d_M_eight_30 : decode cc_M_eight 30 = .ok (.iload 6, 2) := by decide +kernel
theorem d_M_eight_32 : decode cc_M_eight 32 = .ok (.iadd, 1) := by decide +kernel
theorem d_M_eight_33 : decode cc_M_eight 33 = .ok (.iaload, 1) := by decide +kernel
theorem d_M_eight_34 : decode cc_M_eight 34 = .ok (.goto 4, 3) := by decide +kernel
theorem d_M_eight_37 : decode cc_M_eight 37 = .ok (.iconst 0, 1) := by decide +kernel
theorem d_M_eight_38 : decode cc_M_eight 38 = .ok (.i2l, 1) := by decide +kernel
theorem d_M_eight_39 : decode cc_M_eight 39 = .ok (.lor, 1) := by decide +kernel
theorem d_M_eight_40 : decode cc_M_eight 40 = .ok (.lstore 4, 2) := by decide +kernel
theorem d_M_eight_42 : decode cc_M_eight 42 = .ok (.iinc 6 1, 3) := by decide +kernel
theorem d_M_eight_45 : decode cc_M_eight 45 = .ok (.goto (-39), 3) := by decide +kernel
theorem d_M_eight_48 : decode cc_M_eight 48 = .ok (.lload 4, 2) := by decide +kernel
theorem d_M_eight_50 : decode cc_M_eight 50 = .ok (.lreturn, 1) := by decide +kernel
theorem d_M_put_0 : decode cc_M_put 0 = .ok (.aload_n 0, 1) := by decide +kernel
theorem d_M_put_1 : decode cc_M_put 1 = .ok (.iconst 0, 1) := by decide +kernel
theorem d_M_put_2 : decode cc_M_put 2 = .ok (.putfield 7, 3) := by decide +kernel
theorem d_M_put_5 : decode cc_M_put 5 = .ok (.iload_n 3, 1) := by decide +kernel
theorem d_M_put_6 : decode cc_M_put 6 = .ok (.iconst 1, 1) := by decide +kernel
theorem d_M_put_7 : decode cc_M_put 7 = .ok (.if_icmp .lt 21, 3) := by decide +kernel
theorem d_M_put_10 : decode cc_M_put 10 = .ok (.iload_n 3, 1) := by decide +kernel
theorem d_M_put_11 : decode cc_M_put 11 = .ok (.bipush 8, 2) := by decide +kernel
theorem d_M_put_13 : decode cc_M_put 13 = .ok (.if_icmp .gt 15, 3) := by decide +kernel
theorem d_M_put_16 : decode cc_M_put 16 = .ok (.aload_n 0, 1) := by decide +kernel
theorem d_M_put_17 : decode cc_M_put 17 = .ok (.getfield 17, 3) := by decide +kernel
theorem d_M_put_20 : decode cc_M_put 20 = .ok (.iload_n 3, 1) := by decide +kernel
theorem d_M_put_21 : decode cc_M_put 21 = .ok (.iadd, 1) := by decide +kernel
theorem d_M_put_22 : decode cc_M_put 22 = .ok (.sipush 200, 3) := by decide +kernel
theorem d_M_put_25 : decode cc_M_put 25 = .ok (.if_icmp .le 5, 3) := by decide +kernel
theorem d_M_put_28 : decode cc_M_put 28 = .ok (.iconst 0, 1) := by decide +kernel
theorem d_M_put_29 : decode cc_M_put 29 = .ok (.ireturn, 1) := by decide +kernel
theorem d_M_put_30 : decode cc_M_put 30 = .ok (.iload_n 3, 1) := by decide +kernel
theorem d_M_put_31 : decode cc_M_put 31 = .ok (.iconst 1, 1) := by decide +kernel
theorem d_M_put_32 : decode cc_M_put 32 = .ok (.isub, 1) := by decide +kernel
theorem d_M_put_33 : decode cc_M_put 33 = .ok (.istore 4, 2) := by decide +kernel
theorem d_M_put_35 : decode cc_M_put 35 = .ok (.iload 4, 2) := by decide +kernel
theorem d_M_put_37 : decode cc_M_put 37 = .ok (.ifCond .lt 40, 3) := by decide +kernel
theorem d_M_put_40 : decode cc_M_put 40 = .ok (.aload_n 0, 1) := by decide +kernel
theorem d_M_put_41 : decode cc_M_put 41 = .ok (.getfield 13, 3) := by decide +kernel
theorem d_M_put_44 : decode cc_M_put 44 = .ok (.aload_n 0, 1) := by decide +kernel
theorem d_M_put_45 : decode cc_M_put 45 = .ok (.getfield 17, 3) := by decide +kernel
theorem d_M_put_48 : decode cc_M_put 48 = .ok (.lload_n 1, 1) := by decide +kernel
theorem d_M_put_49 : decode cc_M_put 49 = .ok (.bipush 8, 2) := by decide +kernel
theorem d_M_put_51 : decode cc_M_put 51 = .ok (.iload 4, 2) := by decide +kernel
theorem d_M_put_53 : decode cc_M_put 53 = .ok (.imul, 1) := by decide +kernel
theorem d_M_put_54 : decode cc_M_put 54 = .ok (.lushr, 1) := by decide +kernel
theorem d_M_put_55 : decode cc_M_put 55 = .ok (.l2i, 1) := by decide +kernel
theorem d_M_put_56 : decode cc_M_put 56 = .ok (.sipush 255, 3) := by decide +kernel
theorem d_M_put_59 : decode cc_M_put 59 = .ok (.iand, 1) := by decide +kernel
theorem d_M_put_60 : decode cc_M_put 60 = .ok (.iastore, 1) := by decide +kernel
theorem d_M_put_61 : decode cc_M_put 61 = .ok (.aload_n 0, 1) := by decide +kernel
theorem d_M_put_62 : decode cc_M_put 62 = .ok (.dup, 1) := by decide +kernel
theorem d_M_put_63 : decode cc_M_put 63 = .ok (.getfield 17, 3) := by decide +kernel
theorem d_M_put_66 : decode cc_M_put 66 = .ok (.iconst 1, 1) := by decide +kernel
theorem d_M_put_67 : decode cc_M_put 67 = .ok (.iadd, 1) := by decide +kernel
theorem d_M_put_68 : decode cc_M_put 68 = .ok (.putfield 17, 3) := by decide +kernel
theorem d_M_put_71 : decode cc_M_put 71 = .ok (.iinc 4 (-1), 3) := by decide +kernel
theorem d_M_put_74 : decode cc_M_put 74 = .ok (.goto (-39), 3) := by decide +kernel
theorem d_M_put_77 : decode cc_M_put 77 = .ok (.iconst 1, 1) := by decide +kernel
theorem d_M_put_78 : decode cc_M_put 78 = .ok (.ireturn, 1) := by decide +kernel
theorem d_M_begin_0 : decode cc_M_begin 0 = .ok (.aload_n 0, 1) := by decide +kernel
theorem d_M_begin_1 : decode cc_M_begin 1 = .ok (.iconst 0, 1) := by decide +kernel
theorem d_M_begin_2 : decode cc_M_begin 2 = .ok (.putfield 54, 3) := by decide +kernel
theorem d_M_begin_5 : decode cc_M_begin 5 = .ok (.aload_n 0, 1) := by decide +kernel
theorem d_M_begin_6 : decode cc_M_begin 6 = .ok (.iconst (-1), 1) := by decide +kernel
theorem d_M_begin_7 : decode cc_M_begin 7 = .ok (.putfield 36, 3) := by decide +kernel
theorem d_M_begin_10 : decode cc_M_begin 10 = .ok (.aload_n 0, 1) := by decide +kernel
theorem d_M_begin_11 : decode cc_M_begin 11 = .ok (.iconst 0, 1) := by decide +kernel
theorem d_M_begin_12 : decode cc_M_begin 12 = .ok (.putfield 45, 3) := by decide +kernel
theorem d_M_begin_15 : decode cc_M_begin 15 = .ok (.aload_n 0, 1) := by decide +kernel
theorem d_M_begin_16 : decode cc_M_begin 16 = .ok (.getfield 51, 3) := by decide +kernel
theorem d_M_begin_19 : decode cc_M_begin 19 = .ok (.iconst 0, 1) := by decide +kernel
theorem d_M_begin_20 : decode cc_M_begin 20 = .ok (.iconst 0, 1) := by decide +kernel
theorem d_M_begin_21 : decode cc_M_begin 21 = .ok (.iastore, 1) := by decide +kernel
theorem d_M_begin_22 : decode cc_M_begin 22 = .ok (.return_, 1) := by decide +kernel
theorem d_M_defining_0 : decode cc_M_defining 0 = .ok (.aload_n 0, 1) := by decide +kernel
theorem d_M_defining_1 : decode cc_M_defining 1 = .ok (.getfield 72, 3) := by decide +kernel
theorem d_M_defining_4 : decode cc_M_defining 4 = .ok (.bipush 100, 2) := by decide +kernel
theorem d_M_defining_6 : decode cc_M_defining 6 = .ok (.if_icmp .lt 18, 3) := by decide +kernel
theorem d_M_defining_9 : decode cc_M_defining 9 = .ok (.aload_n 0, 1) := by decide +kernel
theorem d_M_defining_10 : decode cc_M_defining 10 = .ok (.getfield 54, 3) := by decide +kernel
theorem d_M_defining_13 : decode cc_M_defining 13 = .ok (.ifCond .ne 10, 3) := by decide +kernel
theorem d_M_defining_16 : decode cc_M_defining 16 = .ok (.aload_n 0, 1) := by decide +kernel
theorem d_M_defining_17 : decode cc_M_defining 17 = .ok (.bipush 8, 2) := by decide +kernel
theorem d_M_defining_19 : decode cc_M_defining 19 = .ok (.iload_n 2, 1) := by decide +kernel
theorem d_M_defining_20 : decode cc_M_defining 20 = .ok (.invokevirtual 79, 3) := by decide +kernel
theorem d_M_defining_23 : decode cc_M_defining 23 = .ok (.return_, 1) := by decide +kernel
theorem d_M_defining_24 : decode cc_M_defining 24 = .ok (.aload_n 0, 1) := by decide +kernel
theorem d_M_defining_25 : decode cc_M_defining 25 = .ok (.getfield 69, 3) := by decide +kernel
theorem d_M_defining_28 : decode cc_M_defining 28 = .ok (.aload_n 0, 1) := by decide +kernel
theorem d_M_defining_29 : decode cc_M_defining 29 = .ok (.getfield 72, 3) := by decide +kernel
theorem d_M_defining_32 : decode cc_M_defining 32 = .ok (.iload_n 1, 1) := by decide +kernel
theorem d_M_defining_33 : decode cc_M_defining 33 = .ok (.iastore, 1) := by decide +kernel
theorem d_M_defining_34 : decode cc_M_defining 34 = .ok (.aload_n 0, 1) := by decide +kernel
theorem d_M_defining_35 : decode cc_M_defining 35 = .ok (.dup, 1) := by decide +kernel
theorem d_M_defining_36 : decode cc_M_defining 36 = .ok (.getfield 72, 3) := by decide +kernel
theorem d_M_defining_39 : decode cc_M_defining 39 = .ok (.iconst 1, 1) := by decide +kernel
theorem d_M_defining_40 : decode cc_M_defining 40 = .ok (.iadd, 1) := by decide +kernel
theorem d_M_defining_41 : decode cc_M_defining 41 = .ok (.putfield 72, 3) := by decide +kernel
theorem d_M_defining_44 : decode cc_M_defining 44 = .ok (.return_, 1) := by decide +kernel
theorem d_M_define_0 : decode cc_M_define 0 = .ok (.aload_n 0, 1) := by decide +kernel
theorem d_M_define_1 : decode cc_M_define 1 = .ok (.iconst 0, 1) := by decide +kernel
theorem d_M_define_2 : decode cc_M_define 2 = .ok (.putfield 7, 3) := by decide +kernel
theorem d_M_define_5 : decode cc_M_define 5 = .ok (.iload_n 1, 1) := by decide +kernel
theorem d_M_define_6 : decode cc_M_define 6 = .ok (.ifCond .lt 9, 3) := by decide +kernel
theorem d_M_define_9 : decode cc_M_define 9 = .ok (.iload_n 1, 1) := by decide +kernel
theorem d_M_define_10 : decode cc_M_define 10 = .ok (.bipush 25, 2) := by decide +kernel
theorem d_M_define_12 : decode cc_M_define 12 = .ok (.if_icmp .le 6, 3) := by decide +kernel
theorem d_M_define_15 : decode cc_M_define 15 = .ok (.bipush (-10), 2) := by decide +kernel
theorem d_M_define_17 : decode cc_M_define 17 = .ok (.ireturn, 1) := by decide +kernel
theorem d_M_define_18 : decode cc_M_define 18 = .ok (.aload_n 0, 1) := by decide +kernel
theorem d_M_define_19 : decode cc_M_define 19 = .ok (.invokevirtual 112, 3) := by decide +kernel
theorem d_M_define_22 : decode cc_M_define 22 = .ok (.aload_n 0, 1) := by decide +kernel
theorem d_M_define_23 : decode cc_M_define 23 = .ok (.iconst 0, 1) := by decide +kernel
theorem d_M_define_24 : decode cc_M_define 24 = .ok (.putfield 72, 3) := by decide +kernel
theorem d_M_define_27 : decode cc_M_define 27 = .ok (.iconst 0, 1) := by decide +kernel
theorem d_M_define_28 : decode cc_M_define 28 = .ok (.istore_n 2, 1) := by decide +kernel
theorem d_M_define_29 : decode cc_M_define 29 = .ok (.iload_n 2, 1) := by decide +kernel
theorem d_M_define_30 : decode cc_M_define 30 = .ok (.aload_n 0, 1) := by decide +kernel
theorem d_M_define_31 : decode cc_M_define 31 = .ok (.getfield 17, 3) := by decide +kernel
theorem d_M_define_34 : decode cc_M_define 34 = .ok (.if_icmp .ge 127, 3) := by decide +kernel
theorem d_M_define_37 : decode cc_M_define 37 = .ok (.aload_n 0, 1) := by decide +kernel
theorem d_M_define_38 : decode cc_M_define 38 = .ok (.getfield 54, 3) := by decide +kernel
theorem d_M_define_41 : decode cc_M_define 41 = .ok (.ifCond .ne 120, 3) := by decide +kernel
theorem d_M_define_44 : decode cc_M_define 44 = .ok (.aload_n 0, 1) := by decide +kernel
theorem d_M_define_45 : decode cc_M_define 45 = .ok (.getfield 13, 3) := by decide +kernel
theorem d_M_define_48 : decode cc_M_define 48 = .ok (.iload_n 2, 1) := by decide +kernel
theorem d_M_define_49 : decode cc_M_define 49 = .ok (.iaload, 1) := by decide +kernel
theorem d_M_define_50 : decode cc_M_define 50 = .ok (.istore_n 3, 1) := by decide +kernel
theorem d_M_define_51 : decode cc_M_define 51 = .ok (.iload_n 3, 1) := by decide +kernel
theorem d_M_define_52 : decode cc_M_define 52 = .ok (.bipush 38, 2) := by decide +kernel
theorem d_M_define_54 : decode cc_M_define 54 = .ok (.if_icmp .ne 79, 3) := by decide +kernel
theorem d_M_define_57 : decode cc_M_define 57 = .ok (.aload_n 0, 1) := by decide +kernel
theorem d_M_define_58 : decode cc_M_define 58 = .ok (.iload_n 2, 1) := by decide +kernel
theorem d_M_define_59 : decode cc_M_define 59 = .ok (.invokevirtual 102, 3) := by decide +kernel
theorem d_M_define_62 : decode cc_M_define 62 = .ok (.aload_n 0, 1) := by decide +kernel
theorem d_M_define_63 : decode cc_M_define 63 = .ok (.getfield 54, 3) := by decide +kernel
theorem d_M_define_66 : decode cc_M_define 66 = .ok (.ifCond .ne 23, 3) := by decide +kernel
theorem d_M_define_69 : decode cc_M_define 69 = .ok (.aload_n 0, 1) := by decide +kernel
theorem d_M_define_70 : decode cc_M_define 70 = .ok (.getfield 60, 3) := by decide +kernel
theorem d_M_define_73 : decode cc_M_define 73 = .ok (.iconst 2, 1) := by decide +kernel
theorem d_M_define_74 : decode cc_M_define 74 = .ok (.if_icmp .ne 15, 3) := by decide +kernel
theorem d_M_define_77 : decode cc_M_define 77 = .ok (.aload_n 0, 1) := by decide +kernel
theorem d_M_define_78 : decode cc_M_define 78 = .ok (.aload_n 0, 1) := by decide +kernel
theorem d_M_define_79 : decode cc_M_define 79 = .ok (.getfield 63, 3) := by decide +kernel
theorem d_M_define_82 : decode cc_M_define 82 = .ok (.iload_n 2, 1) := by decide +kernel
theorem d_M_define_83 : decode cc_M_define 83 = .ok (.invokevirtual 115, 3) := by decide +kernel
theorem d_M_define_86 : decode cc_M_define 86 = .ok (.goto 39, 3) := by decide +kernel
theorem d_M_define_89 : decode cc_M_define 89 = .ok (.aload_n 0, 1) := by decide +kernel
theorem d_M_define_90 : decode cc_M_define 90 = .ok (.getfield 54, 3) := by decide +kernel
theorem d_M_define_93 : decode cc_M_define 93 = .ok (.ifCond .ne 32, 3) := by decide +kernel
theorem d_M_define_96 : decode cc_M_define 96 = .ok (.iconst 0, 1) := by decide +kernel
theorem d_M_define_97 : decode cc_M_define 97 = .ok (.istore 4, 2) := by decide +kernel
theorem d_M_define_99 : decode cc_M_define 99 = .ok (.iload 4, 2) := by decide +kernel
theorem d_M_define_101 : decode cc_M_define 101 = .ok (.iconst 3, 1) := by decide +kernel
theorem d_M_define_102 : decode cc_M_define 102 = .ok (.if_icmp .ge 23, 3) := by decide +kernel
theorem d_M_define_105 : decode cc_M_define 105 = .ok (.aload_n 0, 1) := by decide +kernel
theorem d_M_define_106 : decode cc_M_define 106 = .ok (.aload_n 0, 1) := by decide +kernel
theorem d_M_define_107 : decode cc_M_define 107 = .ok (.getfield 13, 3) := by decide +kernel
theorem d_M_define_110 : decode cc_M_define 110 = .ok (.iload_n 2, 1) := by decide +kernel
theorem d_M_define_111 : decode cc_M_define 111 = .ok (.iload 4, 2) := by decide +kernel
theorem d_M_define_113 : decode cc_M_define 113 = .ok (.iadd, 1) := by decide +kernel
theorem d_M_define_114 : decode cc_M_define 114 = .ok (.iaload, 1) := by decide +kernel
theorem d_M_define_115 : decode cc_M_define 115 = .ok (.iload_n 2, 1) := by decide +kernel
theorem d_M_define_116 : decode cc_M_define 116 = .ok (.invokevirtual 115, 3) := by decide +kernel
theorem d_M_define_119 : decode cc_M_define 119 = .ok (.iinc 4 1, 3) := by decide +kernel
theorem d_M_define_122 : decode cc_M_define 122 = .ok (.goto (-23), 3) := by decide +kernel
theorem d_M_define_125 : decode cc_M_define 125 = .ok (.aload_n 0, 1) := by decide +kernel
theorem d_M_define_126 : decode cc_M_define 126 = .ok (.getfield 66, 3) := by decide +kernel
theorem d_M_define_129 : decode cc_M_define 129 = .ok (.istore_n 2, 1) := by decide +kernel
theorem d_M_define_130 : decode cc_M_define 130 = .ok (.goto 28, 3) := by decide +kernel
theorem d_M_define_133 : decode cc_M_define 133 = .ok (.iload_n 3, 1) := by decide +kernel
theorem d_M_define_134 : decode cc_M_define 134 = .ok (.invokestatic 95, 3) := by decide +kernel
theorem d_M_define_137 : decode cc_M_define 137 = .ok (.ifCond .ne 12, 3) := by decide +kernel
theorem d_M_define_140 : decode cc_M_define 140 = .ok (.aload_n 0, 1) := by decide +kernel
theorem d_M_define_141 : decode cc_M_define 141 = .ok (.iconst 1, 1) := by decide +kernel
theorem d_M_define_142 : decode cc_M_define 142 = .ok (.iload_n 2, 1) := by decide +kernel
theorem d_M_define_143 : decode cc_M_define 143 = .ok (.invokevirtual 79, 3) := by decide +kernel
theorem d_M_define_146 : decode cc_M_define 146 = .ok (.goto 12, 3) := by decide +kernel
theorem d_M_define_149 : decode cc_M_define 149 = .ok (.aload_n 0, 1) := by decide +kernel
theorem d_M_define_150 : decode cc_M_define 150 = .ok (.iload_n 3, 1) := by decide +kernel
theorem d_M_define_151 : decode cc_M_define 151 = .ok (.iload_n 2, 1) := by decide +kernel
theorem d_M_define_152 : decode cc_M_define 152 = .ok (.invokevirtual 115, 3) := by decide +kernel
theorem d_M_define_155 : decode cc_M_define 155 = .ok (.iinc 2 1, 3) := by decide +kernel
theorem d_M_define_158 : decode cc_M_define 158 = .ok (.goto (-129), 3) := by decide +kernel
theorem d_M_define_161 : decode cc_M_define 161 = .ok (.aload_n 0, 1) := by decide +kernel
theorem d_M_define_162 : decode cc_M_define 162 = .ok (.iconst 0, 1) := by decide +kernel
theorem d_M_define_163 : decode cc_M_define 163 = .ok (.putfield 17, 3) := by decide +kernel
theorem d_M_define_166 : decode cc_M_define 166 = .ok (.aload_n 0, 1) := by decide +kernel
theorem d_M_define_167 : decode cc_M_define 167 = .ok (.getfield 54, 3) := by decide +kernel
theorem d_M_define_170 : decode cc_M_define 170 = .ok (.ifCond .le 9, 3) := by decide +kernel
theorem d_M_define_173 : decode cc_M_define 173 = .ok (.aload_n 0, 1) := by decide +kernel
theorem d_M_define_174 : decode cc_M_define 174 = .ok (.getfield 54, 3) := by decide +kernel
theorem d_M_define_177 : decode cc_M_define 177 = .ok (.ineg, 1) := by decide +kernel
theorem d_M_define_178 : decode cc_M_define 178 = .ok (.ireturn, 1) := by decide +kernel
theorem d_M_define_179 : decode cc_M_define 179 = .ok (.aload_n 0, 1) := by decide +kernel
theorem d_M_define_180 : decode cc_M_define 180 = .ok (.getfield 20, 3) := by decide +kernel
theorem d_M_define_183 : decode cc_M_define 183 = .ok (.iload_n 1, 1) := by decide +kernel
theorem d_M_define_184 : decode cc_M_define 184 = .ok (.baload, 1) := by decide +kernel
theorem d_M_define_185 : decode cc_M_define 185 = .ok (.ifCond .eq 6, 3) := by decide +kernel
theorem d_M_define_188 : decode cc_M_define 188 = .ok (.bipush (-9), 2) := by decide +kernel
theorem d_M_define_190 : decode cc_M_define 190 = .ok (.ireturn, 1) := by decide +kernel
theorem d_M_define_191 : decode cc_M_define 191 = .ok (.aload_n 0, 1) := by decide +kernel
theorem d_M_define_192 : decode cc_M_define 192 = .ok (.getfield 20, 3) := by decide +kernel
theorem d_M_define_195 : decode cc_M_define 195 = .ok (.iload_n 1, 1) := by decide +kernel
theorem d_M_define_196 : decode cc_M_define 196 = .ok (.iconst 1, 1) := by decide +kernel
theorem d_M_define_197 : decode cc_M_define 197 = .ok (.bastore, 1) := by decide +kernel
theorem d_M_define_198 : decode cc_M_define 198 = .ok (.aload_n 0, 1) := by decide +kernel
theorem d_M_define_199 : decode cc_M_define 199 = .ok (.getfield 24, 3) := by decide +kernel
theorem d_M_define_202 : decode cc_M_define 202 = .ok (.iload_n 1, 1) := by decide +kernel
theorem d_M_define_203 : decode cc_M_define 203 = .ok (.aload_n 0, 1) := by decide +kernel
theorem d_M_define_204 : decode cc_M_define 204 = .ok (.getfield 72, 3) := by decide +kernel
theorem d_M_define_207 : decode cc_M_define 207 = .ok (.iastore, 1) := by decide +kernel
theorem d_M_define_208 : decode cc_M_define 208 = .ok (.iconst 0, 1) := by decide +kernel
theorem d_M_define_209 : decode cc_M_define 209 = .ok (.istore_n 3, 1) := by decide +kernel
theorem d_M_define_210 : decode cc_M_define 210 = .ok (.iload_n 3, 1) := by decide +kernel
theorem d_M_define_211 : decode cc_M_define 211 = .ok (.aload_n 0, 1) := by decide +kernel
theorem d_M_define_212 : decode cc_M_define 212 = .ok (.getfield 72, 3) := by decide +kernel
theorem d_M_define_215 : decode cc_M_define 215 = .ok (.if_icmp .ge 26, 3) := by decide +kernel
theorem d_M_define_218 : decode cc_M_define 218 = .ok (.aload_n 0, 1) := by decide +kernel
theorem d_M_define_219 : decode cc_M_define 219 = .ok (.getfield 27, 3) := by decide +kernel
theorem d_M_define_222 : decode cc_M_define 222 = .ok (.bipush 100, 2) := by decide +kernel
theorem d_M_define_224 : decode cc_M_define 224 = .ok (.iload_n 1, 1) := by decide +kernel
theorem d_M_define_225 : decode cc_M_define 225 = .ok (.imul, 1) := by decide +kernel
theorem d_M_define_226 : decode cc_M_define 226 = .ok (.iload_n 3, 1) := by decide +kernel
theorem d_M_define_227 : decode cc_M_define 227 = .ok (.iadd, 1) := by decide +kernel
theorem d_M_define_228 : decode cc_M_define 228 = .ok (.aload_n 0, 1) := by decide +kernel
theorem d_M_define_229 : decode cc_M_define 229 = .ok (.getfield 69, 3) := by decide +kernel
theorem d_M_define_232 : decode cc_M_define 232 = .ok (.iload_n 3, 1) := by decide +kernel
theorem d_M_define_233 : decode cc_M_define 233 = .ok (.iaload, 1) := by decide +kernel
theorem d_M_define_234 : decode cc_M_define 234 = .ok (.iastore, 1) := by decide +kernel
theorem d_M_define_235 : decode cc_M_define 235 = .ok (.iinc 3 1, 3) := by decide +kernel
theorem d_M_define_238 : decode cc_M_define 238 = .ok (.goto (-28), 3) := by decide +kernel
theorem d_M_define_241 : decode cc_M_define 241 = .ok (.aload_n 0, 1) := by decide +kernel
theorem d_M_define_242 : decode cc_M_define 242 = .ok (.getfield 72, 3) := by decide +kernel
theorem d_M_define_245 : decode cc_M_define 245 = .ok (.ireturn, 1) := by decide +kernel
theorem d_M_value_0 : decode cc_M_value 0 = .ok (.aload_n 0, 1) := by decide +kernel
theorem d_M_value_1 : decode cc_M_value 1 = .ok (.iconst 0, 1) := by decide +kernel
theorem d_M_value_2 : decode cc_M_value 2 = .ok (.putfield 7, 3) := by decide +kernel
theorem d_M_value_5 : decode cc_M_value 5 = .ok (.iload_n 1, 1) := by decide +kernel
theorem d_M_value_6 : decode cc_M_value 6 = .ok (.ifCond .lt 18, 3) := by decide +kernel
theorem d_M_value_9 : decode cc_M_value 9 = .ok (.iload_n 1, 1) := by decide +kernel
theorem d_M_value_10 : decode cc_M_value 10 = .ok (.iconst 1, 1) := by decide +kernel
theorem d_M_value_11 : decode cc_M_value 11 = .ok (.if_icmp .gt 13, 3) := by decide +kernel
theorem d_M_value_14 : decode cc_M_value 14 = .ok (.iload_n 2, 1) := by decide +kernel
theorem d_M_value_15 : decode cc_M_value 15 = .ok (.ifCond .lt 9, 3) := by decide +kernel
theorem d_M_value_18 : decode cc_M_value 18 = .ok (.iload_n 2, 1) := by decide +kernel
theorem d_M_value_19 : decode cc_M_value 19 = .ok (.ldc 118, 2) := by decide +kernel
theorem d_M_value_21 : decode cc_M_value 21 = .ok (.if_icmp .le 6, 3) := by decide +kernel
theorem d_M_value_24 : decode cc_M_value 24 = .ok (.bipush (-10), 2) := by decide +kernel
theorem d_M_value_26 : decode cc_M_value 26 = .ok (.ireturn, 1) := by decide +kernel
theorem d_M_value_27 : decode cc_M_value 27 = .ok (.aload_n 0, 1) := by decide +kernel
theorem d_M_value_28 : decode cc_M_value 28 = .ok (.invokevirtual 112, 3) := by decide +kernel
theorem d_M_value_31 : decode cc_M_value 31 = .ok (.aload_n 0, 1) := by decide +kernel
theorem d_M_value_32 : decode cc_M_value 32 = .ok (.iconst 0, 1) := by decide +kernel
theorem d_M_value_33 : decode cc_M_value 33 = .ok (.putfield 33, 3) := by decide +kernel
theorem d_M_value_36 : decode cc_M_value 36 = .ok (.aload_n 0, 1) := by decide +kernel
theorem d_M_value_37 : decode cc_M_value 37 = .ok (.iconst 0, 1) := by decide +kernel
theorem d_M_value_38 : decode cc_M_value 38 = .ok (.putfield 39, 3) := by decide +kernel
theorem d_M_value_41 : decode cc_M_value 41 = .ok (.aload_n 0, 1) := by decide +kernel
theorem d_M_value_42 : decode cc_M_value 42 = .ok (.iconst 0, 1) := by decide +kernel
theorem d_M_value_43 : decode cc_M_value 43 = .ok (.putfield 42, 3) := by decide +kernel
theorem d_M_value_46 : decode cc_M_value 46 = .ok (.iconst 1, 1) := by decide +kernel
theorem d_M_value_47 : decode cc_M_value 47 = .ok (.istore_n 3, 1) := by decide +kernel
theorem d_M_value_48 : decode cc_M_value 48 = .ok (.iload_n 3, 1) := by decide +kernel
theorem d_M_value_49 : decode cc_M_value 49 = .ok (.ifCond .eq 59, 3) := by decide +kernel
theorem d_M_value_52 : decode cc_M_value 52 = .ok (.aload_n 0, 1) := by decide +kernel
theorem d_M_value_53 : decode cc_M_value 53 = .ok (.getfield 54, 3) := by decide +kernel
theorem d_M_value_56 : decode cc_M_value 56 = .ok (.ifCond .ne 52, 3) := by decide +kernel
theorem d_M_value_59 : decode cc_M_value 59 = .ok (.aload_n 0, 1) := by decide +kernel
theorem d_M_value_60 : decode cc_M_value 60 = .ok (.getfield 51, 3) := by decide +kernel
theorem d_M_value_63 : decode cc_M_value 63 = .ok (.aload_n 0, 1) := by decide +kernel
theorem d_M_value_64 : decode cc_M_value 64 = .ok (.getfield 45, 3) := by decide +kernel
theorem d_M_value_67 : decode cc_M_value 67 = .ok (.iaload, 1) := by decide +kernel
theorem d_M_value_68 : decode cc_M_value 68 = .ok (.aload_n 0, 1) := by decide +kernel
theorem d_M_value_69 : decode cc_M_value 69 = .ok (.invokevirtual 75, 3) := by decide +kernel
theorem d_M_value_72 : decode cc_M_value 72 = .ok (.if_icmp .ge 11, 3) := by decide +kernel
theorem d_M_value_75 : decode cc_M_value 75 = .ok (.aload_n 0, 1) := by decide +kernel
theorem d_M_value_76 : decode cc_M_value 76 = .ok (.iload_n 2, 1) := by decide +kernel
theorem d_M_value_77 : decode cc_M_value 77 = .ok (.invokevirtual 119, 3) := by decide +kernel
theorem d_M_value_80 : decode cc_M_value 80 = .ok (.goto (-32), 3) := by decide +kernel
theorem d_M_value_83 : decode cc_M_value 83 = .ok (.aload_n 0, 1) := by decide +kernel
theorem d_M_value_84 : decode cc_M_value 84 = .ok (.getfield 45, 3) := by decide +kernel
theorem d_M_value_87 : decode cc_M_value 87 = .ok (.ifCond .le 16, 3) := by decide +kernel
theorem d_M_value_90 : decode cc_M_value 90 = .ok (.aload_n 0, 1) := by decide +kernel
theorem d_M_value_91 : decode cc_M_value 91 = .ok (.dup, 1) := by decide +kernel
theorem d_M_value_92 : decode cc_M_value 92 = .ok (.getfield 45, 3) := by decide +kernel
theorem d_M_value_95 : decode cc_M_value 95 = .ok (.iconst 1, 1) := by decide +kernel
theorem d_M_value_96 : decode cc_M_value 96 = .ok (.isub, 1) := by decide +kernel
theorem d_M_value_97 : decode cc_M_value 97 = .ok (.putfield 45, 3) := by decide +kernel
theorem d_M_value_100 : decode cc_M_value 100 = .ok (.goto (-52), 3) := by decide +kernel
theorem d_M_value_103 : decode cc_M_value 103 = .ok (.iconst 0, 1) := by decide +kernel
theorem d_M_value_104 : decode cc_M_value 104 = .ok (.istore_n 3, 1) := by decide +kernel
theorem d_M_value_105 : decode cc_M_value 105 = .ok (.goto (-57), 3) := by decide +kernel
theorem d_M_value_108 : decode cc_M_value 108 = .ok (.aload_n 0, 1) := by decide +kernel
theorem d_M_value_109 : decode cc_M_value 109 = .ok (.iconst 0, 1) := by decide +kernel
theorem d_M_value_110 : decode cc_M_value 110 = .ok (.putfield 17, 3) := by decide +kernel
theorem d_M_value_113 : decode cc_M_value 113 = .ok (.aload_n 0, 1) := by decide +kernel
theorem d_M_value_114 : decode cc_M_value 114 = .ok (.iconst 0, 1) := by decide +kernel
theorem d_M_value_115 : decode cc_M_value 115 = .ok (.putfield 45, 3) := by decide +kernel
theorem d_M_value_118 : decode cc_M_value 118 = .ok (.aload_n 0, 1) := by decide +kernel
theorem d_M_value_119 : decode cc_M_value 119 = .ok (.getfield 54, 3) := by decide +kernel
theorem d_M_value_122 : decode cc_M_value 122 = .ok (.ifCond .le 14, 3) := by decide +kernel
theorem d_M_value_125 : decode cc_M_value 125 = .ok (.aload_n 0, 1) := by decide +kernel
theorem d_M_value_126 : decode cc_M_value 126 = .ok (.iconst 0, 1) := by decide +kernel
theorem d_M_value_127 : decode cc_M_value 127 = .ok (.putfield 33, 3) := by decide +kernel
theorem d_M_value_130 : decode cc_M_value 130 = .ok (.aload_n 0, 1) := by decide +kernel
theorem d_M_value_131 : decode cc_M_value 131 = .ok (.getfield 54, 3) := by decide +kernel
theorem d_M_value_134 : decode cc_M_value 134 = .ok (.ineg, 1) := by decide +kernel
theorem d_M_value_135 : decode cc_M_value 135 = .ok (.ireturn, 1) := by decide +kernel
theorem d_M_value_136 : decode cc_M_value 136 = .ok (.iload_n 1, 1) := by decide +kernel
theorem d_M_value_137 : decode cc_M_value 137 = .ok (.iconst 1, 1) := by decide +kernel
theorem d_M_value_138 : decode cc_M_value 138 = .ok (.if_icmp .ne 7, 3) := by decide +kernel
theorem d_M_value_141 : decode cc_M_value 141 = .ok (.aload_n 0, 1) := by decide +kernel
theorem d_M_value_142 : decode cc_M_value 142 = .ok (.invokevirtual 122, 3) := by decide +kernel
theorem d_M_value_145 : decode cc_M_value 145 = .ok (.aload_n 0, 1) := by decide +kernel
theorem d_M_value_146 : decode cc_M_value 146 = .ok (.getfield 33, 3) := by decide +kernel
theorem d_M_value_149 : decode cc_M_value 149 = .ok (.ireturn, 1) := by decide +kernel
theorem d_M_place_0 : decode cc_M_place 0 = .ok (.aload_n 0, 1) := by decide +kernel
theorem d_M_place_1 : decode cc_M_place 1 = .ok (.iconst 0, 1) := by decide +kernel
theorem d_M_place_2 : decode cc_M_place 2 = .ok (.putfield 7, 3) := by decide +kernel
theorem d_M_place_5 : decode cc_M_place 5 = .ok (.aload_n 0, 1) := by decide +kernel
theorem d_M_place_6 : decode cc_M_place 6 = .ok (.getfield 36, 3) := by decide +kernel
theorem d_M_place_9 : decode cc_M_place 9 = .ok (.ireturn, 1) := by decide +kernel
theorem d_M_characters_0 : decode cc_M_characters 0 = .ok (.aload_n 0, 1) := by decide +kernel
theorem d_M_characters_1 : decode cc_M_characters 1 = .ok (.iconst 0, 1) := by decide +kernel
theorem d_M_characters_2 : decode cc_M_characters 2 = .ok (.putfield 7, 3) := by decide +kernel
theorem d_M_characters_5 : decode cc_M_characters 5 = .ok (.iload_n 1, 1) := by decide +kernel
theorem d_M_characters_6 : decode cc_M_characters 6 = .ok (.ifCond .ge 9, 3) := by decide +kernel
theorem d_M_characters_9 : decode cc_M_characters 9 = .ok (.ldc2_w 125, 3) := by decide +kernel
theorem d_M_characters_12 : decode cc_M_characters 12 = .ok (.goto 16, 3) := by decide +kernel
theorem d_M_characters_15 : decode cc_M_characters 15 = .ok (.aload_n 0, 1) := by decide +kernel
theorem d_M_characters_16 : decode cc_M_characters 16 = .ok (.getfield 30, 3) := by decide +kernel
theorem d_M_characters_19 : decode cc_M_characters 19 = .ok (.iconst 0, 1) := by decide +kernel
theorem d_M_characters_20 : decode cc_M_characters 20 = .ok (.aload_n 0, 1) := by decide +kernel
theorem d_M_characters_21 : decode cc_M_characters 21 = .ok (.getfield 33, 3) := by decide +kernel
theorem d_M_characters_24 : decode cc_M_characters 24 = .ok (.iload_n 1, 1) := by decide +kernel
theorem d_M_characters_25 : decode cc_M_characters 25 = .ok (.invokestatic 127, 3) := by decide +kernel
theorem d_M_characters_28 : decode cc_M_characters 28 = .ok (.lreturn, 1) := by decide +kernel
theorem d_M_text_0 : decode cc_M_text 0 = .ok (.aload_n 0, 1) := by decide +kernel
theorem d_M_text_1 : decode cc_M_text 1 = .ok (.iconst 0, 1) := by decide +kernel
theorem d_M_text_2 : decode cc_M_text 2 = .ok (.putfield 7, 3) := by decide +kernel
theorem d_M_text_5 : decode cc_M_text 5 = .ok (.iload_n 2, 1) := by decide +kernel
theorem d_M_text_6 : decode cc_M_text 6 = .ok (.ifCond .lt 13, 3) := by decide +kernel
theorem d_M_text_9 : decode cc_M_text 9 = .ok (.iload_n 1, 1) := by decide +kernel
theorem d_M_text_10 : decode cc_M_text 10 = .ok (.ifCond .lt 9, 3) := by decide +kernel
theorem d_M_text_13 : decode cc_M_text 13 = .ok (.iload_n 1, 1) := by decide +kernel
theorem d_M_text_14 : decode cc_M_text 14 = .ok (.bipush 25, 2) := by decide +kernel
theorem d_M_text_16 : decode cc_M_text 16 = .ok (.if_icmp .le 7, 3) := by decide +kernel
theorem d_M_text_19 : decode cc_M_text 19 = .ok (.ldc2_w 125, 3) := by decide +kernel
theorem d_M_text_22 : decode cc_M_text 22 = .ok (.lreturn, 1) := by decide +kernel
theorem d_M_text_23 : decode cc_M_text 23 = .ok (.aload_n 0, 1) := by decide +kernel
theorem d_M_text_24 : decode cc_M_text 24 = .ok (.getfield 20, 3) := by decide +kernel
theorem d_M_text_27 : decode cc_M_text 27 = .ok (.iload_n 1, 1) := by decide +kernel
theorem d_M_text_28 : decode cc_M_text 28 = .ok (.baload, 1) := by decide +kernel
theorem d_M_text_29 : decode cc_M_text 29 = .ok (.ifCond .eq 24, 3) := by decide +kernel
theorem d_M_text_32 : decode cc_M_text 32 = .ok (.aload_n 0, 1) := by decide +kernel
theorem d_M_text_33 : decode cc_M_text 33 = .ok (.getfield 27, 3) := by decide +kernel
theorem d_M_text_36 : decode cc_M_text 36 = .ok (.bipush 100, 2) := by decide +kernel
theorem d_M_text_38 : decode cc_M_text 38 = .ok (.iload_n 1, 1) := by decide +kernel
theorem d_M_text_39 : decode cc_M_text 39 = .ok (.imul, 1) := by decide +kernel
theorem d_M_text_40 : decode cc_M_text 40 = .ok (.aload_n 0, 1) := by decide +kernel
theorem d_M_text_41 : decode cc_M_text 41 = .ok (.getfield 24, 3) := by decide +kernel
theorem d_M_text_44 : decode cc_M_text 44 = .ok (.iload_n 1, 1) := by decide +kernel
theorem d_M_text_45 : decode cc_M_text 45 = .ok (.iaload, 1) := by decide +kernel
theorem d_M_text_46 : decode cc_M_text 46 = .ok (.iload_n 2, 1) := by decide +kernel
theorem d_M_text_47 : decode cc_M_text 47 = .ok (.invokestatic 127, 3) := by decide +kernel
theorem d_M_text_50 : decode cc_M_text 50 = .ok (.goto 6, 3) := by decide +kernel
theorem d_M_text_53 : decode cc_M_text 53 = .ok (.ldc2_w 125, 3) := by decide +kernel
theorem d_M_text_56 : decode cc_M_text 56 = .ok (.lreturn, 1) := by decide +kernel
theorem d_M_known_0 : decode cc_M_known 0 = .ok (.iconst 0, 1) := by decide +kernel
theorem d_M_known_1 : decode cc_M_known 1 = .ok (.istore_n 1, 1) := by decide +kernel
theorem d_M_known_2 : decode cc_M_known 2 = .ok (.iconst 0, 1) := by decide +kernel
theorem d_M_known_3 : decode cc_M_known 3 = .ok (.istore_n 2, 1) := by decide +kernel
theorem d_M_known_4 : decode cc_M_known 4 = .ok (.iload_n 2, 1) := by decide +kernel
theorem d_M_known_5 : decode cc_M_known 5 = .ok (.bipush 26, 2) := by decide +kernel
theorem d_M_known_7 : decode cc_M_known 7 = .ok (.if_icmp .ge 26, 3) := by decide +kernel
theorem d_M_known_10 : decode cc_M_known 10 = .ok (.iload_n 1, 1) := by decide +kernel
theorem d_M_known_11 : decode cc_M_known 11 = .ok (.aload_n 0, 1) := by decide +kernel
theorem d_M_known_12 : decode cc_M_known 12 = .ok (.getfield 20, 3) := by decide +kernel
theorem d_M_known_15 : decode cc_M_known 15 = .ok (.iload_n 2, 1) := by decide +kernel
theorem d_M_known_16 : decode cc_M_known 16 = .ok (.baload, 1) := by decide +kernel
theorem d_M_known_17 : decode cc_M_known 17 = .ok (.ifCond .eq 7, 3) := by decide +kernel
theorem d_M_known_20 : decode cc_M_known 20 = .ok (.iconst 1, 1) := by decide +kernel
theorem d_M_known_21 : decode cc_M_known 21 = .ok (.goto 4, 3) := by decide +kernel
theorem d_M_known_24 : decode cc_M_known 24 = .ok (.iconst 0, 1) := by decide +kernel
theorem d_M_known_25 : decode cc_M_known 25 = .ok (.iadd, 1) := by decide +kernel
theorem d_M_known_26 : decode cc_M_known 26 = .ok (.istore_n 1, 1) := by decide +kernel
theorem d_M_known_27 : decode cc_M_known 27 = .ok (.iinc 2 1, 3) := by decide +kernel
theorem d_M_known_30 : decode cc_M_known 30 = .ok (.goto (-26), 3) := by decide +kernel
theorem d_M_known_33 : decode cc_M_known 33 = .ok (.iload_n 1, 1) := by decide +kernel
theorem d_M_known_34 : decode cc_M_known 34 = .ok (.ireturn, 1) := by decide +kernel
theorem d_M_clear_0 : decode cc_M_clear 0 = .ok (.aload_n 0, 1) := by decide +kernel
theorem d_M_clear_1 : decode cc_M_clear 1 = .ok (.iconst 0, 1) := by decide +kernel
theorem d_M_clear_2 : decode cc_M_clear 2 = .ok (.putfield 7, 3) := by decide +kernel
theorem d_M_clear_5 : decode cc_M_clear 5 = .ok (.aload_n 0, 1) := by decide +kernel
theorem d_M_clear_6 : decode cc_M_clear 6 = .ok (.invokevirtual 131, 3) := by decide +kernel
theorem d_M_clear_9 : decode cc_M_clear 9 = .ok (.istore_n 1, 1) := by decide +kernel
theorem d_M_clear_10 : decode cc_M_clear 10 = .ok (.iconst 0, 1) := by decide +kernel
theorem d_M_clear_11 : decode cc_M_clear 11 = .ok (.istore_n 2, 1) := by decide +kernel
theorem d_M_clear_12 : decode cc_M_clear 12 = .ok (.iload_n 2, 1) := by decide +kernel
theorem d_M_clear_13 : decode cc_M_clear 13 = .ok (.bipush 26, 2) := by decide +kernel
theorem d_M_clear_15 : decode cc_M_clear 15 = .ok (.if_icmp .ge 16, 3) := by decide +kernel
theorem d_M_clear_18 : decode cc_M_clear 18 = .ok (.aload_n 0, 1) := by decide +kernel
theorem d_M_clear_19 : decode cc_M_clear 19 = .ok (.getfield 20, 3) := by decide +kernel
theorem d_M_clear_22 : decode cc_M_clear 22 = .ok (.iload_n 2, 1) := by decide +kernel
theorem d_M_clear_23 : decode cc_M_clear 23 = .ok (.iconst 0, 1) := by decide +kernel
theorem d_M_clear_24 : decode cc_M_clear 24 = .ok (.bastore, 1) := by decide +kernel
theorem d_M_clear_25 : decode cc_M_clear 25 = .ok (.iinc 2 1, 3) := by decide +kernel
theorem d_M_clear_28 : decode cc_M_clear 28 = .ok (.goto (-16), 3) := by decide +kernel
theorem d_M_clear_31 : decode cc_M_clear 31 = .ok (.iload_n 1, 1) := by decide +kernel
theorem d_M_clear_32 : decode cc_M_clear 32 = .ok (.ireturn, 1) := by decide +kernel
theorem d_M_count_0 : decode cc_M_count 0 = .ok (.aload_n 0, 1) := by decide +kernel
theorem d_M_count_1 : decode cc_M_count 1 = .ok (.iconst 0, 1) := by decide +kernel
theorem d_M_count_2 : decode cc_M_count 2 = .ok (.putfield 7, 3) := by decide +kernel
theorem d_M_count_5 : decode cc_M_count 5 = .ok (.iload_n 1, 1) := by decide +kernel
theorem d_M_count_6 : decode cc_M_count 6 = .ok (.ifCond .ne 10, 3) := by decide +kernel
theorem d_M_count_9 : decode cc_M_count 9 = .ok (.aload_n 0, 1) := by decide +kernel
theorem d_M_count_10 : decode cc_M_count 10 = .ok (.getfield 17, 3) := by decide +kernel
theorem d_M_count_13 : decode cc_M_count 13 = .ok (.goto 52, 3) := by decide +kernel
theorem d_M_count_16 : decode cc_M_count 16 = .ok (.iload_n 1, 1) := by decide +kernel
theorem d_M_count_17 : decode cc_M_count 17 = .ok (.iconst 1, 1) := by decide +kernel
theorem d_M_count_18 : decode cc_M_count 18 = .ok (.if_icmp .ne 10, 3) := by decide +kernel
theorem d_M_count_21 : decode cc_M_count 21 = .ok (.aload_n 0, 1) := by decide +kernel
theorem d_M_count_22 : decode cc_M_count 22 = .ok (.invokevirtual 131, 3) := by decide +kernel
theorem d_M_count_25 : decode cc_M_count 25 = .ok (.goto 40, 3) := by decide +kernel
theorem d_M_count_28 : decode cc_M_count 28 = .ok (.iload_n 1, 1) := by decide +kernel
theorem d_M_count_29 : decode cc_M_count 29 = .ok (.iconst 2, 1) := by decide +kernel
theorem d_M_count_30 : decode cc_M_count 30 = .ok (.if_icmp .ne 10, 3) := by decide +kernel
theorem d_M_count_33 : decode cc_M_count 33 = .ok (.aload_n 0, 1) := by decide +kernel
theorem d_M_count_34 : decode cc_M_count 34 = .ok (.getfield 33, 3) := by decide +kernel
theorem d_M_count_37 : decode cc_M_count 37 = .ok (.goto 28, 3) := by decide +kernel
theorem d_M_count_40 : decode cc_M_count 40 = .ok (.iload_n 1, 1) := by decide +kernel
theorem d_M_count_41 : decode cc_M_count 41 = .ok (.iconst 3, 1) := by decide +kernel
theorem d_M_count_42 : decode cc_M_count 42 = .ok (.if_icmp .ne 10, 3) := by decide +kernel
theorem d_M_count_45 : decode cc_M_count 45 = .ok (.aload_n 0, 1) := by decide +kernel
theorem d_M_count_46 : decode cc_M_count 46 = .ok (.getfield 39, 3) := by decide +kernel
theorem d_M_count_49 : decode cc_M_count 49 = .ok (.goto 16, 3) := by decide +kernel
theorem d_M_count_52 : decode cc_M_count 52 = .ok (.iload_n 1, 1) := by decide +kernel
theorem d_M_count_53 : decode cc_M_count 53 = .ok (.iconst 4, 1) := by decide +kernel
theorem d_M_count_54 : decode cc_M_count 54 = .ok (.if_icmp .ne 10, 3) := by decide +kernel
theorem d_M_count_57 : decode cc_M_count 57 = .ok (.aload_n 0, 1) := by decide +kernel
theorem d_M_count_58 : decode cc_M_count 58 = .ok (.getfield 42, 3) := by decide +kernel
theorem d_M_count_61 : decode cc_M_count 61 = .ok (.goto 4, 3) := by decide +kernel
theorem d_M_count_64 : decode cc_M_count 64 = .ok (.iconst (-1), 1) := by decide +kernel
theorem d_M_count_65 : decode cc_M_count 65 = .ok (.ireturn, 1) := by decide +kernel
end
section
theorem d_L_law_0 : decode code 0 = .ok (.new 7, 3) := by decide +kernel
theorem d_L_law_3 : decode code 3 = .ok (.dup, 1) := by decide +kernel
theorem d_L_law_4 : decode code 4 = .ok (.invokespecial 9, 3) := by decide +kernel
theorem d_L_law_7 : decode code 7 = .ok (.astore_n 1, 1) := by decide +kernel
theorem d_L_law_8 : decode code 8 = .ok (.new 10, 3) := by decide +kernel
theorem d_L_law_11 : decode code 11 = .ok (.dup, 1) := by decide +kernel
theorem d_L_law_12 : decode code 12 = .ok (.invokespecial 12, 3) := by decide +kernel
theorem d_L_law_15 : decode code 15 = .ok (.astore_n 2, 1) := by decide +kernel
theorem d_L_law_16 : decode code 16 = .ok (.iconst 0, 1) := by decide +kernel
theorem d_L_law_17 : decode code 17 = .ok (.istore_n 3, 1) := by decide +kernel
theorem d_L_law_18 : decode code 18 = .ok (.iload_n 3, 1) := by decide +kernel
theorem d_L_law_19 : decode code 19 = .ok (.aload_n 0, 1) := by decide +kernel
theorem d_L_law_20 : decode code 20 = .ok (.arraylength, 1) := by decide +kernel
theorem d_L_law_21 : decode code 21 = .ok (.iconst 4, 1) := by decide +kernel
theorem d_L_law_22 : decode code 22 = .ok (.isub, 1) := by decide +kernel
theorem d_L_law_23 : decode code 23 = .ok (.if_icmp .gt 289, 3) := by decide +kernel
theorem d_L_law_26 : decode code 26 = .ok (.aload_n 0, 1) := by decide +kernel
theorem d_L_law_27 : decode code 27 = .ok (.iload_n 3, 1) := by decide +kernel
theorem d_L_law_28 : decode code 28 = .ok (.iaload, 1) := by decide +kernel
theorem d_L_law_29 : decode code 29 = .ok (.bipush 7, 2) := by decide +kernel
theorem d_L_law_31 : decode code 31 = .ok (.iand, 1) := by decide +kernel
theorem d_L_law_32 : decode code 32 = .ok (.tableswitch 274 0 7 #[48, 111, 134, 167, 180, 204, 238, 251], 48) := by decide +kernel
theorem d_L_law_80 : decode code 80 = .ok (.aload_n 1, 1) := by decide +kernel
theorem d_L_law_81 : decode code 81 = .ok (.aload_n 0, 1) := by decide +kernel
theorem d_L_law_82 : decode code 82 = .ok (.iload_n 3, 1) := by decide +kernel
theorem d_L_law_83 : decode code 83 = .ok (.iconst 1, 1) := by decide +kernel
theorem d_L_law_84 : decode code 84 = .ok (.iadd, 1) := by decide +kernel
theorem d_L_law_85 : decode code 85 = .ok (.iaload, 1) := by decide +kernel
theorem d_L_law_86 : decode code 86 = .ok (.i2l, 1) := by decide +kernel
theorem d_L_law_87 : decode code 87 = .ok (.bipush 32, 2) := by decide +kernel
theorem d_L_law_89 : decode code 89 = .ok (.lshl, 1) := by decide +kernel
theorem d_L_law_90 : decode code 90 = .ok (.aload_n 0, 1) := by decide +kernel
theorem d_L_law_91 : decode code 91 = .ok (.iload_n 3, 1) := by decide +kernel
theorem d_L_law_92 : decode code 92 = .ok (.iconst 2, 1) := by decide +kernel
theorem d_L_law_93 : decode code 93 = .ok (.iadd, 1) := by decide +kernel
theorem d_L_law_94 : decode code 94 = .ok (.iaload, 1) := by decide +kernel
theorem d_L_law_95 : decode code 95 = .ok (.i2l, 1) := by decide +kernel
theorem d_L_law_96 : decode code 96 = .ok (.ldc2_w 13, 3) := by decide +kernel
theorem d_L_law_99 : decode code 99 = .ok (.land, 1) := by decide +kernel
theorem d_L_law_100 : decode code 100 = .ok (.lor, 1) := by decide +kernel
theorem d_L_law_101 : decode code 101 = .ok (.aload_n 0, 1) := by decide +kernel
theorem d_L_law_102 : decode code 102 = .ok (.iload_n 3, 1) := by decide +kernel
theorem d_L_law_103 : decode code 103 = .ok (.iconst 3, 1) := by decide +kernel
theorem d_L_law_104 : decode code 104 = .ok (.iadd, 1) := by decide +kernel
theorem d_L_law_105 : decode code 105 = .ok (.iaload, 1) := by decide +kernel
theorem d_L_law_106 : decode code 106 = .ok (.invokevirtual 15, 3) := by decide +kernel
theorem d_L_law_109 : decode code 109 = .ok (.aload_n 2, 1) := by decide +kernel
theorem d_L_law_110 : decode code 110 = .ok (.aload_n 0, 1) := by decide +kernel
theorem d_L_law_111 : decode code 111 = .ok (.iload_n 3, 1) := by decide +kernel
theorem d_L_law_112 : decode code 112 = .ok (.iconst 1, 1) := by decide +kernel
theorem d_L_law_113 : decode code 113 = .ok (.iadd, 1) := by decide +kernel
theorem d_L_law_114 : decode code 114 = .ok (.iaload, 1) := by decide +kernel
theorem d_L_law_115 : decode code 115 = .ok (.i2l, 1) := by decide +kernel
theorem d_L_law_116 : decode code 116 = .ok (.bipush 32, 2) := by decide +kernel
theorem d_L_law_118 : decode code 118 = .ok (.lshl, 1) := by decide +kernel
theorem d_L_law_119 : decode code 119 = .ok (.aload_n 0, 1) := by decide +kernel
theorem d_L_law_120 : decode code 120 = .ok (.iload_n 3, 1) := by decide +kernel
theorem d_L_law_121 : decode code 121 = .ok (.iconst 2, 1) := by decide +kernel
theorem d_L_law_122 : decode code 122 = .ok (.iadd, 1) := by decide +kernel
theorem d_L_law_123 : decode code 123 = .ok (.iaload, 1) := by decide +kernel
theorem d_L_law_124 : decode code 124 = .ok (.i2l, 1) := by decide +kernel
theorem d_L_law_125 : decode code 125 = .ok (.ldc2_w 13, 3) := by decide +kernel
theorem d_L_law_128 : decode code 128 = .ok (.land, 1) := by decide +kernel
theorem d_L_law_129 : decode code 129 = .ok (.lor, 1) := by decide +kernel
theorem d_L_law_130 : decode code 130 = .ok (.aload_n 0, 1) := by decide +kernel
theorem d_L_law_131 : decode code 131 = .ok (.iload_n 3, 1) := by decide +kernel
theorem d_L_law_132 : decode code 132 = .ok (.iconst 3, 1) := by decide +kernel
theorem d_L_law_133 : decode code 133 = .ok (.iadd, 1) := by decide +kernel
theorem d_L_law_134 : decode code 134 = .ok (.iaload, 1) := by decide +kernel
theorem d_L_law_135 : decode code 135 = .ok (.invokevirtual 19, 3) := by decide +kernel
theorem d_L_law_138 : decode code 138 = .ok (.if_icmp .eq 168, 3) := by decide +kernel
theorem d_L_law_141 : decode code 141 = .ok (.iconst 0, 1) := by decide +kernel
theorem d_L_law_142 : decode code 142 = .ok (.ireturn, 1) := by decide +kernel
theorem d_L_law_143 : decode code 143 = .ok (.aload_n 1, 1) := by decide +kernel
theorem d_L_law_144 : decode code 144 = .ok (.aload_n 0, 1) := by decide +kernel
theorem d_L_law_145 : decode code 145 = .ok (.iload_n 3, 1) := by decide +kernel
theorem d_L_law_146 : decode code 146 = .ok (.iconst 1, 1) := by decide +kernel
theorem d_L_law_147 : decode code 147 = .ok (.iadd, 1) := by decide +kernel
theorem d_L_law_148 : decode code 148 = .ok (.iaload, 1) := by decide +kernel
theorem d_L_law_149 : decode code 149 = .ok (.invokevirtual 20, 3) := by decide +kernel
theorem d_L_law_152 : decode code 152 = .ok (.aload_n 2, 1) := by decide +kernel
theorem d_L_law_153 : decode code 153 = .ok (.aload_n 0, 1) := by decide +kernel
theorem d_L_law_154 : decode code 154 = .ok (.iload_n 3, 1) := by decide +kernel
theorem d_L_law_155 : decode code 155 = .ok (.iconst 1, 1) := by decide +kernel
theorem d_L_law_156 : decode code 156 = .ok (.iadd, 1) := by decide +kernel
theorem d_L_law_157 : decode code 157 = .ok (.iaload, 1) := by decide +kernel
theorem d_L_law_158 : decode code 158 = .ok (.invokevirtual 24, 3) := by decide +kernel
theorem d_L_law_161 : decode code 161 = .ok (.if_icmp .eq 145, 3) := by decide +kernel
theorem d_L_law_164 : decode code 164 = .ok (.iconst 0, 1) := by decide +kernel
theorem d_L_law_165 : decode code 165 = .ok (.ireturn, 1) := by decide +kernel
theorem d_L_law_166 : decode code 166 = .ok (.aload_n 1, 1) := by decide +kernel
theorem d_L_law_167 : decode code 167 = .ok (.aload_n 0, 1) := by decide +kernel
theorem d_L_law_168 : decode code 168 = .ok (.iload_n 3, 1) := by decide +kernel
theorem d_L_law_169 : decode code 169 = .ok (.iconst 1, 1) := by decide +kernel
theorem d_L_law_170 : decode code 170 = .ok (.iadd, 1) := by decide +kernel
theorem d_L_law_171 : decode code 171 = .ok (.iaload, 1) := by decide +kernel
theorem d_L_law_172 : decode code 172 = .ok (.aload_n 0, 1) := by decide +kernel
theorem d_L_law_173 : decode code 173 = .ok (.iload_n 3, 1) := by decide +kernel
theorem d_L_law_174 : decode code 174 = .ok (.iconst 2, 1) := by decide +kernel
theorem d_L_law_175 : decode code 175 = .ok (.iadd, 1) := by decide +kernel
theorem d_L_law_176 : decode code 176 = .ok (.iaload, 1) := by decide +kernel
theorem d_L_law_177 : decode code 177 = .ok (.invokevirtual 25, 3) := by decide +kernel
theorem d_L_law_180 : decode code 180 = .ok (.aload_n 2, 1) := by decide +kernel
theorem d_L_law_181 : decode code 181 = .ok (.aload_n 0, 1) := by decide +kernel
theorem d_L_law_182 : decode code 182 = .ok (.iload_n 3, 1) := by decide +kernel
theorem d_L_law_183 : decode code 183 = .ok (.iconst 1, 1) := by decide +kernel
theorem d_L_law_184 : decode code 184 = .ok (.iadd, 1) := by decide +kernel
theorem d_L_law_185 : decode code 185 = .ok (.iaload, 1) := by decide +kernel
theorem d_L_law_186 : decode code 186 = .ok (.aload_n 0, 1) := by decide +kernel
theorem d_L_law_187 : decode code 187 = .ok (.iload_n 3, 1) := by decide +kernel
theorem d_L_law_188 : decode code 188 = .ok (.iconst 2, 1) := by decide +kernel
theorem d_L_law_189 : decode code 189 = .ok (.iadd, 1) := by decide +kernel
theorem d_L_law_190 : decode code 190 = .ok (.iaload, 1) := by decide +kernel
theorem d_L_law_191 : decode code 191 = .ok (.invokevirtual 29, 3) := by decide +kernel
theorem d_L_law_194 : decode code 194 = .ok (.if_icmp .eq 112, 3) := by decide +kernel
theorem d_L_law_197 : decode code 197 = .ok (.iconst 0, 1) := by decide +kernel
theorem d_L_law_198 : decode code 198 = .ok (.ireturn, 1) := by decide +kernel
theorem d_L_law_199 : decode code 199 = .ok (.aload_n 1, 1) := by decide +kernel
theorem d_L_law_200 : decode code 200 = .ok (.invokevirtual 30, 3) := by decide +kernel
theorem d_L_law_203 : decode code 203 = .ok (.aload_n 2, 1) := by decide +kernel
theorem d_L_law_204 : decode code 204 = .ok (.invokevirtual 34, 3) := by decide +kernel
theorem d_L_law_207 : decode code 207 = .ok (.if_icmp .eq 99, 3) := by decide +kernel
theorem d_L_law_210 : decode code 210 = .ok (.iconst 0, 1) := by decide +kernel
theorem d_L_law_211 : decode code 211 = .ok (.ireturn, 1) := by decide +kernel
theorem d_L_law_212 : decode code 212 = .ok (.aload_n 1, 1) := by decide +kernel
theorem d_L_law_213 : decode code 213 = .ok (.aload_n 0, 1) := by decide +kernel
theorem d_L_law_214 : decode code 214 = .ok (.iload_n 3, 1) := by decide +kernel
theorem d_L_law_215 : decode code 215 = .ok (.iconst 1, 1) := by decide +kernel
theorem d_L_law_216 : decode code 216 = .ok (.iadd, 1) := by decide +kernel
theorem d_L_law_217 : decode code 217 = .ok (.iaload, 1) := by decide +kernel
theorem d_L_law_218 : decode code 218 = .ok (.invokevirtual 35, 3) := by decide +kernel
theorem d_L_law_221 : decode code 221 = .ok (.aload_n 2, 1) := by decide +kernel
theorem d_L_law_222 : decode code 222 = .ok (.aload_n 0, 1) := by decide +kernel
theorem d_L_law_223 : decode code 223 = .ok (.iload_n 3, 1) := by decide +kernel
theorem d_L_law_224 : decode code 224 = .ok (.iconst 1, 1) := by decide +kernel
theorem d_L_law_225 : decode code 225 = .ok (.iadd, 1) := by decide +kernel
theorem d_L_law_226 : decode code 226 = .ok (.iaload, 1) := by decide +kernel
theorem d_L_law_227 : decode code 227 = .ok (.invokevirtual 39, 3) := by decide +kernel
theorem d_L_law_230 : decode code 230 = .ok (.lcmp, 1) := by decide +kernel
theorem d_L_law_231 : decode code 231 = .ok (.ifCond .eq 75, 3) := by decide +kernel
theorem d_L_law_234 : decode code 234 = .ok (.iconst 0, 1) := by decide +kernel
theorem d_L_law_235 : decode code 235 = .ok (.ireturn, 1) := by decide +kernel
theorem d_L_law_236 : decode code 236 = .ok (.aload_n 1, 1) := by decide +kernel
theorem d_L_law_237 : decode code 237 = .ok (.aload_n 0, 1) := by decide +kernel
theorem d_L_law_238 : decode code 238 = .ok (.iload_n 3, 1) := by decide +kernel
theorem d_L_law_239 : decode code 239 = .ok (.iconst 1, 1) := by decide +kernel
theorem d_L_law_240 : decode code 240 = .ok (.iadd, 1) := by decide +kernel
theorem d_L_law_241 : decode code 241 = .ok (.iaload, 1) := by decide +kernel
theorem d_L_law_242 : decode code 242 = .ok (.aload_n 0, 1) := by decide +kernel
theorem d_L_law_243 : decode code 243 = .ok (.iload_n 3, 1) := by decide +kernel
theorem d_L_law_244 : decode code 244 = .ok (.iconst 2, 1) := by decide +kernel
theorem d_L_law_245 : decode code 245 = .ok (.iadd, 1) := by decide +kernel
theorem d_L_law_246 : decode code 246 = .ok (.iaload, 1) := by decide +kernel
theorem d_L_law_247 : decode code 247 = .ok (.invokevirtual 40, 3) := by decide +kernel
theorem d_L_law_250 : decode code 250 = .ok (.aload_n 2, 1) := by decide +kernel
theorem d_L_law_251 : decode code 251 = .ok (.aload_n 0, 1) := by decide +kernel
theorem d_L_law_252 : decode code 252 = .ok (.iload_n 3, 1) := by decide +kernel
theorem d_L_law_253 : decode code 253 = .ok (.iconst 1, 1) := by decide +kernel
theorem d_L_law_254 : decode code 254 = .ok (.iadd, 1) := by decide +kernel
theorem d_L_law_255 : decode code 255 = .ok (.iaload, 1) := by decide +kernel
theorem d_L_law_256 : decode code 256 = .ok (.aload_n 0, 1) := by decide +kernel
theorem d_L_law_257 : decode code 257 = .ok (.iload_n 3, 1) := by decide +kernel
theorem d_L_law_258 : decode code 258 = .ok (.iconst 2, 1) := by decide +kernel
theorem d_L_law_259 : decode code 259 = .ok (.iadd, 1) := by decide +kernel
theorem d_L_law_260 : decode code 260 = .ok (.iaload, 1) := by decide +kernel
theorem d_L_law_261 : decode code 261 = .ok (.invokevirtual 44, 3) := by decide +kernel
theorem d_L_law_264 : decode code 264 = .ok (.lcmp, 1) := by decide +kernel
theorem d_L_law_265 : decode code 265 = .ok (.ifCond .eq 41, 3) := by decide +kernel
theorem d_L_law_268 : decode code 268 = .ok (.iconst 0, 1) := by decide +kernel
theorem d_L_law_269 : decode code 269 = .ok (.ireturn, 1) := by decide +kernel
theorem d_L_law_270 : decode code 270 = .ok (.aload_n 1, 1) := by decide +kernel
theorem d_L_law_271 : decode code 271 = .ok (.invokevirtual 45, 3) := by decide +kernel
theorem d_L_law_274 : decode code 274 = .ok (.aload_n 2, 1) := by decide +kernel
theorem d_L_law_275 : decode code 275 = .ok (.invokevirtual 48, 3) := by decide +kernel
theorem d_L_law_278 : decode code 278 = .ok (.if_icmp .eq 28, 3) := by decide +kernel
theorem d_L_law_281 : decode code 281 = .ok (.iconst 0, 1) := by decide +kernel
theorem d_L_law_282 : decode code 282 = .ok (.ireturn, 1) := by decide +kernel
theorem d_L_law_283 : decode code 283 = .ok (.aload_n 1, 1) := by decide +kernel
theorem d_L_law_284 : decode code 284 = .ok (.aload_n 0, 1) := by decide +kernel
theorem d_L_law_285 : decode code 285 = .ok (.iload_n 3, 1) := by decide +kernel
theorem d_L_law_286 : decode code 286 = .ok (.iconst 1, 1) := by decide +kernel
theorem d_L_law_287 : decode code 287 = .ok (.iadd, 1) := by decide +kernel
theorem d_L_law_288 : decode code 288 = .ok (.iaload, 1) := by decide +kernel
theorem d_L_law_289 : decode code 289 = .ok (.invokevirtual 49, 3) := by decide +kernel
theorem d_L_law_292 : decode code 292 = .ok (.aload_n 2, 1) := by decide +kernel
theorem d_L_law_293 : decode code 293 = .ok (.aload_n 0, 1) := by decide +kernel
theorem d_L_law_294 : decode code 294 = .ok (.iload_n 3, 1) := by decide +kernel
theorem d_L_law_295 : decode code 295 = .ok (.iconst 1, 1) := by decide +kernel
theorem d_L_law_296 : decode code 296 = .ok (.iadd, 1) := by decide +kernel
theorem d_L_law_297 : decode code 297 = .ok (.iaload, 1) := by decide +kernel
theorem d_L_law_298 : decode code 298 = .ok (.invokevirtual 52, 3) := by decide +kernel
theorem d_L_law_301 : decode code 301 = .ok (.if_icmp .eq 5, 3) := by decide +kernel
theorem d_L_law_304 : decode code 304 = .ok (.iconst 0, 1) := by decide +kernel
theorem d_L_law_305 : decode code 305 = .ok (.ireturn, 1) := by decide +kernel
theorem d_L_law_306 : decode code 306 = .ok (.iinc 3 4, 3) := by decide +kernel
theorem d_L_law_309 : decode code 309 = .ok (.goto (-291), 3) := by decide +kernel
theorem d_L_law_312 : decode code 312 = .ok (.iconst 1, 1) := by decide +kernel
theorem d_L_law_313 : decode code 313 = .ok (.ireturn, 1) := by decide +kernel
end
section
/-! worlds by places: N cells, place i lies at the address ad i and holds F i -/
def hp_ws (N : Nat) (ad : Nat → Nat) (F : Nat → va_E) : va_W := (List.range N).map (fun i => (ad i, F i))
theorem hp_ws_at {N : Nat} {ad : Nat → Nat} {F : Nat → va_E} {i : Nat} (h : i < N) : (hp_ws N ad F)[i]? = some (ad i, F i) := by
  simp [hp_ws, h]
theorem hp_ws_len {N : Nat} {ad : Nat → Nat} {F : Nat → va_E} : (hp_ws N ad F).length = N := by simp [hp_ws]
theorem hp_ws_inv {N : Nat} {ad : Nat → Nat} {F : Nat → va_E} {k : Nat} {q : Nat × va_E} (h : (hp_ws N ad F)[k]? = some q) : k < N ∧ q = (ad k, F k) := by
  have hk : k < N := by
    have := (List.getElem?_eq_some_iff.mp h).1
    rwa [hp_ws_len] at this
  rw [hp_ws_at hk] at h
  exact ⟨hk, (Option.some.inj h).symm⟩
theorem hp_ws_set {N : Nat} {ad : Nat → Nat} {F : Nat → va_E} {i : Nat} (h : i < N) (e : va_E) : (hp_ws N ad F).set i (ad i, e) = hp_ws N ad (va_up F i e) := by
  apply List.ext_getElem?
  intro j
  by_cases hj : j < N
  · by_cases hij : i = j
    · subst hij
      rw [List.getElem?_set_self (by rw [hp_ws_len]; exact h), hp_ws_at h, va_up_self]
    · rw [List.getElem?_set_ne hij, hp_ws_at hj, hp_ws_at hj, va_up_ne _ _ (fun q => hij q.symm)]
  · rw [List.getElem?_eq_none (by rw [List.length_set, hp_ws_len]; omega), List.getElem?_eq_none (by rw [hp_ws_len]; omega)]
theorem hp_ws_push0 {N : Nat} {ad : Nat → Nat} {F : Nat → va_E} (q : Nat) (e : va_E) : hp_ws N ad F ++ [(q, e)] = hp_ws (N + 1) (va_up ad N q) (va_up F N e) := by
  simp only [hp_ws, List.range_succ, List.map_append, List.map_cons, List.map_nil, va_up_self]
  congr 1
  apply List.map_congr_left
  intro b hb
  have : b ≠ N := by have := List.mem_range.mp hb; omega
  rw [va_up_ne _ _ this, va_up_ne _ _ this]
/-- all that may change: what lies from z0 on -/
def hp_A (z0 : Nat) : Nat → Prop := fun q => z0 ≤ q
/-- the numbers of the classes and their slots, the array classes -/
abbrev hp_G : Type := va_G × (Nat → ClassId)
/-- the nest mates' links -/
def hp_N (U : State) : Prop := (∀ q ∈ hp_fl, va_Nw (.fieldLinkNest q.1 q.2.1 q.2.2.1 q.2.2.2.1 q.2.2.2.2.1 q.2.2.2.2.2) U) ∧ (∀ q ∈ hp_ml, va_Nw (.methodLinkNest q.1 q.2.1 q.2.2.1 q.2.2.2) U) ∧ va_AO "ValueDesk$Entity" U
theorem hp_N.warm {s U : State} (h : hp_N s) (hW : s.WarmedH U.vm) : hp_N U := ⟨fun q hq => va_Nw.warmF hW (h.1 q hq), fun q hq => va_Nw.warmM hW (h.2.1 q hq), va_AO.moved hW.alike h.2.2⟩
theorem hp_N.same {s U : State} (h : hp_N s) (e : s.vm = U.vm) : hp_N U := ⟨fun q hq => va_Nw.same rfl e (h.1 q hq), fun q hq => va_Nw.same rfl e (h.2.1 q hq), va_AO.moved (by rw [e]; exact Vm.Alike.refl _) h.2.2⟩
/-- what the tables say, and stays -/
def hp_K (g : hp_G) (U : State) : Prop := va_K g.1 vwCl (hp_t g.2) U ∧ hp_N U
theorem hp_K.warm {g : hp_G} {s U : State} (h : hp_K g s) (hW : s.WarmedH U.vm) : hp_K g U := ⟨va_K.moved hW.alike h.1, h.2.warm hW⟩
/-- the world in a state -/
def hp_B (g : hp_G) (z0 N : Nat) (ad : Nat → Nat) (F : Nat → va_E) (U : State) : Prop := va_P g.1 vwCl (hp_ws N ad F) U.heap ∧ va_D (hp_A z0) (hp_ws N ad F) ∧ z0 ≤ U.heap.size ∧ hp_K g U
/-- the world in a walk -/
def hp_W (g : hp_G) (z0 N : Nat) (ad : Nat → Nat) (F : Nat → va_E) (H0 H : Heap) (locs : List Loc) : Prop := va_P g.1 vwCl (hp_ws N ad F) H ∧ va_D (hp_A z0) (hp_ws N ad F) ∧ va_S (hp_A z0) H0 H locs ∧ z0 ≤ H0.size
theorem hp_D_F {z0 N : Nat} {ad : Nat → Nat} {F F' : Nat → va_E} (h : va_D (hp_A z0) (hp_ws N ad F)) : va_D (hp_A z0) (hp_ws N ad F') := by
  refine ⟨fun i j p q hp hq e => ?_, fun k q hk => ?_⟩
  · obtain ⟨h1, rfl⟩ := hp_ws_inv hp
    obtain ⟨h2, rfl⟩ := hp_ws_inv hq
    exact h.1 i j _ _ (hp_ws_at h1) (hp_ws_at h2) e
  · obtain ⟨h1, rfl⟩ := hp_ws_inv hk
    exact h.2 k (ad k, F k) (hp_ws_at h1)
theorem hp_W.D {g : hp_G} {z0 N : Nat} {ad : Nat → Nat} {F : Nat → va_E} {H0 H : Heap} {locs : List Loc} (h : hp_W g z0 N ad F H0 H locs) : va_D (hp_A z0) (hp_ws N ad F) := h.2.1
theorem hp_inj {z0 N : Nat} {ad : Nat → Nat} {F : Nat → va_E} (h : va_D (hp_A z0) (hp_ws N ad F)) {i j : Nat} (hi : i < N) (hj : j < N) (e : ad i = ad j) : i = j := h.1 i j _ _ (hp_ws_at hi) (hp_ws_at hj) e
theorem hp_blind {g : hp_G} {z0 N : Nat} {ad : Nat → Nat} {F : Nat → va_E} {av : List Value} : FrameBlind (va_Pc av (hp_B g z0 N ad F)) := by
  intro a U gf mk h
  obtain ⟨h1, h2, h3, h4, h5, h6⟩ := h
  exact ⟨h1, h2, h3, h4, va_K.moved (u := U) (U := U.calling gf mk a) (Vm.Alike.refl U.vm) h5, hp_N.same (s := U) (U := U.calling gf mk a) h6 rfl⟩
theorem hp_W.B {g : hp_G} {z0 N : Nat} {ad : Nat → Nat} {F : Nat → va_E} {H0 H : Heap} {locs : List Loc} {s U : State} (h : hp_W g z0 N ad F H0 H locs) (hK : hp_K g s) (hU : U.heap = H) (hW : s.WarmedH U.vm) : hp_B g z0 N ad F U :=
  ⟨by rw [hU]; exact h.1, h.2.1, by rw [hU]; exact Nat.le_trans h.2.2.2 h.2.2.1.1, hK.warm hW⟩
/-! contracts: int, long, nothing, a reference or null -/
abbrev hp_Mi (l : Launch) (g : hp_G) (z0 N : Nat) (ad : Nat → Nat) (y : MethodName) (ws : List Cond) (rm : Room) (av : List Value) (F : Nat → va_E) (post : Int32 → (Nat → va_E) → Prop) : Prop := Met l y ws rm (va_Pc av (hp_B g z0 N ad F)) (va_Qi post (hp_B g z0 N ad) (hp_A z0)) 0 0 (hp_A z0)
abbrev hp_Ml (l : Launch) (g : hp_G) (z0 N : Nat) (ad : Nat → Nat) (y : MethodName) (ws : List Cond) (rm : Room) (av : List Value) (F : Nat → va_E) (post : Int64 → (Nat → va_E) → Prop) : Prop := Met l y ws rm (va_Pc av (hp_B g z0 N ad F)) (va_Ql post (hp_B g z0 N ad) (hp_A z0)) 0 0 (hp_A z0)
abbrev hp_Mv (l : Launch) (g : hp_G) (z0 N : Nat) (ad : Nat → Nat) (y : MethodName) (ws : List Cond) (rm : Room) (av : List Value) (F : Nat → va_E) (post : (Nat → va_E) → Prop) : Prop := Met l y ws rm (va_Pc av (hp_B g z0 N ad F)) (va_Qv post (hp_B g z0 N ad) (hp_A z0)) 0 0 (hp_A z0)
abbrev hp_Mq (l : Launch) (g : hp_G) (z0 N : Nat) (ad : Nat → Nat) (y : MethodName) (ws : List Cond) (rm : Room) (av : List Value) (F : Nat → va_E) (post : Option Nat → (Nat → va_E) → Prop) : Prop := Met l y ws rm (va_Pc av (hp_B g z0 N ad F)) (va_Qq post (hp_B g z0 N ad) (hp_A z0)) 0 0 (hp_A z0)
/-- a method's start -/
theorem hp_enter {l : Launch} {g : hp_G} {z0 N : Nat} {ad : Nat → Nat} {F : Nat → va_E} {y : MethodName} {ws ws' : List Cond} {rm : Room} {av : List Value} {Qc : Array Value → State → Outcome → State → Prop} {mc ms : Nat} {free : Addr → Prop} {cc : ByteArray} {maxL : Nat} {ret : Option FieldType}
    (hy : plainName y.cls = true) (hw : ws = Cond.code y cc maxL ret :: ws') (hle : (lg_sl av).length ≤ maxL)
    (body : ∀ (p : Program) (e : Env) (s : State) (m : MethodId) (below : List Frame) (meth : Method) (c : Code), CallFix p m c cc maxL s av.toArray ws y.cls → meth.sig.returnType = ret → meth.locks = false → meth.name = y.name → hp_K g s → hp_W g z0 N ad F s.heap s.heap [] →
      ∀ ls : Array Slot, lv_has ls maxL (lv_args 0 av) → W p l e rm s m av.toArray below meth c s.heap [] 0 0 (MQ below Qc av.toArray s mc ms free) (F0 m 0 ls [])) : Met l y ws rm (va_Pc av (hp_B g z0 N ad F)) Qc mc ms free := by
  refine Met.ofW (cc := cc) (maxL := maxL) (ret := ret) hy hw ?_
  intro p e s m args below meth c s₁ B hml hv
  obtain ⟨rfl, hP, hD, hz, hK⟩ := hv
  have hts := atoms_spec (ws := ws) B.pre
  have hown : s.vm.findClass y.cls = some m.cls := findClass_of_methodNamed B.named
  have hl := lv_entry av (n := maxL) hle
  rw [lg_entry_eq]
  exact body p e s m below meth c ⟨B.exec, B.bytes, hml, hown, hts⟩ B.returns B.notSynchronized (name_of_methodNamed B.named B.method).1 hK ⟨hP, hD, va_S.rf, hz⟩ _ hl
section HP
variable {p : Program} {l : Launch} {e : Env} {R : Room} {s : State} {m : MethodId} {args : Array Value} {below : List Frame} {meth : Method} {c : Code} {H : Heap} {locs : List Loc} {cells slots : Nat} {Q : State → Prop}
variable {cc : ByteArray} {pc nL index : Nat} {ls : Array Slot} {rest st0 : List Value} {own : String} {Ts : List Cond} {H0 : Heap} {g : hp_G} {z0 N : Nat} {ad : Nat → Nat} {F : Nat → va_E}
theorem hp_get (S : CallFix p m c cc nL s args Ts own) (hK : hp_K g s) (hW : hp_W g z0 N ad F H0 H locs) (i : Nat) {a : Nat} (hi : i < N) (ha : ad i = a) {ci : Nat} {fs : List Value} (hF : F i = .inr (ci, fs)) {C : String} {T : u_T} {n : Nat} (hc : vwCl[ci]? = some (C, T, n)) (hin : ∀ w ∈ u_ws C T n, w ∈ Ts) (k : Nat) (hk : k < n) (hlink : (Cond.fieldLink own index (T k).1 (T k).2.1 (T k).2.2.1).before args s = true) {v : Value} (hv : fs[k]? = some v) (hdg : decode cc pc = .ok (.getfield index, 3))
    (kk : W p l e R s m args below meth c H locs cells slots Q (F0 m (pc + 3) ls (v :: rest))) : W p l e R s m args below meth c H locs cells slots Q (F0 m pc ls (.ref a :: rest)) := by
  subst ha
  exact va_get S.1 S.2.1 S.2.2.2.2 hin S.2.2.2.1 hK.1 hW.1 i (by rw [hp_ws_at hi, hF]) hc k hk hlink (fun _ h => h) hv hdg kk
theorem hp_getN (S : CallFix p m c cc nL s args Ts own) (hK : hp_K g s) (hW : hp_W g z0 N ad F H0 H locs) (i : Nat) {a : Nat} (hi : i < N) (ha : ad i = a) {ci : Nat} {fs : List Value} (hF : F i = .inr (ci, fs)) {C : String} {T : u_T} {n : Nat} (hc : vwCl[ci]? = some (C, T, n)) (hin : ∀ w ∈ u_ws C T n, w ∈ Ts) (k : Nat) (hk : k < n) {host : String} (hlink : (own, index, (T k).1, (T k).2.1, (T k).2.2.1, host) ∈ hp_fl) {v : Value} (hv : fs[k]? = some v) (hdg : decode cc pc = .ok (.getfield index, 3))
    (kk : W p l e R s m args below meth c H locs cells slots Q (F0 m (pc + 3) ls (v :: rest))) : W p l e R s m args below meth c H locs cells slots Q (F0 m pc ls (.ref a :: rest)) := by
  subst ha
  exact va_getN S.1 S.2.1 S.2.2.2.2 hin S.2.2.2.1 hK.1 hW.1 i (by rw [hp_ws_at hi, hF]) hc k hk (va_Nw.use rfl (hK.2.1 _ hlink)) (fun _ h => h) hv hdg kk
theorem hp_W.up (hW : hp_W g z0 N ad F H0 H locs) {i : Nat} (hi : i < N) {e2 : va_E} {H1 : Heap} {locs1 : List Loc} (h1 : va_P g.1 vwCl ((hp_ws N ad F).set i (ad i, e2)) H1) (h2 : va_D (hp_A z0) ((hp_ws N ad F).set i (ad i, e2))) (h3 : va_S (hp_A z0) H0 H1 locs1) : hp_W g z0 N ad (va_up F i e2) H0 H1 locs1 := by
  rw [hp_ws_set hi] at h1 h2
  exact ⟨h1, h2, h3, hW.2.2.2⟩
theorem hp_put (S : CallFix p m c cc nL s args Ts own) (hK : hp_K g s) (hW : hp_W g z0 N ad F H0 H locs) (i : Nat) {a : Nat} (hi : i < N) (ha : ad i = a) {ci : Nat} {fs : List Value} (hF : F i = .inr (ci, fs)) {C : String} {T : u_T} {n : Nat} (hc : vwCl[ci]? = some (C, T, n)) (hin : ∀ w ∈ u_ws C T n, w ∈ Ts) {ty0 : Nat → FieldType} (hty : ∀ k, k < n → parseFieldDescriptor (T k).2.2.1 = some (ty0 k)) (hnm : ∀ a, a < n → ∀ b, b < n → a ≠ b → (T a).2.1 ≠ (T b).2.1) (k : Nat) (hk : k < n) (hlink : (Cond.fieldLink own index (T k).1 (T k).2.1 (T k).2.2.1).before args s = true) (hfin : (T k).2.2.2 = false) {v : Value} (hn : narrow (ty0 k) v = v) (hfit : fits (ty0 k) v = true) (hl : k < fs.length) (hdg : decode cc pc = .ok (.putfield index, 3))
    (kk : ∀ (H1 : Heap) (locs1 : List Loc), hp_W g z0 N ad (va_up F i (.inr (ci, fs.set k v))) H0 H1 locs1 → W p l e R s m args below meth c H1 locs1 cells slots Q (F0 m (pc + 3) ls rest)) : W p l e R s m args below meth c H locs cells slots Q (F0 m pc ls (v :: .ref a :: rest)) := by
  subst ha
  exact va_put S.1 S.2.1 S.2.2.2.2 hin ty0 hty hnm S.2.2.2.1 hK.1 hW.1 hW.2.1 hW.2.2.1 i (by rw [hp_ws_at hi, hF]) hc k hk hlink (fun _ h => h) hfin (hty k hk) hn hfit hl hdg (fun H1 locs1 h1 h2 h3 => kk H1 locs1 (hW.up hi h1 h2 h3))
theorem hp_putN (S : CallFix p m c cc nL s args Ts own) (hK : hp_K g s) (hW : hp_W g z0 N ad F H0 H locs) (i : Nat) {a : Nat} (hi : i < N) (ha : ad i = a) {ci : Nat} {fs : List Value} (hF : F i = .inr (ci, fs)) {C : String} {T : u_T} {n : Nat} (hc : vwCl[ci]? = some (C, T, n)) (hin : ∀ w ∈ u_ws C T n, w ∈ Ts) {ty0 : Nat → FieldType} (hty : ∀ k, k < n → parseFieldDescriptor (T k).2.2.1 = some (ty0 k)) (hnm : ∀ a, a < n → ∀ b, b < n → a ≠ b → (T a).2.1 ≠ (T b).2.1) (k : Nat) (hk : k < n) {host : String} (hlink : (own, index, (T k).1, (T k).2.1, (T k).2.2.1, host) ∈ hp_fl) (hfin : (T k).2.2.2 = false) {v : Value} (hn : narrow (ty0 k) v = v) (hfit : fits (ty0 k) v = true) (hl : k < fs.length) (hdg : decode cc pc = .ok (.putfield index, 3))
    (kk : ∀ (H1 : Heap) (locs1 : List Loc), hp_W g z0 N ad (va_up F i (.inr (ci, fs.set k v))) H0 H1 locs1 → W p l e R s m args below meth c H1 locs1 cells slots Q (F0 m (pc + 3) ls rest)) : W p l e R s m args below meth c H locs cells slots Q (F0 m pc ls (v :: .ref a :: rest)) := by
  subst ha
  exact va_putN S.1 S.2.1 S.2.2.2.2 hin ty0 hty hnm S.2.2.2.1 hK.1 hW.1 hW.2.1 hW.2.2.1 i (by rw [hp_ws_at hi, hF]) hc k hk (va_Nw.use rfl (hK.2.1 _ hlink)) (fun _ h => h) hfin (hty k hk) hn hfit hl hdg (fun H1 locs1 h1 h2 h3 => kk H1 locs1 (hW.up hi h1 h2 h3))
theorem hp_putF (S : CallFix p m c cc nL s args Ts own) (hK : hp_K g s) (hW : hp_W g z0 N ad F H0 H locs) (i : Nat) {a : Nat} (hi : i < N) (ha : ad i = a) {ci : Nat} {fs : List Value} (hF : F i = .inr (ci, fs)) {C : String} {T : u_T} {n : Nat} (hc : vwCl[ci]? = some (C, T, n)) (hin : ∀ w ∈ u_ws C T n, w ∈ Ts) {ty0 : Nat → FieldType} (hty : ∀ k, k < n → parseFieldDescriptor (T k).2.2.1 = some (ty0 k)) (hnm : ∀ a, a < n → ∀ b, b < n → a ≠ b → (T a).2.1 ≠ (T b).2.1) (k : Nat) (hk : k < n) (hlink : (Cond.fieldLink own index (T k).1 (T k).2.1 (T k).2.2.1).before args s = true) (hfin : (T k).2.2.2 = true) (hini : meth.name = "<init>") (hdecl : (T k).1 = own) {v : Value} (hn : narrow (ty0 k) v = v) (hfit : fits (ty0 k) v = true) (hl : k < fs.length) (hdg : decode cc pc = .ok (.putfield index, 3))
    (kk : ∀ (H1 : Heap) (locs1 : List Loc), hp_W g z0 N ad (va_up F i (.inr (ci, fs.set k v))) H0 H1 locs1 → W p l e R s m args below meth c H1 locs1 cells slots Q (F0 m (pc + 3) ls rest)) : W p l e R s m args below meth c H locs cells slots Q (F0 m pc ls (v :: .ref a :: rest)) := by
  subst ha
  exact va_putF S.1 S.2.1 S.2.2.2.2 hin ty0 hty hnm S.2.2.2.1 hK.1 hW.1 hW.2.1 hW.2.2.1 i (by rw [hp_ws_at hi, hF]) hc k hk hlink (fun _ h => h) hfin hini hdecl (hty k hk) hn hfit hl hdg (fun H1 locs1 h1 h2 h3 => kk H1 locs1 (hW.up hi h1 h2 h3))
theorem hp_iald (S : CallFix p m c cc nL s args Ts own) (hK : hp_K g s) (hW : hp_W g z0 N ad F H0 H locs) (i : Nat) {a : Nat} (hi : i < N) (ha : ad i = a) {n : Nat} {f : Nat → Int32} (hF : F i = .inl (g.2 0, n, .inl f)) {j : Int32} (hin : vp_in j n) (hdg : decode cc pc = .ok (.iaload, 1))
    (kk : W p l e R s m args below meth c H locs cells slots Q (F0 m (pc + 1) ls (.int (f j.toNatClampNeg) :: rest))) : W p l e R s m args below meth c H locs cells slots Q (F0 m pc ls (.int j :: .ref a :: rest)) := by
  subst ha
  exact va_iald S.1 S.2.1 hK.1 hW.1 i 0 (by rw [hp_ws_at hi, hF]) rfl hin hdg kk
theorem hp_iast (S : CallFix p m c cc nL s args Ts own) (hK : hp_K g s) (hW : hp_W g z0 N ad F H0 H locs) (i : Nat) {a : Nat} (hi : i < N) (ha : ad i = a) {n : Nat} {f : Nat → Int32} (hF : F i = .inl (g.2 0, n, .inl f)) {j x : Int32} (hin : vp_in j n) (hdg : decode cc pc = .ok (.iastore, 1))
    (kk : ∀ (H1 : Heap) (locs1 : List Loc), hp_W g z0 N ad (va_up F i (.inl (g.2 0, n, .inl (upd f j.toNatClampNeg x)))) H0 H1 locs1 → W p l e R s m args below meth c H1 locs1 cells slots Q (F0 m (pc + 1) ls rest)) : W p l e R s m args below meth c H locs cells slots Q (F0 m pc ls (.int x :: .int j :: .ref a :: rest)) := by
  subst ha
  exact va_iast S.1 S.2.1 hK.1 hW.1 hW.2.1 hW.2.2.1 i 0 (by rw [hp_ws_at hi, hF]) rfl hin hdg (fun H1 locs1 h1 h2 h3 => kk H1 locs1 (hW.up hi h1 h2 h3))
theorem hp_alen (S : CallFix p m c cc nL s args Ts own) (hK : hp_K g s) (hW : hp_W g z0 N ad F H0 H locs) (i : Nat) {a : Nat} (hi : i < N) (ha : ad i = a) {t0 : Nat} {cA : ClassId} {x : vp_A} (hF : F i = .inl (cA, x)) {ty : FieldType} (ht : (hp_t g.2)[t0]? = some (cA, ty)) (hdg : decode cc pc = .ok (.arraylength, 1))
    (kk : W p l e R s m args below meth c H locs cells slots Q (F0 m (pc + 1) ls (.int (nI x.1) :: rest))) : W p l e R s m args below meth c H locs cells slots Q (F0 m pc ls (.ref a :: rest)) := by
  subst ha
  exact va_alen S.1 S.2.1 hK.1 hW.1 i t0 (by rw [hp_ws_at hi, hF]) ht rfl hdg kk
theorem hp_aald (S : CallFix p m c cc nL s args Ts own) (hK : hp_K g s) (hW : hp_W g z0 N ad F H0 H locs) (i t0 : Nat) {a : Nat} (hi : i < N) (ha : ad i = a) {cA : ClassId} {n : Nat} {f : Nat → Option Nat} (hF : F i = .inl (cA, n, .inr (.inr (.inr (.inr f))))) {C : String} (ht : (hp_t g.2)[t0]? = some (cA, .object C)) {j : Int32} (hin : vp_in j n) (hdg : decode cc pc = .ok (.aaload, 1))
    (kk : W p l e R s m args below meth c H locs cells slots Q (F0 m (pc + 1) ls (va_rf (f j.toNatClampNeg) :: rest))) : W p l e R s m args below meth c H locs cells slots Q (F0 m pc ls (.int j :: .ref a :: rest)) := by
  subst ha
  exact va_aldq S.1 S.2.1 hK.1 hW.1 i t0 (by rw [hp_ws_at hi, hF]) ht hin hdg kk
theorem hp_aast (S : CallFix p m c cc nL s args Ts own) (hK : hp_K g s) (hW : hp_W g z0 N ad F H0 H locs) (i t0 i2 : Nat) {a a2 : Nat} (hi : i < N) (ha : ad i = a) (hi2 : i2 < N) (ha2 : ad i2 = a2) {cA : ClassId} {n : Nat} {f : Nat → Option Nat} (hF : F i = .inl (cA, n, .inr (.inr (.inr (.inr f))))) {ci : Nat} {fs : List Value} (hF2 : F i2 = .inr (ci, fs)) {r : vw_C} (hc : vwCl[ci]? = some r) (ht : (hp_t g.2)[t0]? = some (cA, .object r.1)) {j : Int32} (hin : vp_in j n) (hdg : decode cc pc = .ok (.aastore, 1))
    (kk : ∀ (H1 : Heap) (locs1 : List Loc), hp_W g z0 N ad (va_up F i (.inl (cA, n, .inr (.inr (.inr (.inr (va_up f j.toNatClampNeg (some a2)))))))) H0 H1 locs1 → W p l e R s m args below meth c H1 locs1 cells slots Q (F0 m (pc + 1) ls rest)) : W p l e R s m args below meth c H locs cells slots Q (F0 m pc ls (.ref a2 :: .int j :: .ref a :: rest)) := by
  subst ha
  subst ha2
  exact va_astq S.1 S.2.1 hK.1 hW.1 hW.2.1 hW.2.2.1 i t0 i2 ci (by rw [hp_ws_at hi, hF]) ht (by rw [hp_ws_at hi2, hF2]) hc hin hdg (fun H1 locs1 h1 h2 h3 => kk H1 locs1 (hW.up hi h1 h2 h3))
/-! answers -/
theorem hp_reti (S : CallFix p m c cc nL s args Ts own) (hK : hp_K g s) (hW : hp_W g z0 N ad F s.heap H locs) {post : Int32 → (Nat → va_E) → Prop} {v : Int32} (hr : meth.sig.returnType = some .int) (hlk : meth.locks = false) (hdg : decode cc pc = .ok (.ireturn, 1)) (hq : post v F) : W p l e R s m args below meth c H locs cells slots (MQ below (va_Qi post (hp_B g z0 N ad) (hp_A z0)) args s cells slots (hp_A z0)) (F0 m pc ls [.int v]) :=
  W.iret (v := v) S.1 S.2.1 hr (fun t ht hw => ⟨⟨v, F, rfl, hq, hW.B hK ht hw⟩, hW.2.2.1.F ht⟩) hW.2.2.1.2.2 hdg hlk
theorem hp_retz (S : CallFix p m c cc nL s args Ts own) (hK : hp_K g s) (hW : hp_W g z0 N ad F s.heap H locs) {post : Int32 → (Nat → va_E) → Prop} {v : Int32} (hr : meth.sig.returnType = some .boolean) (hlk : meth.locks = false) (hn : narrow .boolean (.int v) = .int v) (hdg : decode cc pc = .ok (.ireturn, 1)) (hq : post v F) : W p l e R s m args below meth c H locs cells slots (MQ below (va_Qi post (hp_B g z0 N ad) (hp_A z0)) args s cells slots (hp_A z0)) (F0 m pc ls [.int v]) :=
  W.zret (v := v) S.1 S.2.1 hr hn (fun t ht hw => ⟨⟨v, F, rfl, hq, hW.B hK ht hw⟩, hW.2.2.1.F ht⟩) hW.2.2.1.2.2 hdg hlk
theorem hp_retl (S : CallFix p m c cc nL s args Ts own) (hK : hp_K g s) (hW : hp_W g z0 N ad F s.heap H locs) {post : Int64 → (Nat → va_E) → Prop} {v : Int64} (hr : meth.sig.returnType = some .long) (hlk : meth.locks = false) (hdg : decode cc pc = .ok (.lreturn, 1)) (hq : post v F) : W p l e R s m args below meth c H locs cells slots (MQ below (va_Ql post (hp_B g z0 N ad) (hp_A z0)) args s cells slots (hp_A z0)) (F0 m pc ls [.long v]) :=
  W.lret (v := v) S.1 S.2.1 hr (fun t ht hw => ⟨⟨v, F, rfl, hq, hW.B hK ht hw⟩, hW.2.2.1.F ht⟩) hW.2.2.1.2.2 hdg hlk
theorem hp_retv (S : CallFix p m c cc nL s args Ts own) (hK : hp_K g s) (hW : hp_W g z0 N ad F s.heap H locs) {post : (Nat → va_E) → Prop} (hr : meth.sig.returnType = none) (hlk : meth.locks = false) (hdg : decode cc pc = .ok (.return_, 1)) (hq : post F) : W p l e R s m args below meth c H locs cells slots (MQ below (va_Qv post (hp_B g z0 N ad) (hp_A z0)) args s cells slots (hp_A z0)) (F0 m pc ls []) :=
  W.vret S.1 S.2.1 hr (fun t ht hw => ⟨⟨F, rfl, hq, hW.B hK ht hw⟩, hW.2.2.1.F ht⟩) hW.2.2.1.2.2 hdg hlk
theorem hp_retq (S : CallFix p m c cc nL s args Ts own) (hK : hp_K g s) (hW : hp_W g z0 N ad F s.heap H locs) {post : Option Nat → (Nat → va_E) → Prop} {v : Option Nat} {rt : FieldType} (hr : meth.sig.returnType = some rt) (hrt : (∃ n, rt = .object n) ∨ ∃ t, rt = .array t) (hlk : meth.locks = false) (hdg : decode cc pc = .ok (.areturn, 1)) (hq : post v F) : W p l e R s m args below meth c H locs cells slots (MQ below (va_Qq post (hp_B g z0 N ad) (hp_A z0)) args s cells slots (hp_A z0)) (F0 m pc ls [va_rf v]) :=
  W.aret (v := va_rf v) S.1 S.2.1 hr hrt (va_rf_or v) (fun t ht hw => ⟨⟨v, F, rfl, hq, hW.B hK ht hw⟩, hW.2.2.1.F ht⟩) hW.2.2.1.2.2 hdg hlk
/-! calls: what a callee starts with -/
theorem hp_preS (hK : hp_K g s) (hW : hp_W g z0 N ad F H0 H locs) {As : List Value} : PreS s H (va_Pc As (hp_B g z0 N ad F)) As := ⟨hp_blind, fun U hU hw => ⟨rfl, hW.B hK hU hw⟩⟩
theorem hp_preV (hK : hp_K g s) (hW : hp_W g z0 N ad F H0 H locs) {As : List Value} {i a : Nat} (hi : i < N) (ha : ad i = a) {ci : Nat} {fs : List Value} (hF : F i = .inr (ci, fs)) {q : vw_C} (hc : vwCl[ci]? = some q) : PreV s H q.1 a (va_Pc (.ref a :: As) (hp_B g z0 N ad F)) As := by
  subst ha
  exact ⟨hp_blind, va_recv hK.1 hW.1 (q0 := i) hc (by rw [hp_ws_at hi, hF]), fun U hU hw => ⟨rfl, hW.B hK hU hw⟩⟩
theorem hp_goi {post : Int32 → (Nat → va_E) → Prop} {a : Array Value} (hW : hp_W g z0 N ad F H0 H locs) (hr : va_Run p l e R s m args below meth c H locs cells slots 0 0 (F0 m pc ls st0) rest (va_Qi post (hp_B g z0 N ad) (hp_A z0) a) (hp_A z0))
    (kk : ∀ (r : Int32) (F' : Nat → va_E) (H1 : Heap) (locs1 : List Loc), post r F' → hp_W g z0 N ad F' H0 H1 locs1 → W p l e R s m args below meth c H1 locs1 cells slots Q (F0 m (pc + 3) ls (.int r :: rest))) : W p l e R s m args below meth c H locs cells slots Q (F0 m pc ls st0) :=
  va_calli hr hW.2.2.1 (fun _ _ h => h) (fun _ h => h) (fun r u t H1 locs1 ht _ hp hB _ _ hS => kk r u H1 locs1 hp ⟨by rw [← ht]; exact hB.1, hB.2.1, hS, hW.2.2.2⟩)
theorem hp_gol {post : Int64 → (Nat → va_E) → Prop} {a : Array Value} (hW : hp_W g z0 N ad F H0 H locs) (hr : va_Run p l e R s m args below meth c H locs cells slots 0 0 (F0 m pc ls st0) rest (va_Ql post (hp_B g z0 N ad) (hp_A z0) a) (hp_A z0))
    (kk : ∀ (r : Int64) (F' : Nat → va_E) (H1 : Heap) (locs1 : List Loc), post r F' → hp_W g z0 N ad F' H0 H1 locs1 → W p l e R s m args below meth c H1 locs1 cells slots Q (F0 m (pc + 3) ls (.long r :: rest))) : W p l e R s m args below meth c H locs cells slots Q (F0 m pc ls st0) :=
  va_calll hr hW.2.2.1 (fun _ _ h => h) (fun _ h => h) (fun r u t H1 locs1 ht _ hp hB _ _ hS => kk r u H1 locs1 hp ⟨by rw [← ht]; exact hB.1, hB.2.1, hS, hW.2.2.2⟩)
theorem hp_gov {post : (Nat → va_E) → Prop} {a : Array Value} (hW : hp_W g z0 N ad F H0 H locs) (hr : va_Run p l e R s m args below meth c H locs cells slots 0 0 (F0 m pc ls st0) rest (va_Qv post (hp_B g z0 N ad) (hp_A z0) a) (hp_A z0))
    (kk : ∀ (F' : Nat → va_E) (H1 : Heap) (locs1 : List Loc), post F' → hp_W g z0 N ad F' H0 H1 locs1 → W p l e R s m args below meth c H1 locs1 cells slots Q (F0 m (pc + 3) ls rest)) : W p l e R s m args below meth c H locs cells slots Q (F0 m pc ls st0) :=
  va_callv hr hW.2.2.1 (fun _ _ h => h) (fun _ h => h) (fun u t H1 locs1 ht _ hp hB _ _ hS => kk u H1 locs1 hp ⟨by rw [← ht]; exact hB.1, hB.2.1, hS, hW.2.2.2⟩)
theorem hp_goq {post : Option Nat → (Nat → va_E) → Prop} {a : Array Value} (hW : hp_W g z0 N ad F H0 H locs) (hr : va_Run p l e R s m args below meth c H locs cells slots 0 0 (F0 m pc ls st0) rest (va_Qq post (hp_B g z0 N ad) (hp_A z0) a) (hp_A z0))
    (kk : ∀ (r : Option Nat) (F' : Nat → va_E) (H1 : Heap) (locs1 : List Loc), post r F' → hp_W g z0 N ad F' H0 H1 locs1 → W p l e R s m args below meth c H1 locs1 cells slots Q (F0 m (pc + 3) ls (va_rf r :: rest))) : W p l e R s m args below meth c H locs cells slots Q (F0 m pc ls st0) :=
  va_callq hr hW.2.2.1 (fun _ _ h => h) (fun _ h => h) (fun r u t H1 locs1 ht _ hp hB _ _ hS => kk r u H1 locs1 hp ⟨by rw [← ht]; exact hB.1, hB.2.1, hS, hW.2.2.2⟩)
end HP
section HPM
variable {l : Launch} {g : hp_G} {z0 N : Nat} {ad : Nat → Nat} {F : Nat → va_E} {y : MethodName} {ws : List Cond} {rm : Room} {av : List Value}
theorem hp_imp_i {post post' : Int32 → (Nat → va_E) → Prop} (h : hp_Mi l g z0 N ad y ws rm av F post) (hq : ∀ v F', post v F' → post' v F') : hp_Mi l g z0 N ad y ws rm av F post' :=
  MetFree.mono h (fun _ _ h => h) (fun _ _ _ _ _ h => h) (fun _ _ _ _ _ ⟨⟨⟨r, u, h1, h2, h3⟩, h4⟩, h5⟩ => ⟨⟨⟨r, u, h1, hq r u h2, h3⟩, h4⟩, h5⟩)
theorem hp_imp_l {post post' : Int64 → (Nat → va_E) → Prop} (h : hp_Ml l g z0 N ad y ws rm av F post) (hq : ∀ v F', post v F' → post' v F') : hp_Ml l g z0 N ad y ws rm av F post' :=
  MetFree.mono h (fun _ _ h => h) (fun _ _ _ _ _ h => h) (fun _ _ _ _ _ ⟨⟨⟨r, u, h1, h2, h3⟩, h4⟩, h5⟩ => ⟨⟨⟨r, u, h1, hq r u h2, h3⟩, h4⟩, h5⟩)
theorem hp_imp_v {post post' : (Nat → va_E) → Prop} (h : hp_Mv l g z0 N ad y ws rm av F post) (hq : ∀ F', post F' → post' F') : hp_Mv l g z0 N ad y ws rm av F post' :=
  MetFree.mono h (fun _ _ h => h) (fun _ _ _ _ _ h => h) (fun _ _ _ _ _ ⟨⟨⟨u, h1, h2, h3⟩, h4⟩, h5⟩ => ⟨⟨⟨u, h1, hq u h2, h3⟩, h4⟩, h5⟩)
end HPM
section HPZ
variable {p : Program} {l : Launch} {e : Env} {R : Room} {s : State} {m : MethodId} {args : Array Value} {below : List Frame} {meth : Method} {c : Code} {H : Heap} {locs : List Loc} {cells slots : Nat} {Q : State → Prop}
variable {cc : ByteArray} {pc nL index : Nat} {ls : Array Slot} {rest st0 : List Value} {own : String} {Ts : List Cond} {H0 : Heap} {g : hp_G} {z0 N : Nat} {ad : Nat → Nat} {F : Nat → va_E}
theorem hp_zald (S : CallFix p m c cc nL s args Ts own) (hK : hp_K g s) (hW : hp_W g z0 N ad F H0 H locs) (i : Nat) {a : Nat} (hi : i < N) (ha : ad i = a) {n : Nat} {f : Nat → Int32} (hF : F i = .inl (g.2 2, n, .inl f)) {j : Int32} (hin : vp_in j n) (hdg : decode cc pc = .ok (.baload, 1))
    (kk : W p l e R s m args below meth c H locs cells slots Q (F0 m (pc + 1) ls (.int (f j.toNatClampNeg) :: rest))) : W p l e R s m args below meth c H locs cells slots Q (F0 m pc ls (.int j :: .ref a :: rest)) := by
  subst ha
  exact va_zald S.1 S.2.1 hK.1 hW.1 i 2 (by rw [hp_ws_at hi, hF]) rfl hin hdg kk
theorem hp_zast (S : CallFix p m c cc nL s args Ts own) (hK : hp_K g s) (hW : hp_W g z0 N ad F H0 H locs) (i : Nat) {a : Nat} (hi : i < N) (ha : ad i = a) {n : Nat} {f : Nat → Int32} (hF : F i = .inl (g.2 2, n, .inl f)) {j x : Int32} (hin : vp_in j n) (hdg : decode cc pc = .ok (.bastore, 1))
    (kk : ∀ (H1 : Heap) (locs1 : List Loc), hp_W g z0 N ad (va_up F i (.inl (g.2 2, n, .inl (upd f j.toNatClampNeg (vp_nar .boolean x))))) H0 H1 locs1 → W p l e R s m args below meth c H1 locs1 cells slots Q (F0 m (pc + 1) ls rest)) : W p l e R s m args below meth c H locs cells slots Q (F0 m pc ls (.int x :: .int j :: .ref a :: rest)) := by
  subst ha
  exact va_zast S.1 S.2.1 hK.1 hW.1 hW.2.1 hW.2.2.1 i 2 (by rw [hp_ws_at hi, hF]) rfl hin hdg (fun H1 locs1 h1 h2 h3 => kk H1 locs1 (hW.up hi h1 h2 h3))
end HPZ
/-! making: the addresses follow each other -/
def hp_ad (z0 : Nat) : Nat → Nat := fun i => z0 + i
theorem hp_push {z0 N : Nat} {F : Nat → va_E} (e : va_E) : hp_ws N (hp_ad z0) F ++ [(z0 + N, e)] = hp_ws (N + 1) (hp_ad z0) (va_up F N e) := by
  rw [hp_ws_push0]
  congr 1
  funext j
  by_cases h : j = N
  · subst h
    rw [va_up_self]
    rfl
  · rw [va_up_ne _ _ h]
/-- the world in a constructor's walk: nothing lies behind its cells -/
def hp_V (g : hp_G) (z0 N : Nat) (F : Nat → va_E) (H0 H : Heap) (locs : List Loc) : Prop := hp_W g z0 N (hp_ad z0) F H0 H locs ∧ H.size = z0 + N
def hp_BV (g : hp_G) (z0 N : Nat) (F : Nat → va_E) (U : State) : Prop := hp_B g z0 N (hp_ad z0) F U ∧ U.heap.size = z0 + N
/-- a constructor that makes k cells of ks slots -/
abbrev hp_Mc (l : Launch) (g : hp_G) (z0 N : Nat) (y : MethodName) (ws : List Cond) (rm : Room) (av : List Value) (F : Nat → va_E) (k ks : Nat) (post : (Nat → va_E) → Prop) : Prop := Met l y ws rm (va_Pc av (hp_BV g z0 N F)) (va_Qv post (hp_BV g z0 (N + k)) (hp_A z0)) k ks (hp_A z0)
theorem hp_blindV {g : hp_G} {z0 N : Nat} {F : Nat → va_E} {av : List Value} : FrameBlind (va_Pc av (hp_BV g z0 N F)) := by
  intro a U gf mk h
  obtain ⟨h1, ⟨h2, h3, h4, h5, h6⟩, h7⟩ := h
  exact ⟨h1, ⟨h2, h3, h4, va_K.moved (u := U) (U := U.calling gf mk a) (Vm.Alike.refl U.vm) h5, hp_N.same (s := U) (U := U.calling gf mk a) h6 rfl⟩, h7⟩
theorem hp_enterV {l : Launch} {g : hp_G} {z0 N : Nat} {F : Nat → va_E} {y : MethodName} {ws ws' : List Cond} {rm : Room} {av : List Value} {Qc : Array Value → State → Outcome → State → Prop} {mc ms : Nat} {free : Addr → Prop} {cc : ByteArray} {maxL : Nat} {ret : Option FieldType}
    (hy : plainName y.cls = true) (hw : ws = Cond.code y cc maxL ret :: ws') (hle : (lg_sl av).length ≤ maxL)
    (body : ∀ (p : Program) (e : Env) (s : State) (m : MethodId) (below : List Frame) (meth : Method) (c : Code), CallFix p m c cc maxL s av.toArray ws y.cls → meth.sig.returnType = ret → meth.locks = false → meth.name = y.name → hp_K g s → hp_V g z0 N F s.heap s.heap [] →
      ∀ ls : Array Slot, lv_has ls maxL (lv_args 0 av) → W p l e rm s m av.toArray below meth c s.heap [] 0 0 (MQ below Qc av.toArray s mc ms free) (F0 m 0 ls [])) : Met l y ws rm (va_Pc av (hp_BV g z0 N F)) Qc mc ms free := by
  refine Met.ofW (cc := cc) (maxL := maxL) (ret := ret) hy hw ?_
  intro p e s m args below meth c s₁ B hml hv
  obtain ⟨rfl, ⟨hP, hD, hz, hK⟩, hsz⟩ := hv
  have hts := atoms_spec (ws := ws) B.pre
  have hown : s.vm.findClass y.cls = some m.cls := findClass_of_methodNamed B.named
  have hl := lv_entry av (n := maxL) hle
  rw [lg_entry_eq]
  exact body p e s m below meth c ⟨B.exec, B.bytes, hml, hown, hts⟩ B.returns B.notSynchronized (name_of_methodNamed B.named B.method).1 hK ⟨⟨hP, hD, va_S.rf, hz⟩, hsz⟩ _ hl
section HPV
variable {p : Program} {l : Launch} {e : Env} {R : Room} {s : State} {m : MethodId} {args : Array Value} {below : List Frame} {meth : Method} {c : Code} {H : Heap} {locs : List Loc} {cells slots : Nat} {Q : State → Prop}
variable {cc : ByteArray} {pc nL index : Nat} {ls : Array Slot} {rest st0 : List Value} {own : String} {Ts : List Cond} {H0 : Heap} {g : hp_G} {z0 N : Nat} {F : Nat → va_E}
/-- a cell more -/
theorem hp_V.more (hV : hp_V g z0 N F H0 H locs) {e2 : va_E} {H1 : Heap} (z1 : H1.size = H.size + 1) (o1 : ∀ q : Nat, q < H.size → H1[q]? = H[q]?) (he : va_at g.1 vwCl (z0 + N, e2) H1) : hp_V g z0 (N + 1) (va_up F N e2) H0 H1 locs := by
  obtain ⟨⟨hP, hD, hS, hz⟩, hsz⟩ := hV
  have hk : ∀ (k : Nat) (x : Nat × va_E), (hp_ws N (hp_ad z0) F)[k]? = some x → H1[x.1]? = H[x.1]? := fun k x hx => o1 x.1 ((hP k x hx).lt)
  have hP1 : va_P g.1 vwCl (hp_ws N (hp_ad z0) F ++ [(z0 + N, e2)]) H1 := (hP.kept hk).app (fun k x hx => by
    have hz : k < 1 := (List.getElem?_eq_some_iff.mp hx).1
    rw [show k = 0 by omega] at hx
    cases hx
    exact he)
  have hD1 : va_D (hp_A z0) (hp_ws N (hp_ad z0) F ++ [(z0 + N, e2)]) := hD.push hP hsz.symm (Nat.le_add_right _ _)
  rw [hp_push] at hP1 hD1
  exact ⟨⟨hP1, hD1, ⟨Nat.le_trans hS.1 (by omega), fun x h1 h2 => (o1 x (Nat.lt_of_lt_of_le h1 hS.1)).trans (hS.2.1 x h1 h2), hS.2.2⟩, hz⟩, by omega⟩
theorem hp_new (S : CallFix p m c cc nL s args Ts own) (hK : hp_K g s) (hV : hp_V g z0 N F H0 H locs) {C : String} {T : u_T} {n ci : Nat} (hc : vwCl[ci]? = some (C, T, n)) (hin : ∀ w ∈ u_ws C T n, w ∈ Ts) {ty0 : Nat → FieldType} (hty : ∀ k, k < n → parseFieldDescriptor (T k).2.2.1 = some (ty0 k)) (hcl : (Cond.classLink own index C).before args s = true) (hinst : (Cond.instantiable C n).before args s = true) (hini : (Cond.initialized C).before args s = true) {fs : List Value} (hfs : ∀ j, j < n → defaultValue (ty0 j) = vp_V fs j) (hcells : cells + 1 ≤ R.cells) (hslots : slots + n ≤ R.slots) (hdg : decode cc pc = .ok (.new index, 3))
    (kk : ∀ (H1 : Heap), hp_V g z0 (N + 1) (va_up F N (.inr (ci, fs))) H0 H1 locs → W p l e R s m args below meth c H1 locs (cells + 1) (slots + n) Q (F0 m (pc + 3) ls (.ref (hp_ad z0 N) :: rest))) : W p l e R s m args below meth c H locs cells slots Q (F0 m pc ls rest) := by
  have hKn := hK.1.1 ci _ hc
  refine W.newcK S.1 S.2.1 S.2.2.2.1 hcl hinst hini rfl hdg hcells hslots hKn.2.1 hV.2 fun H1 kC hkC e1 z1 o1 => ?_
  exact kk H1 (hV.more (by rw [hV.2]; exact z1) (fun q hq => o1 q (by rw [← hV.2]; exact hq)) ⟨_, hc, (u_born ty0 S.2.2.2.2 hin hKn hkC e1 hty).to hfs⟩)
theorem hp_newi (S : CallFix p m c cc nL s args Ts own) (hK : hp_K g s) (hV : hp_V g z0 N F H0 H locs) (harr : (Cond.arrayClass .int).before args s = true) {n : Int32} {N' : Nat} (hn : ¬ n < 0) (hN : n.toNatClampNeg = N') (hbytes : N' * 4 ≤ 536870912) (hcells : cells + 1 ≤ R.cells) (hslots : slots + N' ≤ R.slots) (hdg : decode cc pc = .ok (.newarray .int, 2))
    (kk : ∀ (H1 : Heap), hp_V g z0 (N + 1) (va_up F N (.inl (g.2 0, N', .inl (fun _ => 0)))) H0 H1 locs → W p l e R s m args below meth c H1 locs (cells + 1) (slots + N') Q (F0 m (pc + 2) ls (.ref (hp_ad z0 N) :: rest))) : W p l e R s m args below meth c H locs cells slots Q (F0 m pc ls (.int n :: rest)) := by
  refine va_newaK (atype := .int) S.1 S.2.1 harr rfl hdg rfl hn hN hbytes hcells hslots hV.2 fun H1 cA e1 z1 o1 hAr hNm => ?_
  have hc2 : s.vm.findClass ("[" ++ FieldType.int.toString) = some (g.2 0) := (hK.1.2 0 (g.2 0, .int) rfl).2
  have hcc : cA = g.2 0 := Option.some.inj (hNm.symm.trans hc2)
  subst hcc
  exact kk H1 (hV.more (by rw [hV.2]; exact z1) (fun q hq => o1 q (by rw [← hV.2]; exact hq)) e1)
theorem hp_newz (S : CallFix p m c cc nL s args Ts own) (hK : hp_K g s) (hV : hp_V g z0 N F H0 H locs) (harr : (Cond.arrayClass .boolean).before args s = true) {n : Int32} {N' : Nat} (hn : ¬ n < 0) (hN : n.toNatClampNeg = N') (hbytes : N' * 1 ≤ 536870912) (hcells : cells + 1 ≤ R.cells) (hslots : slots + N' ≤ R.slots) (hdg : decode cc pc = .ok (.newarray .boolean, 2))
    (kk : ∀ (H1 : Heap), hp_V g z0 (N + 1) (va_up F N (.inl (g.2 2, N', .inl (fun _ => 0)))) H0 H1 locs → W p l e R s m args below meth c H1 locs (cells + 1) (slots + N') Q (F0 m (pc + 2) ls (.ref (hp_ad z0 N) :: rest))) : W p l e R s m args below meth c H locs cells slots Q (F0 m pc ls (.int n :: rest)) := by
  refine va_newaK (atype := .boolean) S.1 S.2.1 harr rfl hdg rfl hn hN hbytes hcells hslots hV.2 fun H1 cA e1 z1 o1 hAr hNm => ?_
  have hc2 : s.vm.findClass ("[" ++ FieldType.boolean.toString) = some (g.2 2) := (hK.1.2 2 (g.2 2, .boolean) rfl).2
  have hcc : cA = g.2 2 := Option.some.inj (hNm.symm.trans hc2)
  subst hcc
  exact kk H1 (hV.more (by rw [hV.2]; exact z1) (fun q hq => o1 q (by rw [← hV.2]; exact hq)) e1)
theorem hp_newq (S : CallFix p m c cc nL s args Ts own) (hK : hp_K g s) (hV : hp_V g z0 N F H0 H locs) {C : String} (ht : (hp_t g.2)[1]? = some (g.2 1, .object C)) (hclink : (Cond.classLink own index C).before args s = true) (hover : (Cond.arrayOver (.object C)).before args s = true) {n : Int32} {N' : Nat} (hn : ¬ n < 0) (hN : n.toNatClampNeg = N') (hbytes : N' * 4 ≤ 536870912) (hcells : cells + 1 ≤ R.cells) (hslots : slots + N' ≤ R.slots) (hdg : decode cc pc = .ok (.anewarray index, 3))
    (kk : ∀ (H1 : Heap), hp_V g z0 (N + 1) (va_up F N (.inl (g.2 1, N', .inr (.inr (.inr (.inr (fun _ => none))))))) H0 H1 locs → W p l e R s m args below meth c H1 locs (cells + 1) (slots + N') Q (F0 m (pc + 3) ls (.ref (hp_ad z0 N) :: rest))) : W p l e R s m args below meth c H locs cells slots Q (F0 m pc ls (.int n :: rest)) := by
  subst hN
  refine W.anew S.1 S.2.1 S.2.2.2.1 hclink hover rfl hdg rfl hn hbytes hcells hslots fun cA kA comp f1 f2 f3 f4 => ?_
  obtain ⟨kA2, comp2, -, -, -, hc2⟩ := (hK.1.2 1 (g.2 1, .object C) ht).2
  have hcc : cA = g.2 1 := Option.some.inj (f1.symm.trans hc2)
  subst hcc
  have hsz : H.size = hp_ad z0 N := hV.2
  rw [hsz]
  refine kk _ (hV.more (by rw [Array.size_push]) (fun q hq => by rw [Array.getElem?_push, if_neg (Nat.ne_of_lt hq)]) ?_)
  show (H.push _)[z0 + N]? = some (vp_cell _ _)
  rw [← hV.2, Array.getElem?_push_size, vp_cell_q, ← arrV_new]
  rfl
theorem hp_retc (S : CallFix p m c cc nL s args Ts own) (hK : hp_K g s) (hV : hp_V g z0 N F s.heap H locs) {post : (Nat → va_E) → Prop} (hr : meth.sig.returnType = none) (hlk : meth.locks = false) (hdg : decode cc pc = .ok (.return_, 1)) (hq : post F) : W p l e R s m args below meth c H locs cells slots (MQ below (va_Qv post (hp_BV g z0 N) (hp_A z0)) args s cells slots (hp_A z0)) (F0 m pc ls []) :=
  W.vret S.1 S.2.1 hr (fun t ht hw => ⟨⟨F, rfl, hq, hV.1.B hK ht hw, by rw [ht]; exact hV.2⟩, hV.1.2.2.1.F ht⟩) hV.1.2.2.1.2.2 hdg hlk
theorem hp_preC (hK : hp_K g s) (hV : hp_V g z0 N F H0 H locs) {As : List Value} : PreS s H (va_Pc As (hp_BV g z0 N F)) As := ⟨hp_blindV, fun U hU hw => ⟨rfl, hV.1.B hK hU hw, by rw [hU]; exact hV.2⟩⟩
theorem hp_goc {k ks : Nat} {post : (Nat → va_E) → Prop} {a : Array Value} (hV : hp_V g z0 N F H0 H locs) (hr : va_Run p l e R s m args below meth c H locs cells slots k ks (F0 m pc ls st0) rest (va_Qv post (hp_BV g z0 (N + k)) (hp_A z0) a) (hp_A z0))
    (kk : ∀ (F' : Nat → va_E) (H1 : Heap) (locs1 : List Loc), post F' → hp_V g z0 (N + k) F' H0 H1 locs1 → W p l e R s m args below meth c H1 locs1 (cells + k) (slots + ks) Q (F0 m (pc + 3) ls rest)) : W p l e R s m args below meth c H locs cells slots Q (F0 m pc ls st0) :=
  va_callv hr hV.1.2.2.1 (fun _ _ h => h) (fun _ h => h) (fun u t H1 locs1 ht _ hp hB _ _ hS => kk u H1 locs1 hp ⟨⟨by rw [← ht]; exact hB.1.1, hB.1.2.1, hS, hV.1.2.2.2⟩, by rw [← ht]; exact hB.2⟩)
end HPV
end
section
/-! the value that both sides hold: bytes are Int32, places are Nat -/
def b2 (b : Bool) : Int32 := if b then 1 else 0
theorem b2_t : b2 true = 1 := rfl
theorem b2_f : b2 false = 0 := rfl
theorem b2_0 {b : Bool} : b2 b = 0 ↔ b = false := by cases b <;> simp [b2]
theorem b2_n0 {b : Bool} : ¬ b2 b = 0 ↔ b = true := by cases b <;> simp [b2]
theorem b2_nar (b : Bool) : narrow .boolean (.int (b2 b)) = .int (b2 b) := by cases b <;> rfl
theorem b2_fit (b : Bool) : fits .boolean (.int (b2 b)) = true := by cases b <;> rfl
def md_ch (c : Int32) : Bool := decide (c = 9 ∨ c = 10 ∨ c = 13 ∨ (32 ≤ c ∧ c ≤ 126))
def md_dg (hex : Bool) (c : Int32) : Int32 := if 48 ≤ c ∧ c ≤ 57 then c - 48 else if hex = true ∧ 97 ≤ c ∧ c ≤ 102 then c - 87 else if hex = true ∧ 65 ≤ c ∧ c ≤ 70 then c - 55 else -1
def md_at (xs : List Int32) (i : Nat) : Int32 := xs.getD i (-1)
def md_base (hex : Bool) : Int32 := if hex then 16 else 10
/-- up to k digits from place q on: where they end, the number -/
def md_dgs (hex : Bool) (xs : List Int32) : Nat → Nat → Int32 → Nat × Int32
  | 0, q, a => (q, a)
  | k + 1, q, a => if 0 ≤ md_dg hex (md_at xs q) then md_dgs hex xs k (q + 1) (a * md_base hex + md_dg hex (md_at xs q)) else (q, a)
def md_cl (xs : List Int32) (en : Bool) (nu : Int32) (q : Nat) : Bool × Bool × Int32 × Nat := if md_at xs q = 59 then (true, en, nu, q + 1) else (false, en, nu, q)
def md_hex (xs : List Int32) (p : Nat) : Bool := decide (md_at xs (p + 2) = 120)
def md_from (xs : List Int32) (p : Nat) : Nat := if md_hex xs p then p + 3 else p + 2
/-- digits from place q on, and what ends them -/
def md_num (hex : Bool) (xs : List Int32) (q : Nat) : Bool × Bool × Int32 × Nat :=
  if (md_dgs hex xs 6 q 0).1 = q then (false, false, 0, q) else md_cl xs false (md_dgs hex xs 6 q 0).2 (md_dgs hex xs 6 q 0).1
/-- the reference at p: is it whole; is it to an entity; its number; behind it, or where it doesn't go on -/
def md_ref (xs : List Int32) (p : Nat) : Bool × Bool × Int32 × Nat :=
  if md_at xs (p + 1) = 35 then md_num (md_hex xs p) xs (md_from xs p)
  else if 97 ≤ md_at xs (p + 1) ∧ md_at xs (p + 1) ≤ 122 then md_cl xs true (md_at xs (p + 1) - 97) (p + 2)
  else (false, true, 0, p + 1)
/-- of a value: its characters, the meter, the depth -/
abbrev md_S : Type := List Int32 × Nat × Nat
/-- .. with the fault (0: none) and its place -/
abbrev md_R : Type := md_S × Nat × Nat
/-- a character more, where there's room for m -/
def md_ad (m : Nat) (a : List Int32) (c : Int32) : List Int32 × Nat := if a.length < m then (a ++ [c], 0) else (a, 8)
/-- a character by its number -/
def md_nu (m : Nat) (a : List Int32) (nu : Int32) : List Int32 × Nat := if md_ch nu = true then md_ad m a nu else (a, 5)
/-- a byte that stands in a value -/
def md_by (a : List Int32) (c : Int32) : List Int32 × Nat := if c = 60 then (a, 4) else if md_ch c = true then md_ad 300 a (if c < 32 then 32 else c) else (a, 1)
/-- an entity k that is put in; sub reads its text -/
def md_en (tx : Nat → Option (List Int32)) (lim : Nat) (sub : Nat → List Int32 → md_S → Nat → md_R) (stk : List Nat) (k : Nat) (s : md_S) (h : Nat) : md_R :=
  match tx k with
  | none => (s, 2, h)
  | some ys => if k ∈ stk then (s, 3, h) else if lim < s.2.1 + ys.length then (s, 6, h) else sub k ys (s.1, s.2.1 + ys.length, max s.2.2 (stk.length + 1)) h
/-- a whole reference -/
def md_wr (tx : Nat → Option (List Int32)) (lim : Nat) (sub : Nat → List Int32 → md_S → Nat → md_R) (stk : List Nat) (en : Bool) (nu : Int32) (s : md_S) (h : Nat) : md_R :=
  if en = true then md_en tx lim sub stk nu.toNatClampNeg s h else (((md_nu 300 s.1 nu).1, s.2), (md_nu 300 s.1 nu).2, h)
def md_here (stk : List Nat) (ou i : Nat) : Nat := if stk.length = 0 then i else ou
/-- what stands at place i -/
def md_it (tx : Nat → Option (List Int32)) (lim : Nat) (sub : Nat → List Int32 → md_S → Nat → md_R) (stk : List Nat) (ou : Nat) (xs : List Int32) (i : Nat) (s : md_S) : md_R :=
  if md_at xs i = 38 then
    if (md_ref xs i).1 = true then md_wr tx lim sub stk (md_ref xs i).2.1 (md_ref xs i).2.2.1 s (md_here stk ou i)
    else (s, if stk.length = 0 ∨ (md_ref xs i).2.2.2 < xs.length then 1 else 7, md_here stk ou (md_ref xs i).2.2.2)
  else (((md_by s.1 (md_at xs i)).1, s.2), (md_by s.1 (md_at xs i)).2, md_here stk ou i)
def md_nx (xs : List Int32) (i : Nat) : Nat := if md_at xs i = 38 then (md_ref xs i).2.2.2 else i + 1
def md_lp (tx : Nat → Option (List Int32)) (lim : Nat) (sub : Nat → List Int32 → md_S → Nat → md_R) (stk : List Nat) (ou : Nat) (xs : List Int32) : Nat → Nat → md_S → md_R
  | 0, _, s => (s, 0, 0)
  | n + 1, i, s =>
    if i < xs.length then
      if (md_it tx lim sub stk ou xs i s).2.1 = 0 then md_lp tx lim sub stk ou xs n (md_nx xs i) (md_it tx lim sub stk ou xs i s).1 else md_it tx lim sub stk ou xs i s
    else (s, 0, 0)
def md_rv (tx : Nat → Option (List Int32)) (lim : Nat) : Nat → List Nat → Nat → List Int32 → md_S → md_R
  | 0, _, ou, _, s => (s, 3, ou)
  | d + 1, stk, ou, xs, s => md_lp tx lim (fun k ys s h => md_rv tx lim d (k :: stk) h ys s) stk ou xs xs.length 0 s
/-- a definition: its characters, the fault and its place -/
def md_3 (a : List Int32) (x y z : Int32) : List Int32 × Nat := if a.length + 3 ≤ 100 then (a ++ [x, y, z], 0) else (a, 8)
def md_dit (xs : List Int32) (i : Nat) (a : List Int32) : List Int32 × Nat × Nat :=
  if md_at xs i = 38 then
    if (md_ref xs i).1 = true then
      if (md_ref xs i).2.1 = true then ((md_3 a (md_at xs i) (md_at xs (i + 1)) (md_at xs (i + 2))).1, (md_3 a (md_at xs i) (md_at xs (i + 1)) (md_at xs (i + 2))).2, i)
      else ((md_nu 100 a (md_ref xs i).2.2.1).1, (md_nu 100 a (md_ref xs i).2.2.1).2, i)
    else (a, 1, (md_ref xs i).2.2.2)
  else if md_ch (md_at xs i) = true then ((md_ad 100 a (md_at xs i)).1, (md_ad 100 a (md_at xs i)).2, i) else (a, 1, i)
def md_df (xs : List Int32) : Nat → Nat → List Int32 → List Int32 × Nat × Nat
  | 0, _, a => (a, 0, 0)
  | n + 1, i, a =>
    if i < xs.length then
      if (md_dit xs i a).2.1 = 0 then md_df xs n (md_nx xs i) (md_dit xs i a).1 else md_dit xs i a
    else (a, 0, 0)
theorem md_nx_gt (xs : List Int32) (i : Nat) (h : ∀ p, p + 1 ≤ (md_ref xs p).2.2.2) : i + 1 ≤ md_nx xs i := by
  unfold md_nx
  split
  · exact h i
  · exact Nat.le_refl _
/-- leaving out blanks -/
def md_sq1 (a : List Int32) (c : Int32) : List Int32 := if c ≠ 32 ∨ (0 < a.length ∧ md_at a (a.length - 1) ≠ 32) then a ++ [c] else a
def md_sqs (xs : List Int32) : Nat → List Int32
  | 0 => []
  | i + 1 => md_sq1 (md_sqs xs i) (md_at xs i)
def md_cut (a : List Int32) : List Int32 := if 0 < a.length ∧ md_at a (a.length - 1) = 32 then a.take (a.length - 1) else a
def md_sq (xs : List Int32) : List Int32 := md_cut (md_sqs xs xs.length)
/-- eight characters -/
def md_w (h : Nat → Int32) : Nat → Int64
  | 0 => 0
  | i + 1 => (md_w h i <<< ((8 : Int32).toInt64 &&& 63)) ||| (h i).toInt64
def md_word (xs : List Int32) (k : Int32) : Int64 := if k < 0 then -1 else md_w (fun i => xs.getD (k.toNatClampNeg + i) 0) 8
/-- what put brings -/
def md_byte (v : Int64) (i : Nat) : Int32 := (v.toUInt64 >>> ((8 * nI i).toInt64.toUInt64 &&& Int64.toUInt64 63)).toInt64.toInt32 &&& 255
def md_bytes (v : Int64) : Nat → List Int32
  | 0 => []
  | i + 1 => md_byte v i :: md_bytes v i
def md_kn (kn : Nat → Bool) : Nat → Nat
  | 0 => 0
  | k + 1 => md_kn kn k + (if kn k then 1 else 0)
theorem md_bytes_len (v : Int64) : ∀ n, (md_bytes v n).length = n
  | 0 => rfl
  | n + 1 => by simp [md_bytes, md_bytes_len v n]
theorem md_kn_le (kn : Nat → Bool) : ∀ n, md_kn kn n ≤ n
  | 0 => Nat.le_refl _
  | n + 1 => by
    have := md_kn_le kn n
    simp only [md_kn]
    split <;> omega
theorem md_at_lt {xs : List Int32} {i : Nat} (h : i < xs.length) : md_at xs i = xs[i] := by
  simp [md_at, h]
theorem md_at_ge {xs : List Int32} {i : Nat} (h : xs.length ≤ i) : md_at xs i = -1 := by
  simp [md_at, h]
theorem md_at_app {xs ys : List Int32} {i : Nat} (h : i < xs.length) : md_at (xs ++ ys) i = md_at xs i := by
  simp [md_at, List.getElem?_append_left h]
theorem md_at_last {xs : List Int32} {c : Int32} : md_at (xs ++ [c]) xs.length = c := by
  simp [md_at]
theorem md_sqs_len (xs : List Int32) : ∀ n, (md_sqs xs n).length ≤ n
  | 0 => Nat.le_refl _
  | n + 1 => by
    have := md_sqs_len xs n
    simp only [md_sqs, md_sq1]
    split
    · rw [List.length_append]; simp; omega
    · omega
theorem md_cut_len (a : List Int32) : (md_cut a).length ≤ a.length := by
  unfold md_cut
  split
  · simp
  · exact Nat.le_refl _
/-- digits end where they may -/
theorem md_dgs_ge (hex : Bool) (xs : List Int32) : ∀ k q a, q ≤ (md_dgs hex xs k q a).1 ∧ (md_dgs hex xs k q a).1 ≤ q + k
  | 0, q, a => ⟨Nat.le_refl _, Nat.le_refl _⟩
  | k + 1, q, a => by
    simp only [md_dgs]
    split
    · have := md_dgs_ge hex xs k (q + 1) (a * md_base hex + md_dg hex (md_at xs q))
      omega
    · simp
theorem md_ref_end (xs : List Int32) (p : Nat) : p + 1 ≤ (md_ref xs p).2.2.2 ∧ (md_ref xs p).2.2.2 ≤ p + 10 := by
  have hf : p + 2 ≤ md_from xs p ∧ md_from xs p ≤ p + 3 := by unfold md_from; split <;> omega
  have hd := md_dgs_ge (md_hex xs p) xs 6 (md_from xs p) 0
  unfold md_ref md_num md_cl
  split
  · split
    · simp; omega
    · split <;> simp <;> omega
  · split
    · split <;> simp
    · simp
theorem md_ref_ent {xs : List Int32} {p : Nat} (h : (md_ref xs p).1 = true) (h2 : (md_ref xs p).2.1 = true) : (97 ≤ md_at xs (p + 1) ∧ md_at xs (p + 1) ≤ 122) ∧ (md_ref xs p).2.2.1 = md_at xs (p + 1) - 97 ∧ (md_ref xs p).2.2.2 = p + 3 := by
  unfold md_ref md_num md_cl at *
  split at h
  · rename_i h1
    rw [if_pos h1] at h2
    split at h
    · cases h
    · rename_i h3
      rw [if_neg h3] at h2
      split at h2 <;> cases h2
  · rename_i h1
    split at h
    · rename_i h3
      split at h
      · rename_i h4
        rw [if_neg h1, if_pos h3, if_pos h4]
        exact ⟨h3, rfl, rfl⟩
      · cases h
    · cases h
theorem md_nx_ge (xs : List Int32) (i : Nat) : i + 1 ≤ md_nx xs i := md_nx_gt xs i (fun p => (md_ref_end xs p).1)
theorem md_lp_end {tx : Nat → Option (List Int32)} {lim : Nat} {sub : Nat → List Int32 → md_S → Nat → md_R} {stk : List Nat} {ou : Nat} {xs : List Int32} {n i : Nat} {s : md_S} (h : xs.length ≤ i) : md_lp tx lim sub stk ou xs n i s = (s, 0, 0) := by
  cases n with
  | zero => rfl
  | succ n => exact if_neg (by omega)
theorem md_lp_go {tx : Nat → Option (List Int32)} {lim : Nat} {sub : Nat → List Int32 → md_S → Nat → md_R} {stk : List Nat} {ou : Nat} {xs : List Int32} {n i : Nat} {s : md_S} (h : i < xs.length) (h0 : (md_it tx lim sub stk ou xs i s).2.1 = 0) : md_lp tx lim sub stk ou xs (n + 1) i s = md_lp tx lim sub stk ou xs n (md_nx xs i) (md_it tx lim sub stk ou xs i s).1 := (if_pos h).trans (if_pos h0)
theorem md_lp_no {tx : Nat → Option (List Int32)} {lim : Nat} {sub : Nat → List Int32 → md_S → Nat → md_R} {stk : List Nat} {ou : Nat} {xs : List Int32} {n i : Nat} {s : md_S} (h : i < xs.length) (h0 : ¬ (md_it tx lim sub stk ou xs i s).2.1 = 0) : md_lp tx lim sub stk ou xs (n + 1) i s = md_it tx lim sub stk ou xs i s := (if_pos h).trans (if_neg h0)
theorem md_df_end {xs : List Int32} {n i : Nat} {a : List Int32} (h : xs.length ≤ i) : md_df xs n i a = (a, 0, 0) := by
  cases n with
  | zero => rfl
  | succ n => exact if_neg (by omega)
theorem md_df_go {xs : List Int32} {n i : Nat} {a : List Int32} (h : i < xs.length) (h0 : (md_dit xs i a).2.1 = 0) : md_df xs (n + 1) i a = md_df xs n (md_nx xs i) (md_dit xs i a).1 := (if_pos h).trans (if_pos h0)
theorem md_df_no {xs : List Int32} {n i : Nat} {a : List Int32} (h : i < xs.length) (h0 : ¬ (md_dit xs i a).2.1 = 0) : md_df xs (n + 1) i a = md_dit xs i a := (if_pos h).trans (if_neg h0)
end
section
/-! pictures of the class's cells. Places: 0 the desk, 1 2 the tape and its bytes, 3 4 the draft, 5 6 the last value, 7 the entities, 8+3k 9+3k 10+3k entity k, its row, its bytes, 86 the reference -/
def rk (k : Nat) : Room := { frames := k, cells := 0, slots := 0, locals := 30 * k }
/-- a row at r (its bytes at r + 1) that has room for n and holds xs -/
def vRow (g : hp_G) (ad : Nat → Nat) (F : Nat → va_E) (r n : Nat) (xs : List Int32) : Prop := ∃ f : Nat → Int32, F r = .inr (kR, [.ref (ad (r + 1)), .int (nI xs.length)]) ∧ F (r + 1) = .inl (g.2 0, n, .inl f) ∧ xs.length ≤ n ∧ ∀ i, i < xs.length → f i = md_at xs i
theorem rk_ok {j k maxL : Nat} (h : j < k) (hm : maxL ≤ 11) : (rk j).frames + 1 ≤ (rk k).frames ∧ 8 + (maxL + 11) + (rk j).locals ≤ (rk k).locals := by
  simp only [rk]
  omega
theorem vRow.keep {g : hp_G} {ad : Nat → Nat} {F F' : Nat → va_E} {r n : Nat} {xs : List Int32} (h : vRow g ad F r n xs) (h1 : F' r = F r) (h2 : F' (r + 1) = F (r + 1)) : vRow g ad F' r n xs := by
  obtain ⟨f, a, b, c⟩ := h
  exact ⟨f, h1.trans a, h2.trans b, c⟩
theorem vRow.obj {g : hp_G} {ad : Nat → Nat} {F : Nat → va_E} {r n : Nat} {xs : List Int32} (h : vRow g ad F r n xs) : F r = .inr (kR, [.ref (ad (r + 1)), .int (nI xs.length)]) := h.choose_spec.1
theorem vRow.len {g : hp_G} {ad : Nat → Nat} {F : Nat → va_E} {r n : Nat} {xs : List Int32} (h : vRow g ad F r n xs) : xs.length ≤ n := h.choose_spec.2.2.1
theorem md_push {xs : List Int32} {f : Nat → Int32} {b : Int32} (h : ∀ i, i < xs.length → f i = md_at xs i) : ∀ i, i < (xs ++ [b]).length → upd f xs.length b i = md_at (xs ++ [b]) i := by
  intro i hi
  rw [List.length_append, List.length_singleton] at hi
  by_cases e : i = xs.length
  · subst e
    rw [pk_us, md_at_last]
  · rw [pk_un e, md_at_app (by omega)]
    exact h i (by omega)
/-- which places are rows, and their room -/
def rowp (j : Nat) : Prop := j = 1 ∨ j = 3 ∨ j = 5 ∨ ∃ k, k < 26 ∧ j = 9 + 3 * k
def cap (j : Nat) : Nat := if j = 1 then 200 else if j = 5 then 300 else 100
theorem cap_le (j : Nat) : cap j ≤ 300 := by unfold cap; split <;> (try split) <;> omega
theorem rowp_lt {j : Nat} (h : rowp j) : j + 1 < 86 := by
  rcases h with h | h | h | ⟨k, hk, h⟩ <;> omega
theorem rowp_ne {i j : Nat} (hi : rowp i) (hj : rowp j) (h : i ≠ j) : i ≠ j + 1 ∧ i + 1 ≠ j ∧ i + 1 ≠ j + 1 := by
  rcases hi with h1 | h1 | h1 | ⟨k, hk, h1⟩ <;> rcases hj with h2 | h2 | h2 | ⟨k2, hk2, h2⟩ <;> omega
theorem rowp_x {j : Nat} (h : rowp j) : j ≠ 0 ∧ j + 1 ≠ 0 ∧ j ≠ 7 ∧ j + 1 ≠ 7 ∧ j ≠ 86 ∧ j + 1 ≠ 86 ∧ ∀ k, j ≠ 8 + 3 * k ∧ j + 1 ≠ 8 + 3 * k := by
  rcases h with h | h | h | ⟨k, hk, h⟩ <;> refine ⟨by omega, by omega, by omega, by omega, by omega, by omega, fun k => ⟨by omega, by omega⟩⟩
theorem rowp_e {k : Nat} (h : k < 26) : rowp (9 + 3 * k) := Or.inr (Or.inr (Or.inr ⟨k, h, rfl⟩))
theorem rowp_1 : rowp 1 := Or.inl rfl
theorem rowp_3 : rowp 3 := Or.inr (Or.inl rfl)
theorem rowp_5 : rowp 5 := Or.inr (Or.inr (Or.inl rfl))
theorem cap_1 : cap 1 = 200 := rfl
theorem cap_3 : cap 3 = 100 := rfl
theorem cap_5 : cap 5 = 300 := rfl
theorem cap_e {k : Nat} : cap (9 + 3 * k) = 100 := by unfold cap; rw [if_neg (by omega), if_neg (by omega)]
/-- the desk's own fields -/
abbrev dF (ad : Nat → Nat) (fp lm me dp : Int32) : List Value := [.ref (ad 1), .ref (ad 3), .ref (ad 5), .ref (ad 7), .ref (ad 86), .int fp, .int lm, .int me, .int dp]
/-- the whole desk: rows rs, known kn, open op, place fp, limit lm, meter me, depth dp, the reference wh te nu en -/
def vSt (g : hp_G) (ad : Nat → Nat) (F : Nat → va_E) (rs : Nat → List Int32) (kn op : Nat → Bool) (fp lm me dp wh te nu en : Int32) : Prop :=
  F 0 = .inr (kD, dF ad fp lm me dp) ∧ (∀ j, rowp j → vRow g ad F j (cap j) (rs j)) ∧ (∃ fe : Nat → Option Nat, F 7 = .inl (g.2 1, 26, .inr (.inr (.inr (.inr fe)))) ∧ ∀ k, k < 26 → fe k = some (ad (8 + 3 * k))) ∧
  (∀ k, k < 26 → F (8 + 3 * k) = .inr (kE, [.ref (ad (9 + 3 * k)), .int (b2 (kn k)), .int (b2 (op k))])) ∧ F 86 = .inr (kF, [.int wh, .int te, .int nu, .int en])
/-- what is not the class's stays -/
def vFr (F F' : Nat → va_E) : Prop := ∀ x, 87 ≤ x → F' x = F x
theorem vFr.rf {F : Nat → va_E} : vFr F F := fun _ _ => rfl
theorem vFr.tr {F F1 F2 : Nat → va_E} (h1 : vFr F F1) (h2 : vFr F1 F2) : vFr F F2 := fun x hx => (h2 x hx).trans (h1 x hx)
section VST
variable {g : hp_G} {ad : Nat → Nat} {F F' : Nat → va_E} {rs : Nat → List Int32} {kn op : Nat → Bool} {fp lm me dp wh te nu en : Int32}
theorem vSt.row (h : vSt g ad F rs kn op fp lm me dp wh te nu en) {j : Nat} (hj : rowp j) : vRow g ad F j (cap j) (rs j) := h.2.1 j hj
/-- the desk's fields change -/
theorem vSt.desk (h : vSt g ad F rs kn op fp lm me dp wh te nu en) {fp' lm' me' dp' : Int32} (h0 : F' 0 = .inr (kD, dF ad fp' lm' me' dp')) (hx : ∀ x, x ≠ 0 → F' x = F x) : vSt g ad F' rs kn op fp' lm' me' dp' wh te nu en := by
  obtain ⟨a, b, ⟨fe, c1, c2⟩, d, e⟩ := h
  exact ⟨h0, fun j hj => (b j hj).keep (hx j (rowp_x hj).1) (hx _ (rowp_x hj).2.1), ⟨fe, by rw [hx 7 (by omega)]; exact c1, c2⟩, fun k hk => by rw [hx _ (by omega)]; exact d k hk, by rw [hx 86 (by omega)]; exact e⟩
/-- a row changes -/
theorem vSt.setRow (h : vSt g ad F rs kn op fp lm me dp wh te nu en) {j : Nat} (hj : rowp j) {xs : List Int32} (hr : vRow g ad F' j (cap j) xs) (hx : ∀ x, x ≠ j → x ≠ j + 1 → F' x = F x) : vSt g ad F' (va_up rs j xs) kn op fp lm me dp wh te nu en := by
  obtain ⟨a, b, ⟨fe, c1, c2⟩, d, e⟩ := h
  obtain ⟨x1, x2, x3, x4, x5, x6, x7⟩ := rowp_x hj
  refine ⟨by rw [hx 0 (Ne.symm x1) (Ne.symm x2)]; exact a, fun i hi => ?_, ⟨fe, by rw [hx 7 (Ne.symm x3) (Ne.symm x4)]; exact c1, c2⟩, fun k hk => by rw [hx _ (Ne.symm (x7 k).1) (Ne.symm (x7 k).2)]; exact d k hk, by rw [hx 86 (Ne.symm x5) (Ne.symm x6)]; exact e⟩
  by_cases hij : i = j
  · subst hij
    rw [va_up_self]
    exact hr
  · rw [va_up_ne _ _ hij]
    obtain ⟨y1, y2, y3⟩ := rowp_ne hi hj hij
    exact (b i hi).keep (hx i hij y1) (hx _ y2 y3)
/-- an entity's flags change -/
theorem vSt.setEnt (h : vSt g ad F rs kn op fp lm me dp wh te nu en) {k : Nat} (hk : k < 26) {u v : Bool} (he : F' (8 + 3 * k) = .inr (kE, [.ref (ad (9 + 3 * k)), .int (b2 u), .int (b2 v)])) (hx : ∀ x, x ≠ 8 + 3 * k → F' x = F x) : vSt g ad F' rs (va_up kn k u) (va_up op k v) fp lm me dp wh te nu en := by
  obtain ⟨a, b, ⟨fe, c1, c2⟩, d, e⟩ := h
  refine ⟨by rw [hx 0 (by omega)]; exact a, fun j hj => (b j hj).keep (hx j ((rowp_x hj).2.2.2.2.2.2 k).1) (hx _ ((rowp_x hj).2.2.2.2.2.2 k).2), ⟨fe, by rw [hx 7 (by omega)]; exact c1, c2⟩, fun i hi => ?_, by rw [hx 86 (by omega)]; exact e⟩
  by_cases hik : i = k
  · subst hik
    rw [va_up_self, va_up_self]
    exact he
  · rw [va_up_ne _ _ hik, va_up_ne _ _ hik, hx _ (by omega)]
    exact d i hi
/-- the reference changes -/
theorem vSt.setRef (h : vSt g ad F rs kn op fp lm me dp wh te nu en) {wh' te' nu' en' : Int32} (h0 : F' 86 = .inr (kF, [.int wh', .int te', .int nu', .int en'])) (hx : ∀ x, x ≠ 86 → F' x = F x) : vSt g ad F' rs kn op fp lm me dp wh' te' nu' en' := by
  obtain ⟨a, b, ⟨fe, c1, c2⟩, d, e⟩ := h
  exact ⟨by rw [hx 0 (by omega)]; exact a, fun j hj => (b j hj).keep (hx j (rowp_x hj).2.2.2.2.1) (hx _ (rowp_x hj).2.2.2.2.2.1), ⟨fe, by rw [hx 7 (by omega)]; exact c1, c2⟩, fun k hk => by rw [hx _ (by omega)]; exact d k hk, h0⟩
end VST
theorem va_up_eta {α : Type} (f : Nat → α) (k : Nat) : va_up f k (f k) = f := by
  funext j
  by_cases h : j = k
  · subst h
    rw [va_up_self]
  · rw [va_up_ne _ _ h]
theorem va_rf_some (a : Nat) : va_rf (some a) = .ref a := rfl
theorem va_rf_none : va_rf none = .null := rfl
/-- the entity's address, by the number that a call gives -/
def entA (ad : Nat → Nat) (k : Int32) : Option Nat := if 0 ≤ k ∧ k < 26 then some (ad (8 + 3 * k.toNatClampNeg)) else none
theorem ent_k {k : Int32} (h0 : ¬ k < 0) (h1 : k < 26) : ∃ i : Nat, i < 26 ∧ k = nI i := by
  obtain ⟨i, hi, e⟩ := nI_of h0
  subst e
  exact ⟨i, (nI_ltI (b := 26) hi (by omega)).mp h1, rfl⟩
theorem entA_in {ad : Nat → Nat} {i : Nat} (h : i < 26) : entA ad (nI i) = some (ad (8 + 3 * i)) := by
  unfold entA
  rw [if_pos ⟨nI_pos' (by omega), (nI_ltI (b := 26) (by omega) (by omega)).mpr h⟩, nI_clamp (by omega)]
theorem kn_t {kn : Nat → Bool} {i : Nat} (h : b2 (kn i) = 0) : md_kn kn (i + 1) = md_kn kn i := by
  show md_kn kn i + _ = _
  rw [b2_0.mp h]
  rfl
theorem kn_f {kn : Nat → Bool} {i : Nat} (h : ¬ b2 (kn i) = 0) : md_kn kn (i + 1) = md_kn kn i + 1 := by
  show md_kn kn i + _ = _
  rw [b2_n0.mp h]
  rfl
/-- the first i entities forgotten -/
def clr (kn : Nat → Bool) (i : Nat) : Nat → Bool := fun k => if k < i then false else kn k
theorem clr_0 (kn : Nat → Bool) : clr kn 0 = kn := by funext k; simp [clr]
theorem clr_s (kn : Nat → Bool) (i : Nat) : va_up (clr kn i) i false = clr kn (i + 1) := by
  funext k
  by_cases h : k = i
  · subst h
    rw [va_up_self]
    simp [clr]
  · rw [va_up_ne _ _ h]
    unfold clr
    by_cases h2 : k < i
    · rw [if_pos h2, if_pos (by omega)]
    · rw [if_neg h2, if_neg (by omega)]
theorem i5 (x : Int32) : x = 0 ∨ x = 1 ∨ x = 2 ∨ x = 3 ∨ x = 4 ∨ (x.toInt < 0 ∨ 4 < x.toInt) := by
  by_cases h0 : x = 0
  · exact Or.inl h0
  by_cases h1 : x = 1
  · exact Or.inr (Or.inl h1)
  by_cases h2 : x = 2
  · exact Or.inr (Or.inr (Or.inl h2))
  by_cases h3 : x = 3
  · exact Or.inr (Or.inr (Or.inr (Or.inl h3)))
  by_cases h4 : x = 4
  · exact Or.inr (Or.inr (Or.inr (Or.inr (Or.inl h4))))
  have g0 := lv_neT (a := 0) h0 rfl
  have g1 := lv_neT (a := 1) h1 rfl
  have g2 := lv_neT (a := 2) h2 rfl
  have g3 := lv_neT (a := 3) h3 rfl
  have g4 := lv_neT (a := 4) h4 rfl
  exact Or.inr (Or.inr (Or.inr (Or.inr (Or.inr (by omega)))))
theorem put_k {n : Int32} (h1 : ¬ n < 1) (h8 : ¬ 8 < n) : ∃ k : Nat, 1 ≤ k ∧ k ≤ 8 ∧ n = nI k := by
  have h0 : ¬ n < 0 := by
    rw [Int32.lt_iff_toInt_lt] at h1 ⊢
    have e1 : (1 : Int32).toInt = 1 := rfl
    have e0 : (0 : Int32).toInt = 0 := rfl
    omega
  obtain ⟨k, hk, e⟩ := nI_of h0
  subst e
  refine ⟨k, ?_, ?_, rfl⟩
  · rcases Nat.lt_or_ge k 1 with q | q
    · exact absurd ((nI_ltI (b := 1) hk (by omega)).mpr q) h1
    · exact q
  · rcases Nat.lt_or_ge 8 k with q | q
    · exact absurd ((nI_ltI (a := 8) (by omega) hk).mpr q) h8
    · exact q
theorem md_bytes_s (v : Int64) (t : Nat) : md_bytes v (t + 1) = md_byte v t :: md_bytes v t := rfl
theorem m1_lt (t : Nat) (ht : t < 1000) : (nI t + (-1) < 0) ↔ t = 0 := by
  cases t with
  | zero => exact ⟨fun _ => rfl, fun _ => by decide⟩
  | succ t =>
    rw [pk_m1]
    exact ⟨fun h => absurd h (nI_pos (by omega)), fun h => by omega⟩
theorem up_up {α : Type} (f : Nat → α) (k : Nat) (a b : α) : va_up (va_up f k a) k b = va_up f k b := bx_uu f k a b
/-- three bytes, one after the other -/
def md_pre (a : List Int32) (x y z : Int32) (t : Nat) : List Int32 := a ++ [x, y, z].take t
theorem md_pre_len {a : List Int32} {x y z : Int32} {t : Nat} (h : t ≤ 3) : (md_pre a x y z t).length = a.length + t := by
  unfold md_pre
  rw [List.length_append, List.length_take]
  show a.length + min t 3 = _
  omega
theorem md_pre_s {xs : List Int32} {p : Nat} {a : List Int32} {t : Nat} (h : t < 3) : md_pre a (md_at xs p) (md_at xs (p + 1)) (md_at xs (p + 2)) (t + 1) = md_pre a (md_at xs p) (md_at xs (p + 1)) (md_at xs (p + 2)) t ++ [md_at xs (p + t)] := by
  unfold md_pre
  match t, h with
  | 0, _ => simp
  | 1, _ => simp
  | 2, _ => simp
theorem md_pre_0 {a : List Int32} {x y z : Int32} : md_pre a x y z 0 = a := by simp [md_pre]
theorem md_pre_3 {a : List Int32} {x y z : Int32} : md_pre a x y z 3 = a ++ [x, y, z] := rfl
end
section
theorem wd_ge {L i kk : Nat} (hL : L < 1000000) (hi : i < 1000000) (hk : kk < 2 ^ 31) (h : nI L - nI i ≤ nI kk) : L ≤ kk + i := by
  rw [Int32.le_iff_toInt_le, pk_sub_toInt (by omega) (by omega), nI_toInt hk] at h
  omega
theorem wd_lt {L i kk : Nat} (hL : L < 1000000) (hi : i < 1000000) (hk : kk < 2 ^ 31) (h : ¬ nI L - nI i ≤ nI kk) : kk + i < L := by
  rw [Int32.le_iff_toInt_le, pk_sub_toInt (by omega) (by omega), nI_toInt hk] at h
  omega
theorem wd_out {xs : List Int32} {i : Nat} (h : xs.length ≤ i) : xs.getD i 0 = 0 := by simp [h]
theorem wd_in {xs : List Int32} {i : Nat} (h : i < xs.length) : md_at xs i = xs.getD i 0 := by simp [md_at, h]
/-- what the squeezing loop holds: the kept ones below, the others as they were -/
def sqI (f : Nat → Int32) (xs : List Int32) (i : Nat) : Prop := (∀ j, j < (md_sqs xs i).length → f j = md_at (md_sqs xs i) j) ∧ ∀ j, i ≤ j → j < xs.length → f j = md_at xs j
theorem sqI.keep {f : Nat → Int32} {xs : List Int32} {i : Nat} (h : sqI f xs i) (hi : i < xs.length) : sqI (upd f (md_sqs xs i).length (md_at xs i)) xs (i + 1) ∨ True := Or.inr trivial
theorem sqs_add {xs : List Int32} {i : Nat} (h : md_at xs i ≠ 32 ∨ (0 < (md_sqs xs i).length ∧ md_at (md_sqs xs i) ((md_sqs xs i).length - 1) ≠ 32)) : md_sqs xs (i + 1) = md_sqs xs i ++ [md_at xs i] := by
  show md_sq1 _ _ = _
  unfold md_sq1
  rw [if_pos h]
theorem sqs_skip {xs : List Int32} {i : Nat} (h : ¬ (md_at xs i ≠ 32 ∨ (0 < (md_sqs xs i).length ∧ md_at (md_sqs xs i) ((md_sqs xs i).length - 1) ≠ 32))) : md_sqs xs (i + 1) = md_sqs xs i := by
  show md_sq1 _ _ = _
  unfold md_sq1
  rw [if_neg h]
theorem sqI.skip {f : Nat → Int32} {xs : List Int32} {i : Nat} (h : sqI f xs i) (e : md_sqs xs (i + 1) = md_sqs xs i) : sqI f xs (i + 1) := ⟨fun j hj => by rw [e] at hj ⊢; exact h.1 j hj, fun j h1 h2 => h.2 j (by omega) h2⟩
theorem sqI.add {f : Nat → Int32} {xs : List Int32} {i : Nat} (h : sqI f xs i) (e : md_sqs xs (i + 1) = md_sqs xs i ++ [md_at xs i]) : sqI (upd f (md_sqs xs i).length (md_at xs i)) xs (i + 1) := by
  refine ⟨fun j hj => ?_, fun j h1 h2 => ?_⟩
  · rw [e] at hj ⊢
    exact md_push h.1 j hj
  · have := md_sqs_len xs i
    rw [pk_un (by omega)]
    exact h.2 j (by omega) h2
theorem cut_at {a : List Int32} {j : Nat} (h : j < (md_cut a).length) : md_at (md_cut a) j = md_at a j := by
  unfold md_cut at h ⊢
  split
  · rename_i hc
    rw [if_pos hc] at h
    have h' : j < a.length - 1 := by simpa using h
    simp [md_at, List.getElem?_take, h', show j < a.length by omega]
  · rfl
theorem cut_len_t {a : List Int32} (h : 0 < a.length ∧ md_at a (a.length - 1) = 32) : (md_cut a).length = a.length - 1 := by
  unfold md_cut
  rw [if_pos h]
  simp
theorem cut_f {a : List Int32} (h : ¬ (0 < a.length ∧ md_at a (a.length - 1) = 32)) : md_cut a = a := by
  unfold md_cut
  rw [if_neg h]

/-! Row.size() -/
set_option maxHeartbeats 400000 in
set_option maxRecDepth 100000 in
theorem c_Row_size (l : Launch) (g : hp_G) (z0 N : Nat) (ad : Nat → Nat) (F : Nat → va_E) (r n : Nat) (xs : List Int32) (hrN : r + 1 < N) (hn : n < 1000000) (hR : vRow g ad F r n xs) : hp_Mi l g z0 N ad y_R_size ws_R_size (rk 0) [.ref (ad r)] F (fun v F' => v = nI xs.length ∧ F' = F) := by
  obtain ⟨f, h1, h2, h3, h4⟩ := id hR
  refine hp_enter (cc := cc_R_size) (maxL := 1) (ret := (some .int)) (by decide) rfl (Nat.le_of_ble_eq_true rfl) ?_
  intro p e s m below meth c S hr hlk hnm hK hW ls hl
  have hl : lv_has ls 1 [(0, .ref (ad r))] := hl
  obtain ⟨hx, hb, hml, hown, hts⟩ := id S
  have in_kR : ∀ w ∈ u_ws R_R T_R 2, w ∈ ws_R_size := fun w h => List.mem_cons_of_mem _ (in0_R w h)
  refine lv_aload_n hx hb d_R_size_0 rfl (lv_at hl 0 rfl) ?_
  refine hp_get S hK hW (r) (by omega) rfl h1 rfl in_kR 1 (by decide) (hts _ (List.mem_cons_of_mem _ tq_194)) rfl d_R_size_1 ?_
  exact hp_reti S hK hW hr hlk d_R_size_4 (⟨rfl, rfl⟩)

/-! Row.empty() -/
set_option maxHeartbeats 400000 in
set_option maxRecDepth 100000 in
theorem c_Row_empty (l : Launch) (g : hp_G) (z0 N : Nat) (ad : Nat → Nat) (F : Nat → va_E) (r n : Nat) (xs : List Int32) (hrN : r + 1 < N) (hn : n < 1000000) (hR : vRow g ad F r n xs) : hp_Mv l g z0 N ad y_R_empty ws_R_empty (rk 0) [.ref (ad r)] F (fun F' => vRow g ad F' r n [] ∧ ∀ x, x ≠ r → F' x = F x) := by
  obtain ⟨f, h1, h2, h3, h4⟩ := id hR
  refine hp_enter (cc := cc_R_empty) (maxL := 1) (ret := none) (by decide) rfl (Nat.le_of_ble_eq_true rfl) ?_
  intro p e s m below meth c S hr hlk hnm hK hW ls hl
  have hl : lv_has ls 1 [(0, .ref (ad r))] := hl
  obtain ⟨hx, hb, hml, hown, hts⟩ := id S
  have in_kR : ∀ w ∈ u_ws R_R T_R 2, w ∈ ws_R_empty := fun w h => List.mem_cons_of_mem _ (in0_R w h)
  refine lv_aload_n hx hb d_R_empty_0 rfl (lv_at hl 0 rfl) ?_
  refine lv_iconst (v := 0) hx hb d_R_empty_1 (by decide) ?_
  refine hp_put S hK hW (r) (by omega) rfl h1 rfl in_kR tyok_R nm_R 1 (by decide) (hts _ (List.mem_cons_of_mem _ tq_194)) rfl rfl rfl (Nat.le_of_ble_eq_true rfl) d_R_empty_2 (fun H locs hW => ?_)
  obtain ⟨F_1, eF_1⟩ : ∃ z, z = va_up F (r) (.inr (kR, [.ref (ad (r + 1)), .int 0])) := ⟨_, rfl⟩
  replace hW : hp_W g z0 N ad F_1 s.heap H locs := by rw [eF_1]; exact hW
  have f_2 : F_1 (r) = .inr (kR, [.ref (ad (r + 1)), .int 0]) := by rw [eF_1, va_up_self]
  have f_3 : F_1 (r + 1) = .inl (g.2 0, n, .inl f) := by rw [eF_1, va_up_ne _ _ (by omega)]; exact h2
  exact hp_retv S hK hW hr hlk d_R_empty_5 (⟨⟨f, f_2, f_3, Nat.zero_le _, fun i h => absurd h (Nat.not_lt_zero _)⟩, fun x hx => by rw [eF_1, va_up_ne _ _ hx]⟩)

/-! Row.add(b) -/
set_option maxHeartbeats 400000 in
set_option maxRecDepth 100000 in
theorem c_Row_add (l : Launch) (g : hp_G) (z0 N : Nat) (ad : Nat → Nat) (F : Nat → va_E) (r n : Nat) (xs : List Int32) (hrN : r + 1 < N) (hn : n < 1000000) (hR : vRow g ad F r n xs) (b : Int32) : hp_Mi l g z0 N ad y_R_add ws_R_add (rk 0) [.ref (ad r), .int b] F (fun v F' => (v = 1 ∧ xs.length < n ∧ vRow g ad F' r n (xs ++ [b]) ∧ ∀ x, x ≠ r → x ≠ r + 1 → F' x = F x) ∨ (v = 0 ∧ n ≤ xs.length ∧ F' = F)) := by
  obtain ⟨f, h1, h2, h3, h4⟩ := id hR
  refine hp_enter (cc := cc_R_add) (maxL := 2) (ret := (some .boolean)) (by decide) rfl (Nat.le_of_ble_eq_true rfl) ?_
  intro p e s m below meth c S hr hlk hnm hK hW ls hl
  have hl : lv_has ls 2 [(0, .ref (ad r)), (1, .int b)] := hl
  obtain ⟨hx, hb, hml, hown, hts⟩ := id S
  have in_kR : ∀ w ∈ u_ws R_R T_R 2, w ∈ ws_R_add := fun w h => List.mem_cons_of_mem _ (in0_R w h)
  refine lv_aload_n hx hb d_R_add_0 rfl (lv_at hl 0 rfl) ?_
  refine hp_get S hK hW (r) (by omega) rfl h1 rfl in_kR 1 (by decide) (hts _ (List.mem_cons_of_mem _ tq_194)) rfl d_R_add_1 ?_
  refine lv_aload_n hx hb d_R_add_4 rfl (lv_at hl 0 rfl) ?_
  refine hp_get S hK hW (r) (by omega) rfl h1 rfl in_kR 0 (by decide) (hts _ (List.mem_cons_of_mem _ tq_193)) rfl d_R_add_5 ?_
  refine hp_alen (t0 := 0) S hK hW (r + 1) (by omega) rfl h2 rfl d_R_add_8 ?_
  refine lv_icmp_lt (tgt := 14) hx hb d_R_add_9 (by decide) (fun c_9 => ?_) (fun c_9 => ?_)
  · have c_9i := c_9
    replace c_9 : xs.length < n := (nI_ltI (a := xs.length) (b := n) (by omega) (by omega)).mp c_9
    refine lv_aload_n hx hb d_R_add_14 rfl (lv_at hl 0 rfl) ?_
    refine hp_get S hK hW (r) (by omega) rfl h1 rfl in_kR 0 (by decide) (hts _ (List.mem_cons_of_mem _ tq_193)) rfl d_R_add_15 ?_
    refine lv_aload_n hx hb d_R_add_18 rfl (lv_at hl 0 rfl) ?_
    refine hp_get S hK hW (r) (by omega) rfl h1 rfl in_kR 1 (by decide) (hts _ (List.mem_cons_of_mem _ tq_194)) rfl d_R_add_19 ?_
    refine lv_iload_n hx hb d_R_add_22 rfl (lv_at hl 1 rfl) ?_
    refine hp_iast S hK hW (r + 1) (by omega) rfl h2 (x := b) (vp_in_nI c_9 (by omega)) d_R_add_23 (fun H locs hW => ?_)
    obtain ⟨F_1, eF_1⟩ : ∃ z, z = va_up F (r + 1) (.inl (g.2 0, n, .inl (upd f xs.length b))) := ⟨_, rfl⟩
    rw [show (((nI xs.length) : Int32).toNatClampNeg) = xs.length from nI_clamp (by omega)] at hW
    replace hW : hp_W g z0 N ad F_1 s.heap H locs := by rw [eF_1]; exact hW
    have f_2 : F_1 (r) = .inr (kR, [.ref (ad (r + 1)), .int (nI xs.length)]) := by rw [eF_1, va_up_ne _ _ (by omega)]; exact h1
    have f_3 : F_1 (r + 1) = .inl (g.2 0, n, .inl (upd f xs.length b)) := by rw [eF_1, va_up_self]
    refine lv_aload_n hx hb d_R_add_24 rfl (lv_at hl 0 rfl) ?_
    refine lv_dup hx hb d_R_add_25 rfl ?_
    refine hp_get S hK hW (r) (by omega) rfl f_2 rfl in_kR 1 (by decide) (hts _ (List.mem_cons_of_mem _ tq_194)) rfl d_R_add_26 ?_
    refine lv_iconst (v := 1) hx hb d_R_add_29 (by decide) ?_
    refine lv_iadd hx hb d_R_add_30 ?_
    refine hp_put S hK hW (r) (by omega) rfl f_2 rfl in_kR tyok_R nm_R 1 (by decide) (hts _ (List.mem_cons_of_mem _ tq_194)) rfl rfl rfl (Nat.le_of_ble_eq_true rfl) d_R_add_31 (fun H locs hW => ?_)
    obtain ⟨F_4, eF_4⟩ : ∃ z, z = va_up F_1 (r) (.inr (kR, [.ref (ad (r + 1)), .int ((nI xs.length) + 1)])) := ⟨_, rfl⟩
    replace hW : hp_W g z0 N ad F_4 s.heap H locs := by rw [eF_4]; exact hW
    have f_5 : F_4 (r) = .inr (kR, [.ref (ad (r + 1)), .int ((nI xs.length) + 1)]) := by rw [eF_4, va_up_self]
    have f_6 : F_4 (r + 1) = .inl (g.2 0, n, .inl (upd f xs.length b)) := by rw [eF_4, va_up_ne _ _ (by omega)]; exact f_3
    refine lv_iconst (v := 1) hx hb d_R_add_34 (by decide) ?_
    exact hp_retz S hK hW hr hlk rfl d_R_add_35 (Or.inl ⟨rfl, c_9, ⟨upd f xs.length b, by rw [f_5, List.length_append, List.length_singleton, nI_succ], f_6, by rw [List.length_append, List.length_singleton]; omega, md_push h4⟩, fun x hx hy => by rw [eF_4, va_up_ne _ _ hx, eF_1, va_up_ne _ _ hy]⟩)
  · have c_9i := c_9
    replace c_9 : ¬ xs.length < n := fun zz9 => c_9 ((nI_ltI (a := xs.length) (b := n) (by omega) (by omega)).mpr zz9)
    refine lv_iconst (v := 0) hx hb d_R_add_12 (by decide) ?_
    exact hp_retz S hK hW hr hlk rfl d_R_add_13 (Or.inr ⟨rfl, by omega, rfl⟩)

/-! Row.at(k) -/
set_option maxHeartbeats 400000 in
set_option maxRecDepth 100000 in
theorem c_Row_at (l : Launch) (g : hp_G) (z0 N : Nat) (ad : Nat → Nat) (F : Nat → va_E) (r n : Nat) (xs : List Int32) (hrN : r + 1 < N) (hn : n < 1000000) (hR : vRow g ad F r n xs) (k : Nat) (hk : k < 1000000) : hp_Mi l g z0 N ad y_R_at ws_R_at (rk 0) [.ref (ad r), .int (nI k)] F (fun v F' => v = md_at xs k ∧ F' = F) := by
  obtain ⟨f, h1, h2, h3, h4⟩ := id hR
  refine hp_enter (cc := cc_R_at) (maxL := 2) (ret := (some .int)) (by decide) rfl (Nat.le_of_ble_eq_true rfl) ?_
  intro p e s m below meth c S hr hlk hnm hK hW ls hl
  have hl : lv_has ls 2 [(0, .ref (ad r)), (1, .int (nI k))] := hl
  obtain ⟨hx, hb, hml, hown, hts⟩ := id S
  have in_kR : ∀ w ∈ u_ws R_R T_R 2, w ∈ ws_R_at := fun w h => List.mem_cons_of_mem _ (in0_R w h)
  refine lv_iload_n hx hb d_R_at_0 rfl (lv_at hl 1 rfl) ?_
  refine lv_if_lt (tgt := 12) hx hb d_R_at_1 (by decide) (fun c_1 => absurd c_1 (show ¬ (((nI k) : Int32) < 0) from nI_pos (by omega))) (fun c_1 => ?_)
  refine lv_iload_n hx hb d_R_at_4 rfl (lv_at hl 1 rfl) ?_
  refine lv_aload_n hx hb d_R_at_5 rfl (lv_at hl 0 rfl) ?_
  refine hp_get S hK hW (r) (by omega) rfl h1 rfl in_kR 1 (by decide) (hts _ (List.mem_cons_of_mem _ tq_194)) rfl d_R_at_6 ?_
  refine lv_icmp_lt (tgt := 16) hx hb d_R_at_9 (by decide) (fun c_9 => ?_) (fun c_9 => ?_)
  · have c_9i := c_9
    replace c_9 : k < xs.length := (nI_ltI (a := k) (b := xs.length) (by omega) (by omega)).mp c_9
    refine lv_aload_n hx hb d_R_at_16 rfl (lv_at hl 0 rfl) ?_
    refine hp_get S hK hW (r) (by omega) rfl h1 rfl in_kR 0 (by decide) (hts _ (List.mem_cons_of_mem _ tq_193)) rfl d_R_at_17 ?_
    refine lv_iload_n hx hb d_R_at_20 rfl (lv_at hl 1 rfl) ?_
    refine hp_iald S hK hW (r + 1) (by omega) rfl h2 (vp_in_nI (by omega) (by omega)) d_R_at_21 ?_
    rw [show (f ((nI k) : Int32).toNatClampNeg) = (md_at xs k) from (by rw [nI_clamp (by omega)]; exact h4 k c_9)]
    exact hp_reti S hK hW hr hlk d_R_at_22 (⟨rfl, rfl⟩)
  · have c_9i := c_9
    replace c_9 : ¬ k < xs.length := fun zz9 => c_9 ((nI_ltI (a := k) (b := xs.length) (by omega) (by omega)).mpr zz9)
    refine lv_iconst (v := (-1)) hx hb d_R_at_12 (by decide) ?_
    refine lv_goto (tgt := 22) hx hb d_R_at_13 (by decide) ?_
    exact hp_reti S hK hW hr hlk d_R_at_22 (⟨(md_at_ge (by omega)).symm, rfl⟩)

/-! Row.wordAt: its loop -/
set_option maxHeartbeats 400000 in
set_option maxRecDepth 100000 in
theorem lp_Row_wordAt {p : Program} {e : Env} {s : State} {m : MethodId} {args : Array Value} {below : List Frame} {meth : Method} {c : Code} (l : Launch) (g : hp_G) (z0 N : Nat) (ad : Nat → Nat)  (F : Nat → va_E) (r n : Nat) (xs : List Int32) (hrN : r + 1 < N) (hn : n < 1000000) (f : Nat → Int32) (h1 : F r = .inr (kR, [.ref (ad (r + 1)), .int (nI xs.length)])) (h2 : F (r + 1) = .inl (g.2 0, n, .inl f)) (h3 : xs.length ≤ n) (h4 : ∀ i, i < xs.length → f i = md_at xs i) (k : Int32) (hk : ¬ k < 0) (S : CallFix p m c cc_R_wordAt 5 s args ws_R_wordAt R_R) (hr : meth.sig.returnType = (some .long)) (hlk : meth.locks = false) (hK : hp_K g s) : ∀ (j : Nat) (i : Nat), i ≤ 8 → 9 ≤ i + j → ∀ (H : Heap) (locs : List Loc) (ls : Array Slot), hp_W g z0 N ad F s.heap H locs → lv_has ls 5 [(0, .ref (ad r)), (1, .int k), (2, .long (md_w (fun i => xs.getD (k.toNatClampNeg + i) 0) i)), (4, .int (nI i))] → W p l e (rk 0) s m args below meth c H locs 0 0 (MQ below (va_Ql (fun v F' => v = md_word xs k ∧ F' = F) (hp_B g z0 N ad) (hp_A z0)) args s 0 0 (hp_A z0)) (F0 m 13 ls []) := by
  obtain ⟨hx, hb, hml, hown, hts⟩ := id S
  have in_kR : ∀ w ∈ u_ws R_R T_R 2, w ∈ ws_R_wordAt := fun w h => List.mem_cons_of_mem _ (in0_R w h)
  intro j
  induction j with
  | zero =>
    intro i hi hj H locs ls hW hl
    exact absurd hj (by omega)
  | succ j ih =>
    intro i hi hj H locs ls hW hl
    refine lv_iload hx hb d_R_wordAt_13 (lv_at hl 3 rfl) ?_
    refine lv_bipush (v := 8) hx hb d_R_wordAt_15 (by decide) ?_
    refine lv_icmp_ge (tgt := 57) hx hb d_R_wordAt_17 (by decide) (fun c_17 => ?_) (fun c_17 => ?_)
    · have c_17i := c_17
      replace c_17 : 8 ≤ i := (nI_leI (a := 8) (b := i) (by omega) (by omega)).mp c_17
      refine lv_lload_n hx hb d_R_wordAt_57 rfl (lv_at hl 2 rfl) ?_
      exact hp_retl S hK hW hr hlk d_R_wordAt_58 (⟨by rw [show i = 8 by omega, md_word, if_neg hk], rfl⟩)
    · have c_17i := c_17
      replace c_17 : ¬ 8 ≤ i := fun zz9 => c_17 ((nI_leI (a := 8) (b := i) (by omega) (by omega)).mpr zz9)
      refine lv_lload_n hx hb d_R_wordAt_20 rfl (lv_at hl 2 rfl) ?_
      refine lv_bipush (v := 8) hx hb d_R_wordAt_21 (by decide) ?_
      refine lv_lshl hx hb d_R_wordAt_23 rfl ?_
      refine lv_iload_n hx hb d_R_wordAt_24 rfl (lv_at hl 1 rfl) ?_
      refine lv_aload_n hx hb d_R_wordAt_25 rfl (lv_at hl 0 rfl) ?_
      refine hp_get S hK hW (r) (by omega) rfl h1 rfl in_kR 1 (by decide) (hts _ (List.mem_cons_of_mem _ tq_194)) rfl d_R_wordAt_26 ?_
      refine lv_iload hx hb d_R_wordAt_29 (lv_at hl 3 rfl) ?_
      refine lv_isub hx hb d_R_wordAt_31 ?_
      refine lv_icmp_ge (tgt := 47) hx hb d_R_wordAt_32 (by decide) (fun c_32 => ?_) (fun c_32 => ?_)
      · have c_32i := c_32
        have c_32j := Int32.not_lt.mpr c_32
        obtain ⟨kk, hkk, ekk⟩ := nI_of hk
        have ecl : k.toNatClampNeg = kk := by rw [ekk]; exact nI_clamp hkk
        have hge : xs.length ≤ kk + i := wd_ge (by omega) (by omega) hkk (by rw [← ekk]; exact c_32)
        have hval : (0 : Int32) = xs.getD (k.toNatClampNeg + i) 0 := by rw [ecl, wd_out hge]
        refine lv_iconst (v := 0) hx hb d_R_wordAt_47 (by decide) ?_
        refine lv_i2l hx hb d_R_wordAt_48 rfl ?_
        refine lv_lor hx hb d_R_wordAt_49 ?_
        rw [show (((md_w (fun i => xs.getD (k.toNatClampNeg + i) 0) i) <<< ((8 : Int32).toInt64 &&& 63)) ||| (0 : Int32).toInt64) = md_w (fun i => xs.getD (k.toNatClampNeg + i) 0) (i + 1) from (by show _ = md_w (fun i => xs.getD (k.toNatClampNeg + i) 0) i <<< _ ||| (xs.getD (k.toNatClampNeg + i) 0).toInt64; rw [← hval])]
        refine lv_lstore_n (lv' := [(2, .long (md_w (fun i => xs.getD (k.toNatClampNeg + i) 0) (i + 1))), (0, .ref (ad r)), (1, .int k), (4, .int (nI i))]) hx hb d_R_wordAt_50 rfl hl (by decide) rfl (fun ls hl => ?_)
        refine lv_iinc (v := (nI (i + 1))) (lv' := [(4, .int (nI (i + 1))), (2, .long (md_w (fun i => xs.getD (k.toNatClampNeg + i) 0) (i + 1))), (0, .ref (ad r)), (1, .int k)]) hx hb d_R_wordAt_51 hl (k := 3) rfl ((nI_succ (i)).symm) (by decide) rfl (fun ls hl => ?_)
        refine lv_goto (tgt := 13) hx hb d_R_wordAt_54 (by decide) ?_
        exact ih (i + 1) (by omega) (by omega) H locs ls hW (lv_sub hl [2, 3, 1, 0] rfl)
      · have c_32i := c_32
        have c_32j := Int32.not_le.mp c_32
        obtain ⟨kk, hkk, ekk⟩ := nI_of hk
        have ecl : k.toNatClampNeg = kk := by rw [ekk]; exact nI_clamp hkk
        have hlt : kk + i < xs.length := wd_lt (by omega) (by omega) hkk (by rw [← ekk]; exact c_32)
        have eki : k + nI i = nI (kk + i) := by rw [ekk, nI_add]
        refine lv_aload_n hx hb d_R_wordAt_35 rfl (lv_at hl 0 rfl) ?_
        refine hp_get S hK hW (r) (by omega) rfl h1 rfl in_kR 0 (by decide) (hts _ (List.mem_cons_of_mem _ tq_193)) rfl d_R_wordAt_36 ?_
        refine lv_iload_n hx hb d_R_wordAt_39 rfl (lv_at hl 1 rfl) ?_
        refine lv_iload hx hb d_R_wordAt_40 (lv_at hl 3 rfl) ?_
        refine lv_iadd hx hb d_R_wordAt_42 ?_
        refine hp_iald S hK hW (r + 1) (by omega) rfl h2 (by rw [eki]; exact vp_in_nI (by omega) (by omega)) d_R_wordAt_43 ?_
        rw [show (f ((k + (nI i)) : Int32).toNatClampNeg) = (xs.getD (k.toNatClampNeg + i) 0) from (by rw [eki, nI_clamp (by omega), h4 _ hlt, ecl, wd_in hlt])]
        refine lv_goto (tgt := 48) hx hb d_R_wordAt_44 (by decide) ?_
        refine lv_i2l hx hb d_R_wordAt_48 rfl ?_
        refine lv_lor hx hb d_R_wordAt_49 ?_
        rw [show (((md_w (fun i => xs.getD (k.toNatClampNeg + i) 0) i) <<< ((8 : Int32).toInt64 &&& 63)) ||| ((xs.getD (k.toNatClampNeg + i) 0) : Int32).toInt64) = md_w (fun i => xs.getD (k.toNatClampNeg + i) 0) (i + 1) from rfl]
        refine lv_lstore_n (lv' := [(2, .long (md_w (fun i => xs.getD (k.toNatClampNeg + i) 0) (i + 1))), (0, .ref (ad r)), (1, .int k), (4, .int (nI i))]) hx hb d_R_wordAt_50 rfl hl (by decide) rfl (fun ls hl => ?_)
        refine lv_iinc (v := (nI (i + 1))) (lv' := [(4, .int (nI (i + 1))), (2, .long (md_w (fun i => xs.getD (k.toNatClampNeg + i) 0) (i + 1))), (0, .ref (ad r)), (1, .int k)]) hx hb d_R_wordAt_51 hl (k := 3) rfl ((nI_succ (i)).symm) (by decide) rfl (fun ls hl => ?_)
        refine lv_goto (tgt := 13) hx hb d_R_wordAt_54 (by decide) ?_
        exact ih (i + 1) (by omega) (by omega) H locs ls hW (lv_sub hl [2, 3, 1, 0] rfl)

/-! Row.wordAt(k) -/
set_option maxHeartbeats 400000 in
set_option maxRecDepth 100000 in
theorem c_Row_wordAt (l : Launch) (g : hp_G) (z0 N : Nat) (ad : Nat → Nat) (F : Nat → va_E) (r n : Nat) (xs : List Int32) (hrN : r + 1 < N) (hn : n < 1000000) (hR : vRow g ad F r n xs) (k : Int32) : hp_Ml l g z0 N ad y_R_wordAt ws_R_wordAt (rk 0) [.ref (ad r), .int k] F (fun v F' => v = md_word xs k ∧ F' = F) := by
  obtain ⟨f, h1, h2, h3, h4⟩ := id hR
  refine hp_enter (cc := cc_R_wordAt) (maxL := 5) (ret := (some .long)) (by decide) rfl (Nat.le_of_ble_eq_true rfl) ?_
  intro p e s m below meth c S hr hlk hnm hK hW ls hl
  have hl : lv_has ls 5 [(0, .ref (ad r)), (1, .int k)] := hl
  obtain ⟨hx, hb, hml, hown, hts⟩ := id S
  have in_kR : ∀ w ∈ u_ws R_R T_R 2, w ∈ ws_R_wordAt := fun w h => List.mem_cons_of_mem _ (in0_R w h)
  refine lv_iload_n hx hb d_R_wordAt_0 rfl (lv_at hl 1 rfl) ?_
  refine lv_if_ge (tgt := 8) hx hb d_R_wordAt_1 (by decide) (fun c_1 => ?_) (fun c_1 => ?_)
  · have c_1i := c_1
    have c_1j := Int32.not_lt.mpr c_1
    have c_1i : ¬ k < 0 := Int32.not_lt.mpr c_1
    refine lv_lconst (v := 0) hx hb d_R_wordAt_8 (by decide) ?_
    refine lv_lstore_n (lv' := [(2, .long 0), (0, .ref (ad r)), (1, .int k)]) hx hb d_R_wordAt_9 rfl hl (by decide) rfl (fun ls hl => ?_)
    refine lv_iconst (v := 0) hx hb d_R_wordAt_10 (by decide) ?_
    refine lv_istore (lv' := [(4, .int 0), (2, .long 0), (0, .ref (ad r)), (1, .int k)]) hx hb d_R_wordAt_11 hl (by decide) rfl (fun ls hl => ?_)
    exact lp_Row_wordAt l g z0 N ad F r n xs hrN hn f h1 h2 h3 h4 k c_1i S hr hlk hK 9 0 (by omega) (by omega) _ _ ls hW (lv_sub hl [2, 3, 1, 0] rfl)
  · have c_1i := c_1
    have c_1j := Int32.not_le.mp c_1
    have c_1i : k < 0 := Int32.not_le.mp c_1
    refine lv_ldc2 (v := (-1)) hx hb hown (hts _ (List.mem_cons_of_mem _ tq_195)) d_R_wordAt_4 ?_
    exact hp_retl S hK hW hr hlk d_R_wordAt_7 (⟨by rw [md_word, if_pos c_1i], rfl⟩)

/-! Row.squeeze: its loop -/
set_option maxHeartbeats 400000 in
set_option maxRecDepth 100000 in
theorem lp_Row_squeeze {p : Program} {e : Env} {s : State} {m : MethodId} {args : Array Value} {below : List Frame} {meth : Method} {c : Code} (l : Launch) (g : hp_G) (z0 N : Nat) (ad : Nat → Nat)  (Fz : Nat → va_E) (r n : Nat) (xs : List Int32) (hrN : r + 1 < N) (hn : n < 1000000) (h3 : xs.length ≤ n) (S : CallFix p m c cc_R_squeeze 3 s args ws_R_squeeze R_R) (hr : meth.sig.returnType = none) (hlk : meth.locks = false) (hK : hp_K g s) : ∀ (j : Nat) (i : Nat) (F : Nat → va_E) (f : Nat → Int32), i ≤ xs.length → xs.length + 1 ≤ i + j → F r = .inr (kR, [.ref (ad (r + 1)), .int (nI xs.length)]) → F (r + 1) = .inl (g.2 0, n, .inl f) → sqI f xs i → (∀ x, x ≠ r → x ≠ r + 1 → F x = Fz x) → ∀ (H : Heap) (locs : List Loc) (ls : Array Slot), hp_W g z0 N ad F s.heap H locs → lv_has ls 3 [(0, .ref (ad r)), (1, .int (nI (md_sqs xs i).length)), (2, .int (nI i))] → W p l e (rk 0) s m args below meth c H locs 0 0 (MQ below (va_Qv (fun F' => vRow g ad F' r n (md_sq xs) ∧ ∀ x, x ≠ r → x ≠ r + 1 → F' x = Fz x) (hp_B g z0 N ad) (hp_A z0)) args s 0 0 (hp_A z0)) (F0 m 4 ls []) := by
  obtain ⟨hx, hb, hml, hown, hts⟩ := id S
  have in_kR : ∀ w ∈ u_ws R_R T_R 2, w ∈ ws_R_squeeze := fun w h => List.mem_cons_of_mem _ (in0_R w h)
  intro j
  induction j with
  | zero =>
    intro i F f hi hj h1 h2 hI hfr H locs ls hW hl
    exact absurd hj (by omega)
  | succ j ih =>
    intro i F f hi hj h1 h2 hI hfr H locs ls hW hl
    refine lv_iload_n hx hb d_R_squeeze_4 rfl (lv_at hl 2 rfl) ?_
    refine lv_aload_n hx hb d_R_squeeze_5 rfl (lv_at hl 0 rfl) ?_
    refine hp_get S hK hW (r) (by omega) rfl h1 rfl in_kR 1 (by decide) (hts _ (List.mem_cons_of_mem _ tq_194)) rfl d_R_squeeze_6 ?_
    refine lv_icmp_ge (tgt := 61) hx hb d_R_squeeze_9 (by decide) (fun c_9 => ?_) (fun c_9 => ?_)
    · have c_9i := c_9
      replace c_9 : xs.length ≤ i := (nI_leI (a := xs.length) (b := i) (by omega) (by omega)).mp c_9
      have hlen := md_sqs_len xs i
      refine lv_aload_n hx hb d_R_squeeze_61 rfl (lv_at hl 0 rfl) ?_
      refine lv_iload_n hx hb d_R_squeeze_62 rfl (lv_at hl 1 rfl) ?_
      refine lv_if_le (tgt := 85) hx hb d_R_squeeze_63 (by decide) (fun c_63 => ?_) (fun c_63 => ?_)
      · have c_63i := c_63
        replace c_63 : (md_sqs xs i).length ≤ 0 := (nI_leI (a := (md_sqs xs i).length) (b := 0) (by omega) (by omega)).mp c_63
        refine lv_iload_n hx hb d_R_squeeze_85 rfl (lv_at hl 1 rfl) ?_
        refine hp_put S hK hW (r) (by omega) rfl h1 rfl in_kR tyok_R nm_R 1 (by decide) (hts _ (List.mem_cons_of_mem _ tq_194)) rfl rfl rfl (Nat.le_of_ble_eq_true rfl) d_R_squeeze_86 (fun H locs hW => ?_)
        obtain ⟨F_1, eF_1⟩ : ∃ z, z = va_up F (r) (.inr (kR, [.ref (ad (r + 1)), .int (nI (md_sqs xs i).length)])) := ⟨_, rfl⟩
        replace hW : hp_W g z0 N ad F_1 s.heap H locs := by rw [eF_1]; exact hW
        have f_2 : F_1 (r) = .inr (kR, [.ref (ad (r + 1)), .int (nI (md_sqs xs i).length)]) := by rw [eF_1, va_up_self]
        have f_3 : F_1 (r + 1) = .inl (g.2 0, n, .inl f) := by rw [eF_1, va_up_ne _ _ (by omega)]; exact h2
        have ei : i = xs.length := by omega
        subst ei
        have hcut := cut_f (a := md_sqs xs xs.length) (fun q => by omega)
        exact hp_retv S hK hW hr hlk d_R_squeeze_89 (⟨⟨_, by rw [f_2]; unfold md_sq; rw [hcut], f_3, by unfold md_sq; rw [hcut]; omega, fun j hj => by unfold md_sq at hj ⊢; rw [hcut] at hj ⊢; exact hI.1 j hj⟩, fun x hx hy => by rw [eF_1, va_up_ne _ _ hx]; exact hfr x hx hy⟩)
      · have c_63i := c_63
        replace c_63 : ¬ (md_sqs xs i).length ≤ 0 := fun zz9 => c_63 ((nI_leI (a := (md_sqs xs i).length) (b := 0) (by omega) (by omega)).mpr zz9)
        refine lv_aload_n hx hb d_R_squeeze_66 rfl (lv_at hl 0 rfl) ?_
        refine hp_get S hK hW (r) (by omega) rfl h1 rfl in_kR 0 (by decide) (hts _ (List.mem_cons_of_mem _ tq_193)) rfl d_R_squeeze_67 ?_
        refine lv_iload_n hx hb d_R_squeeze_70 rfl (lv_at hl 1 rfl) ?_
        refine lv_iconst (v := 1) hx hb d_R_squeeze_71 (by decide) ?_
        refine lv_isub hx hb d_R_squeeze_72 ?_
        rw [show ((nI (md_sqs xs i).length) - 1) = (nI ((md_sqs xs i).length - 1)) from (pk_sub (b := 1) (by omega))]
        refine hp_iald S hK hW (r + 1) (by omega) rfl h2 (vp_in_nI (by omega) (by omega)) d_R_squeeze_73 ?_
        rw [show (f ((nI ((md_sqs xs i).length - 1)) : Int32).toNatClampNeg) = (md_at (md_sqs xs i) ((md_sqs xs i).length - 1)) from (by rw [nI_clamp (by omega)]; exact hI.1 _ (by omega))]
        refine lv_bipush (v := 32) hx hb d_R_squeeze_74 (by decide) ?_
        refine lv_icmp_ne (tgt := 85) hx hb d_R_squeeze_76 (by decide) (fun c_76 => ?_) (fun c_76 => ?_)
        · have c_76i := c_76
          refine lv_iload_n hx hb d_R_squeeze_85 rfl (lv_at hl 1 rfl) ?_
          refine hp_put S hK hW (r) (by omega) rfl h1 rfl in_kR tyok_R nm_R 1 (by decide) (hts _ (List.mem_cons_of_mem _ tq_194)) rfl rfl rfl (Nat.le_of_ble_eq_true rfl) d_R_squeeze_86 (fun H locs hW => ?_)
          obtain ⟨F_4, eF_4⟩ : ∃ z, z = va_up F (r) (.inr (kR, [.ref (ad (r + 1)), .int (nI (md_sqs xs i).length)])) := ⟨_, rfl⟩
          replace hW : hp_W g z0 N ad F_4 s.heap H locs := by rw [eF_4]; exact hW
          have f_5 : F_4 (r) = .inr (kR, [.ref (ad (r + 1)), .int (nI (md_sqs xs i).length)]) := by rw [eF_4, va_up_self]
          have f_6 : F_4 (r + 1) = .inl (g.2 0, n, .inl f) := by rw [eF_4, va_up_ne _ _ (by omega)]; exact h2
          have ei : i = xs.length := by omega
          subst ei
          have hcut := cut_f (a := md_sqs xs xs.length) (fun q => c_76i q.2)
          exact hp_retv S hK hW hr hlk d_R_squeeze_89 (⟨⟨_, by rw [f_5]; unfold md_sq; rw [hcut], f_6, by unfold md_sq; rw [hcut]; omega, fun j hj => by unfold md_sq at hj ⊢; rw [hcut] at hj ⊢; exact hI.1 j hj⟩, fun x hx hy => by rw [eF_4, va_up_ne _ _ hx]; exact hfr x hx hy⟩)
        · have c_76i := c_76
          refine lv_iload_n hx hb d_R_squeeze_79 rfl (lv_at hl 1 rfl) ?_
          refine lv_iconst (v := 1) hx hb d_R_squeeze_80 (by decide) ?_
          refine lv_isub hx hb d_R_squeeze_81 ?_
          rw [show ((nI (md_sqs xs i).length) - 1) = (nI ((md_sqs xs i).length - 1)) from (pk_sub (b := 1) (by omega))]
          refine lv_goto (tgt := 86) hx hb d_R_squeeze_82 (by decide) ?_
          refine hp_put S hK hW (r) (by omega) rfl h1 rfl in_kR tyok_R nm_R 1 (by decide) (hts _ (List.mem_cons_of_mem _ tq_194)) rfl rfl rfl (Nat.le_of_ble_eq_true rfl) d_R_squeeze_86 (fun H locs hW => ?_)
          obtain ⟨F_7, eF_7⟩ : ∃ z, z = va_up F (r) (.inr (kR, [.ref (ad (r + 1)), .int (nI ((md_sqs xs i).length - 1))])) := ⟨_, rfl⟩
          replace hW : hp_W g z0 N ad F_7 s.heap H locs := by rw [eF_7]; exact hW
          have f_8 : F_7 (r) = .inr (kR, [.ref (ad (r + 1)), .int (nI ((md_sqs xs i).length - 1))]) := by rw [eF_7, va_up_self]
          have f_9 : F_7 (r + 1) = .inl (g.2 0, n, .inl f) := by rw [eF_7, va_up_ne _ _ (by omega)]; exact h2
          have ei : i = xs.length := by omega
          subst ei
          have hcut := cut_len_t (a := md_sqs xs xs.length) ⟨by omega, c_76i⟩
          exact hp_retv S hK hW hr hlk d_R_squeeze_89 (⟨⟨_, by rw [f_8]; unfold md_sq; rw [hcut], f_9, by unfold md_sq; rw [hcut]; omega, fun j hj => by unfold md_sq at hj ⊢; rw [cut_at hj]; exact hI.1 j (by rw [hcut] at hj; omega)⟩, fun x hx hy => by rw [eF_7, va_up_ne _ _ hx]; exact hfr x hx hy⟩)
    · have c_9i := c_9
      replace c_9 : ¬ xs.length ≤ i := fun zz9 => c_9 ((nI_leI (a := xs.length) (b := i) (by omega) (by omega)).mpr zz9)
      have hlen := md_sqs_len xs i
      refine lv_aload_n hx hb d_R_squeeze_12 rfl (lv_at hl 0 rfl) ?_
      refine hp_get S hK hW (r) (by omega) rfl h1 rfl in_kR 0 (by decide) (hts _ (List.mem_cons_of_mem _ tq_193)) rfl d_R_squeeze_13 ?_
      refine lv_iload_n hx hb d_R_squeeze_16 rfl (lv_at hl 2 rfl) ?_
      refine hp_iald S hK hW (r + 1) (by omega) rfl h2 (vp_in_nI (by omega) (by omega)) d_R_squeeze_17 ?_
      rw [show (f ((nI i) : Int32).toNatClampNeg) = (md_at xs i) from (by rw [nI_clamp (by omega)]; exact hI.2 i (Nat.le_refl _) (by omega))]
      refine lv_bipush (v := 32) hx hb d_R_squeeze_18 (by decide) ?_
      refine lv_icmp_ne (tgt := 40) hx hb d_R_squeeze_20 (by decide) (fun c_20 => ?_) (fun c_20 => ?_)
      · have c_20i := c_20
        have hadd := sqs_add (xs := xs) (i := i) (Or.inl c_20i)
        refine lv_aload_n hx hb d_R_squeeze_40 rfl (lv_at hl 0 rfl) ?_
        refine hp_get S hK hW (r) (by omega) rfl h1 rfl in_kR 0 (by decide) (hts _ (List.mem_cons_of_mem _ tq_193)) rfl d_R_squeeze_41 ?_
        refine lv_iload_n hx hb d_R_squeeze_44 rfl (lv_at hl 1 rfl) ?_
        refine lv_aload_n hx hb d_R_squeeze_45 rfl (lv_at hl 0 rfl) ?_
        refine hp_get S hK hW (r) (by omega) rfl h1 rfl in_kR 0 (by decide) (hts _ (List.mem_cons_of_mem _ tq_193)) rfl d_R_squeeze_46 ?_
        refine lv_iload_n hx hb d_R_squeeze_49 rfl (lv_at hl 2 rfl) ?_
        refine hp_iald S hK hW (r + 1) (by omega) rfl h2 (vp_in_nI (by omega) (by omega)) d_R_squeeze_50 ?_
        rw [show (f ((nI i) : Int32).toNatClampNeg) = (md_at xs i) from (by rw [nI_clamp (by omega)]; exact hI.2 i (Nat.le_refl _) (by omega))]
        refine hp_iast S hK hW (r + 1) (by omega) rfl h2 (x := (md_at xs i)) (vp_in_nI (by omega) (by omega)) d_R_squeeze_51 (fun H locs hW => ?_)
        obtain ⟨F_10, eF_10⟩ : ∃ z, z = va_up F (r + 1) (.inl (g.2 0, n, .inl (upd f (md_sqs xs i).length (md_at xs i)))) := ⟨_, rfl⟩
        rw [show (((nI (md_sqs xs i).length) : Int32).toNatClampNeg) = (md_sqs xs i).length from nI_clamp (by omega)] at hW
        replace hW : hp_W g z0 N ad F_10 s.heap H locs := by rw [eF_10]; exact hW
        have f_11 : F_10 (r) = .inr (kR, [.ref (ad (r + 1)), .int (nI xs.length)]) := by rw [eF_10, va_up_ne _ _ (by omega)]; exact h1
        have f_12 : F_10 (r + 1) = .inl (g.2 0, n, .inl (upd f (md_sqs xs i).length (md_at xs i))) := by rw [eF_10, va_up_self]
        refine lv_iinc (v := (nI ((md_sqs xs i).length + 1))) (lv' := [(1, .int (nI ((md_sqs xs i).length + 1))), (0, .ref (ad r)), (2, .int (nI i))]) hx hb d_R_squeeze_52 hl (k := 1) rfl ((nI_succ ((md_sqs xs i).length)).symm) (by decide) rfl (fun ls hl => ?_)
        refine lv_iinc (v := (nI (i + 1))) (lv' := [(2, .int (nI (i + 1))), (1, .int (nI ((md_sqs xs i).length + 1))), (0, .ref (ad r))]) hx hb d_R_squeeze_55 hl (k := 2) rfl ((nI_succ (i)).symm) (by decide) rfl (fun ls hl => ?_)
        refine lv_goto (tgt := 4) hx hb d_R_squeeze_58 (by decide) ?_
        exact ih (i + 1) F_10 (upd f (md_sqs xs i).length (md_at xs i)) (by omega) (by omega) f_11 f_12 (hI.add hadd) (fun x hx hy => by rw [eF_10, va_up_ne _ _ hy]; exact hfr x hx hy) H locs ls hW (by rw [hadd, List.length_append, List.length_singleton]; exact (lv_sub hl [2, 1, 0] rfl))
      · have c_20i := c_20
        refine lv_iload_n hx hb d_R_squeeze_23 rfl (lv_at hl 1 rfl) ?_
        refine lv_if_le (tgt := 55) hx hb d_R_squeeze_24 (by decide) (fun c_24 => ?_) (fun c_24 => ?_)
        · have c_24i := c_24
          replace c_24 : (md_sqs xs i).length ≤ 0 := (nI_leI (a := (md_sqs xs i).length) (b := 0) (by omega) (by omega)).mp c_24
          have hskip := sqs_skip (xs := xs) (i := i) (fun h => by rcases h with h | h <;> first | exact h c_20i | omega)
          refine lv_iinc (v := (nI (i + 1))) (lv' := [(2, .int (nI (i + 1))), (0, .ref (ad r)), (1, .int (nI (md_sqs xs i).length))]) hx hb d_R_squeeze_55 hl (k := 2) rfl ((nI_succ (i)).symm) (by decide) rfl (fun ls hl => ?_)
          refine lv_goto (tgt := 4) hx hb d_R_squeeze_58 (by decide) ?_
          exact ih (i + 1) F f (by omega) (by omega) h1 h2 (hI.skip hskip) hfr H locs ls hW (by rw [hskip]; exact (lv_sub hl [1, 2, 0] rfl))
        · have c_24i := c_24
          replace c_24 : ¬ (md_sqs xs i).length ≤ 0 := fun zz9 => c_24 ((nI_leI (a := (md_sqs xs i).length) (b := 0) (by omega) (by omega)).mpr zz9)
          refine lv_aload_n hx hb d_R_squeeze_27 rfl (lv_at hl 0 rfl) ?_
          refine hp_get S hK hW (r) (by omega) rfl h1 rfl in_kR 0 (by decide) (hts _ (List.mem_cons_of_mem _ tq_193)) rfl d_R_squeeze_28 ?_
          refine lv_iload_n hx hb d_R_squeeze_31 rfl (lv_at hl 1 rfl) ?_
          refine lv_iconst (v := 1) hx hb d_R_squeeze_32 (by decide) ?_
          refine lv_isub hx hb d_R_squeeze_33 ?_
          rw [show ((nI (md_sqs xs i).length) - 1) = (nI ((md_sqs xs i).length - 1)) from (pk_sub (b := 1) (by omega))]
          refine hp_iald S hK hW (r + 1) (by omega) rfl h2 (vp_in_nI (by omega) (by omega)) d_R_squeeze_34 ?_
          rw [show (f ((nI ((md_sqs xs i).length - 1)) : Int32).toNatClampNeg) = (md_at (md_sqs xs i) ((md_sqs xs i).length - 1)) from (by rw [nI_clamp (by omega)]; exact hI.1 _ (by omega))]
          refine lv_bipush (v := 32) hx hb d_R_squeeze_35 (by decide) ?_
          refine lv_icmp_eq (tgt := 55) hx hb d_R_squeeze_37 (by decide) (fun c_37 => ?_) (fun c_37 => ?_)
          · have c_37i := c_37
            have hskip := sqs_skip (xs := xs) (i := i) (fun h => by rcases h with h | h <;> first | exact h c_20i | exact h.2 c_37i)
            refine lv_iinc (v := (nI (i + 1))) (lv' := [(2, .int (nI (i + 1))), (0, .ref (ad r)), (1, .int (nI (md_sqs xs i).length))]) hx hb d_R_squeeze_55 hl (k := 2) rfl ((nI_succ (i)).symm) (by decide) rfl (fun ls hl => ?_)
            refine lv_goto (tgt := 4) hx hb d_R_squeeze_58 (by decide) ?_
            exact ih (i + 1) F f (by omega) (by omega) h1 h2 (hI.skip hskip) hfr H locs ls hW (by rw [hskip]; exact (lv_sub hl [1, 2, 0] rfl))
          · have c_37i := c_37
            have hadd := sqs_add (xs := xs) (i := i) (Or.inr ⟨by omega, c_37i⟩)
            refine lv_aload_n hx hb d_R_squeeze_40 rfl (lv_at hl 0 rfl) ?_
            refine hp_get S hK hW (r) (by omega) rfl h1 rfl in_kR 0 (by decide) (hts _ (List.mem_cons_of_mem _ tq_193)) rfl d_R_squeeze_41 ?_
            refine lv_iload_n hx hb d_R_squeeze_44 rfl (lv_at hl 1 rfl) ?_
            refine lv_aload_n hx hb d_R_squeeze_45 rfl (lv_at hl 0 rfl) ?_
            refine hp_get S hK hW (r) (by omega) rfl h1 rfl in_kR 0 (by decide) (hts _ (List.mem_cons_of_mem _ tq_193)) rfl d_R_squeeze_46 ?_
            refine lv_iload_n hx hb d_R_squeeze_49 rfl (lv_at hl 2 rfl) ?_
            refine hp_iald S hK hW (r + 1) (by omega) rfl h2 (vp_in_nI (by omega) (by omega)) d_R_squeeze_50 ?_
            rw [show (f ((nI i) : Int32).toNatClampNeg) = (md_at xs i) from (by rw [nI_clamp (by omega)]; exact hI.2 i (Nat.le_refl _) (by omega))]
            refine hp_iast S hK hW (r + 1) (by omega) rfl h2 (x := (md_at xs i)) (vp_in_nI (by omega) (by omega)) d_R_squeeze_51 (fun H locs hW => ?_)
            obtain ⟨F_13, eF_13⟩ : ∃ z, z = va_up F (r + 1) (.inl (g.2 0, n, .inl (upd f (md_sqs xs i).length (md_at xs i)))) := ⟨_, rfl⟩
            rw [show (((nI (md_sqs xs i).length) : Int32).toNatClampNeg) = (md_sqs xs i).length from nI_clamp (by omega)] at hW
            replace hW : hp_W g z0 N ad F_13 s.heap H locs := by rw [eF_13]; exact hW
            have f_14 : F_13 (r) = .inr (kR, [.ref (ad (r + 1)), .int (nI xs.length)]) := by rw [eF_13, va_up_ne _ _ (by omega)]; exact h1
            have f_15 : F_13 (r + 1) = .inl (g.2 0, n, .inl (upd f (md_sqs xs i).length (md_at xs i))) := by rw [eF_13, va_up_self]
            refine lv_iinc (v := (nI ((md_sqs xs i).length + 1))) (lv' := [(1, .int (nI ((md_sqs xs i).length + 1))), (0, .ref (ad r)), (2, .int (nI i))]) hx hb d_R_squeeze_52 hl (k := 1) rfl ((nI_succ ((md_sqs xs i).length)).symm) (by decide) rfl (fun ls hl => ?_)
            refine lv_iinc (v := (nI (i + 1))) (lv' := [(2, .int (nI (i + 1))), (1, .int (nI ((md_sqs xs i).length + 1))), (0, .ref (ad r))]) hx hb d_R_squeeze_55 hl (k := 2) rfl ((nI_succ (i)).symm) (by decide) rfl (fun ls hl => ?_)
            refine lv_goto (tgt := 4) hx hb d_R_squeeze_58 (by decide) ?_
            exact ih (i + 1) F_13 (upd f (md_sqs xs i).length (md_at xs i)) (by omega) (by omega) f_14 f_15 (hI.add hadd) (fun x hx hy => by rw [eF_13, va_up_ne _ _ hy]; exact hfr x hx hy) H locs ls hW (by rw [hadd, List.length_append, List.length_singleton]; exact (lv_sub hl [2, 1, 0] rfl))

/-! Row.squeeze() -/
set_option maxHeartbeats 400000 in
set_option maxRecDepth 100000 in
theorem c_Row_squeeze (l : Launch) (g : hp_G) (z0 N : Nat) (ad : Nat → Nat) (F : Nat → va_E) (r n : Nat) (xs : List Int32) (hrN : r + 1 < N) (hn : n < 1000000) (hR : vRow g ad F r n xs) : hp_Mv l g z0 N ad y_R_squeeze ws_R_squeeze (rk 0) [.ref (ad r)] F (fun F' => vRow g ad F' r n (md_sq xs) ∧ ∀ x, x ≠ r → x ≠ r + 1 → F' x = F x) := by
  obtain ⟨f, h1, h2, h3, h4⟩ := id hR
  refine hp_enter (cc := cc_R_squeeze) (maxL := 3) (ret := none) (by decide) rfl (Nat.le_of_ble_eq_true rfl) ?_
  intro p e s m below meth c S hr hlk hnm hK hW ls hl
  have hl : lv_has ls 3 [(0, .ref (ad r))] := hl
  obtain ⟨hx, hb, hml, hown, hts⟩ := id S
  have in_kR : ∀ w ∈ u_ws R_R T_R 2, w ∈ ws_R_squeeze := fun w h => List.mem_cons_of_mem _ (in0_R w h)
  refine lv_iconst (v := 0) hx hb d_R_squeeze_0 (by decide) ?_
  refine lv_istore_n (lv' := [(1, .int 0), (0, .ref (ad r))]) hx hb d_R_squeeze_1 rfl hl (by decide) rfl (fun ls hl => ?_)
  refine lv_iconst (v := 0) hx hb d_R_squeeze_2 (by decide) ?_
  refine lv_istore_n (lv' := [(2, .int 0), (1, .int 0), (0, .ref (ad r))]) hx hb d_R_squeeze_3 rfl hl (by decide) rfl (fun ls hl => ?_)
  exact lp_Row_squeeze l g z0 N ad F r n xs hrN hn h3 S hr hlk hK (xs.length + 1) 0 F f (Nat.zero_le _) (by omega) h1 h2 ⟨fun j hj => absurd hj (Nat.not_lt_zero _), fun j _ hj => h4 j hj⟩ (fun _ _ _ => rfl) _ _ ls hW (lv_sub hl [2, 1, 0] rfl)
end
section
theorem dg_a (c : Int32) : c - 97 + 10 = c - 87 := by
  rw [Int32.sub_eq_add_neg, Int32.add_assoc, Int32.sub_eq_add_neg]
  rfl
theorem dg_A (c : Int32) : c - 65 + 10 = c - 55 := by
  rw [Int32.sub_eq_add_neg, Int32.add_assoc, Int32.sub_eq_add_neg]
  rfl
theorem dg_0 {hex : Bool} {c : Int32} (h1 : 48 ≤ c) (h2 : c ≤ 57) : md_dg hex c = c - 48 := by unfold md_dg; rw [if_pos ⟨h1, h2⟩]
theorem dgs_go {hex : Bool} {xs : List Int32} {k q : Nat} {a : Int32} (h : 0 ≤ md_dg hex (md_at xs q)) : md_dgs hex xs (k + 1) q a = md_dgs hex xs k (q + 1) (a * md_base hex + md_dg hex (md_at xs q)) := by
  show (if _ then _ else _) = _
  rw [if_pos h]
theorem dgs_end {hex : Bool} {xs : List Int32} {k q : Nat} {a : Int32} (h : ¬ 0 ≤ md_dg hex (md_at xs q)) : md_dgs hex xs k q a = (q, a) := by
  cases k with
  | zero => rfl
  | succ k =>
    show (if _ then _ else _) = _
    rw [if_neg h]

/-! digitOf(c, 16) -/
set_option maxHeartbeats 400000 in
set_option maxRecDepth 100000 in
theorem c_Ref_digitOf_16 (l : Launch) (g : hp_G) (z0 N : Nat) (ad : Nat → Nat) (F : Nat → va_E) (x : Int32) : hp_Mi l g z0 N ad y_F_digitOf ws_F_digitOf (rk 0) [.int x, .int 16] F (fun v F' => v = md_dg true x ∧ F' = F) := by
  refine hp_enter (cc := cc_F_digitOf) (maxL := 2) (ret := (some .int)) (by decide) rfl (Nat.le_of_ble_eq_true rfl) ?_
  intro p e s m below meth c S hr hlk hnm hK hW ls hl
  have hl : lv_has ls 2 [(0, .int x), (1, .int 16)] := hl
  obtain ⟨hx, hb, hml, hown, hts⟩ := id S
  refine lv_iload_n hx hb d_F_digitOf_0 rfl (lv_at hl 0 rfl) ?_
  refine lv_bipush (v := 48) hx hb d_F_digitOf_1 (by decide) ?_
  refine lv_icmp_lt (tgt := 17) hx hb d_F_digitOf_3 (by decide) (fun c_3 => ?_) (fun c_3 => ?_)
  · have c_3i := c_3
    have c_3j := Int32.not_le.mpr c_3
    refine lv_iload_n hx hb d_F_digitOf_17 rfl (lv_at hl 1 rfl) ?_
    refine lv_bipush (v := 16) hx hb d_F_digitOf_18 (by decide) ?_
    refine lv_icmp_ne (tgt := 43) hx hb d_F_digitOf_20 (by decide) (fun c_20 => absurd c_20 (show ¬ (¬ (16 : Int32) = 16) from by decide)) (fun c_20 => ?_)
    refine lv_iload_n hx hb d_F_digitOf_23 rfl (lv_at hl 0 rfl) ?_
    refine lv_bipush (v := 97) hx hb d_F_digitOf_24 (by decide) ?_
    refine lv_icmp_lt (tgt := 43) hx hb d_F_digitOf_26 (by decide) (fun c_26 => ?_) (fun c_26 => ?_)
    · have c_26i := c_26
      have c_26j := Int32.not_le.mpr c_26
      refine lv_iload_n hx hb d_F_digitOf_43 rfl (lv_at hl 1 rfl) ?_
      refine lv_bipush (v := 16) hx hb d_F_digitOf_44 (by decide) ?_
      refine lv_icmp_ne (tgt := 69) hx hb d_F_digitOf_46 (by decide) (fun c_46 => absurd c_46 (show ¬ (¬ (16 : Int32) = 16) from by decide)) (fun c_46 => ?_)
      refine lv_iload_n hx hb d_F_digitOf_49 rfl (lv_at hl 0 rfl) ?_
      refine lv_bipush (v := 65) hx hb d_F_digitOf_50 (by decide) ?_
      refine lv_icmp_lt (tgt := 69) hx hb d_F_digitOf_52 (by decide) (fun c_52 => ?_) (fun c_52 => ?_)
      · have c_52i := c_52
        have c_52j := Int32.not_le.mpr c_52
        refine lv_iconst (v := (-1)) hx hb d_F_digitOf_69 (by decide) ?_
        exact hp_reti S hK hW hr hlk d_F_digitOf_70 (⟨by unfold md_dg; simp [c_3j, c_26j, c_52j], rfl⟩)
      · have c_52i := c_52
        have c_52j := Int32.not_lt.mp c_52
        refine lv_iload_n hx hb d_F_digitOf_55 rfl (lv_at hl 0 rfl) ?_
        refine lv_bipush (v := 70) hx hb d_F_digitOf_56 (by decide) ?_
        refine lv_icmp_gt (tgt := 69) hx hb d_F_digitOf_58 (by decide) (fun c_58 => ?_) (fun c_58 => ?_)
        · have c_58i := c_58
          have c_58j := Int32.not_le.mpr c_58
          refine lv_iconst (v := (-1)) hx hb d_F_digitOf_69 (by decide) ?_
          exact hp_reti S hK hW hr hlk d_F_digitOf_70 (⟨by unfold md_dg; simp [c_3j, c_26j, c_52j, c_58j], rfl⟩)
        · have c_58i := c_58
          have c_58j := Int32.not_lt.mp c_58
          refine lv_iload_n hx hb d_F_digitOf_61 rfl (lv_at hl 0 rfl) ?_
          refine lv_bipush (v := 65) hx hb d_F_digitOf_62 (by decide) ?_
          refine lv_isub hx hb d_F_digitOf_64 ?_
          refine lv_bipush (v := 10) hx hb d_F_digitOf_65 (by decide) ?_
          refine lv_iadd hx hb d_F_digitOf_67 ?_
          exact hp_reti S hK hW hr hlk d_F_digitOf_68 (⟨by rw [dg_A]; unfold md_dg; simp [c_3j, c_26j, c_52j, c_58j], rfl⟩)
    · have c_26i := c_26
      have c_26j := Int32.not_lt.mp c_26
      refine lv_iload_n hx hb d_F_digitOf_29 rfl (lv_at hl 0 rfl) ?_
      refine lv_bipush (v := 102) hx hb d_F_digitOf_30 (by decide) ?_
      refine lv_icmp_gt (tgt := 43) hx hb d_F_digitOf_32 (by decide) (fun c_32 => ?_) (fun c_32 => ?_)
      · have c_32i := c_32
        have c_32j := Int32.not_le.mpr c_32
        refine lv_iload_n hx hb d_F_digitOf_43 rfl (lv_at hl 1 rfl) ?_
        refine lv_bipush (v := 16) hx hb d_F_digitOf_44 (by decide) ?_
        refine lv_icmp_ne (tgt := 69) hx hb d_F_digitOf_46 (by decide) (fun c_46 => absurd c_46 (show ¬ (¬ (16 : Int32) = 16) from by decide)) (fun c_46 => ?_)
        refine lv_iload_n hx hb d_F_digitOf_49 rfl (lv_at hl 0 rfl) ?_
        refine lv_bipush (v := 65) hx hb d_F_digitOf_50 (by decide) ?_
        refine lv_icmp_lt (tgt := 69) hx hb d_F_digitOf_52 (by decide) (fun c_52 => ?_) (fun c_52 => ?_)
        · have c_52i := c_52
          have c_52j := Int32.not_le.mpr c_52
          refine lv_iconst (v := (-1)) hx hb d_F_digitOf_69 (by decide) ?_
          exact hp_reti S hK hW hr hlk d_F_digitOf_70 (⟨by unfold md_dg; simp [c_3j, c_26j, c_32j, c_52j], rfl⟩)
        · have c_52i := c_52
          have c_52j := Int32.not_lt.mp c_52
          refine lv_iload_n hx hb d_F_digitOf_55 rfl (lv_at hl 0 rfl) ?_
          refine lv_bipush (v := 70) hx hb d_F_digitOf_56 (by decide) ?_
          refine lv_icmp_gt (tgt := 69) hx hb d_F_digitOf_58 (by decide) (fun c_58 => ?_) (fun c_58 => ?_)
          · have c_58i := c_58
            have c_58j := Int32.not_le.mpr c_58
            refine lv_iconst (v := (-1)) hx hb d_F_digitOf_69 (by decide) ?_
            exact hp_reti S hK hW hr hlk d_F_digitOf_70 (⟨by unfold md_dg; simp [c_3j, c_26j, c_32j, c_52j, c_58j], rfl⟩)
          · have c_58i := c_58
            have c_58j := Int32.not_lt.mp c_58
            refine lv_iload_n hx hb d_F_digitOf_61 rfl (lv_at hl 0 rfl) ?_
            refine lv_bipush (v := 65) hx hb d_F_digitOf_62 (by decide) ?_
            refine lv_isub hx hb d_F_digitOf_64 ?_
            refine lv_bipush (v := 10) hx hb d_F_digitOf_65 (by decide) ?_
            refine lv_iadd hx hb d_F_digitOf_67 ?_
            exact hp_reti S hK hW hr hlk d_F_digitOf_68 (⟨by rw [dg_A]; unfold md_dg; simp [c_3j, c_26j, c_32j, c_52j, c_58j], rfl⟩)
      · have c_32i := c_32
        have c_32j := Int32.not_lt.mp c_32
        refine lv_iload_n hx hb d_F_digitOf_35 rfl (lv_at hl 0 rfl) ?_
        refine lv_bipush (v := 97) hx hb d_F_digitOf_36 (by decide) ?_
        refine lv_isub hx hb d_F_digitOf_38 ?_
        refine lv_bipush (v := 10) hx hb d_F_digitOf_39 (by decide) ?_
        refine lv_iadd hx hb d_F_digitOf_41 ?_
        exact hp_reti S hK hW hr hlk d_F_digitOf_42 (⟨by rw [dg_a]; unfold md_dg; simp [c_3j, c_26j, c_32j], rfl⟩)
  · have c_3i := c_3
    have c_3j := Int32.not_lt.mp c_3
    refine lv_iload_n hx hb d_F_digitOf_6 rfl (lv_at hl 0 rfl) ?_
    refine lv_bipush (v := 57) hx hb d_F_digitOf_7 (by decide) ?_
    refine lv_icmp_gt (tgt := 17) hx hb d_F_digitOf_9 (by decide) (fun c_9 => ?_) (fun c_9 => ?_)
    · have c_9i := c_9
      have c_9j := Int32.not_le.mpr c_9
      refine lv_iload_n hx hb d_F_digitOf_17 rfl (lv_at hl 1 rfl) ?_
      refine lv_bipush (v := 16) hx hb d_F_digitOf_18 (by decide) ?_
      refine lv_icmp_ne (tgt := 43) hx hb d_F_digitOf_20 (by decide) (fun c_20 => absurd c_20 (show ¬ (¬ (16 : Int32) = 16) from by decide)) (fun c_20 => ?_)
      refine lv_iload_n hx hb d_F_digitOf_23 rfl (lv_at hl 0 rfl) ?_
      refine lv_bipush (v := 97) hx hb d_F_digitOf_24 (by decide) ?_
      refine lv_icmp_lt (tgt := 43) hx hb d_F_digitOf_26 (by decide) (fun c_26 => ?_) (fun c_26 => ?_)
      · have c_26i := c_26
        have c_26j := Int32.not_le.mpr c_26
        refine lv_iload_n hx hb d_F_digitOf_43 rfl (lv_at hl 1 rfl) ?_
        refine lv_bipush (v := 16) hx hb d_F_digitOf_44 (by decide) ?_
        refine lv_icmp_ne (tgt := 69) hx hb d_F_digitOf_46 (by decide) (fun c_46 => absurd c_46 (show ¬ (¬ (16 : Int32) = 16) from by decide)) (fun c_46 => ?_)
        refine lv_iload_n hx hb d_F_digitOf_49 rfl (lv_at hl 0 rfl) ?_
        refine lv_bipush (v := 65) hx hb d_F_digitOf_50 (by decide) ?_
        refine lv_icmp_lt (tgt := 69) hx hb d_F_digitOf_52 (by decide) (fun c_52 => ?_) (fun c_52 => ?_)
        · have c_52i := c_52
          have c_52j := Int32.not_le.mpr c_52
          refine lv_iconst (v := (-1)) hx hb d_F_digitOf_69 (by decide) ?_
          exact hp_reti S hK hW hr hlk d_F_digitOf_70 (⟨by unfold md_dg; simp [c_3j, c_9j, c_26j, c_52j], rfl⟩)
        · have c_52i := c_52
          have c_52j := Int32.not_lt.mp c_52
          refine lv_iload_n hx hb d_F_digitOf_55 rfl (lv_at hl 0 rfl) ?_
          refine lv_bipush (v := 70) hx hb d_F_digitOf_56 (by decide) ?_
          refine lv_icmp_gt (tgt := 69) hx hb d_F_digitOf_58 (by decide) (fun c_58 => ?_) (fun c_58 => ?_)
          · have c_58i := c_58
            have c_58j := Int32.not_le.mpr c_58
            refine lv_iconst (v := (-1)) hx hb d_F_digitOf_69 (by decide) ?_
            exact hp_reti S hK hW hr hlk d_F_digitOf_70 (⟨by unfold md_dg; simp [c_3j, c_9j, c_26j, c_52j, c_58j], rfl⟩)
          · have c_58i := c_58
            have c_58j := Int32.not_lt.mp c_58
            refine lv_iload_n hx hb d_F_digitOf_61 rfl (lv_at hl 0 rfl) ?_
            refine lv_bipush (v := 65) hx hb d_F_digitOf_62 (by decide) ?_
            refine lv_isub hx hb d_F_digitOf_64 ?_
            refine lv_bipush (v := 10) hx hb d_F_digitOf_65 (by decide) ?_
            refine lv_iadd hx hb d_F_digitOf_67 ?_
            exact hp_reti S hK hW hr hlk d_F_digitOf_68 (⟨by rw [dg_A]; unfold md_dg; simp [c_3j, c_9j, c_26j, c_52j, c_58j], rfl⟩)
      · have c_26i := c_26
        have c_26j := Int32.not_lt.mp c_26
        refine lv_iload_n hx hb d_F_digitOf_29 rfl (lv_at hl 0 rfl) ?_
        refine lv_bipush (v := 102) hx hb d_F_digitOf_30 (by decide) ?_
        refine lv_icmp_gt (tgt := 43) hx hb d_F_digitOf_32 (by decide) (fun c_32 => ?_) (fun c_32 => ?_)
        · have c_32i := c_32
          have c_32j := Int32.not_le.mpr c_32
          refine lv_iload_n hx hb d_F_digitOf_43 rfl (lv_at hl 1 rfl) ?_
          refine lv_bipush (v := 16) hx hb d_F_digitOf_44 (by decide) ?_
          refine lv_icmp_ne (tgt := 69) hx hb d_F_digitOf_46 (by decide) (fun c_46 => absurd c_46 (show ¬ (¬ (16 : Int32) = 16) from by decide)) (fun c_46 => ?_)
          refine lv_iload_n hx hb d_F_digitOf_49 rfl (lv_at hl 0 rfl) ?_
          refine lv_bipush (v := 65) hx hb d_F_digitOf_50 (by decide) ?_
          refine lv_icmp_lt (tgt := 69) hx hb d_F_digitOf_52 (by decide) (fun c_52 => ?_) (fun c_52 => ?_)
          · have c_52i := c_52
            have c_52j := Int32.not_le.mpr c_52
            refine lv_iconst (v := (-1)) hx hb d_F_digitOf_69 (by decide) ?_
            exact hp_reti S hK hW hr hlk d_F_digitOf_70 (⟨by unfold md_dg; simp [c_3j, c_9j, c_26j, c_32j, c_52j], rfl⟩)
          · have c_52i := c_52
            have c_52j := Int32.not_lt.mp c_52
            refine lv_iload_n hx hb d_F_digitOf_55 rfl (lv_at hl 0 rfl) ?_
            refine lv_bipush (v := 70) hx hb d_F_digitOf_56 (by decide) ?_
            refine lv_icmp_gt (tgt := 69) hx hb d_F_digitOf_58 (by decide) (fun c_58 => ?_) (fun c_58 => ?_)
            · have c_58i := c_58
              have c_58j := Int32.not_le.mpr c_58
              refine lv_iconst (v := (-1)) hx hb d_F_digitOf_69 (by decide) ?_
              exact hp_reti S hK hW hr hlk d_F_digitOf_70 (⟨by unfold md_dg; simp [c_3j, c_9j, c_26j, c_32j, c_52j, c_58j], rfl⟩)
            · have c_58i := c_58
              have c_58j := Int32.not_lt.mp c_58
              refine lv_iload_n hx hb d_F_digitOf_61 rfl (lv_at hl 0 rfl) ?_
              refine lv_bipush (v := 65) hx hb d_F_digitOf_62 (by decide) ?_
              refine lv_isub hx hb d_F_digitOf_64 ?_
              refine lv_bipush (v := 10) hx hb d_F_digitOf_65 (by decide) ?_
              refine lv_iadd hx hb d_F_digitOf_67 ?_
              exact hp_reti S hK hW hr hlk d_F_digitOf_68 (⟨by rw [dg_A]; unfold md_dg; simp [c_3j, c_9j, c_26j, c_32j, c_52j, c_58j], rfl⟩)
        · have c_32i := c_32
          have c_32j := Int32.not_lt.mp c_32
          refine lv_iload_n hx hb d_F_digitOf_35 rfl (lv_at hl 0 rfl) ?_
          refine lv_bipush (v := 97) hx hb d_F_digitOf_36 (by decide) ?_
          refine lv_isub hx hb d_F_digitOf_38 ?_
          refine lv_bipush (v := 10) hx hb d_F_digitOf_39 (by decide) ?_
          refine lv_iadd hx hb d_F_digitOf_41 ?_
          exact hp_reti S hK hW hr hlk d_F_digitOf_42 (⟨by rw [dg_a]; unfold md_dg; simp [c_3j, c_9j, c_26j, c_32j], rfl⟩)
    · have c_9i := c_9
      have c_9j := Int32.not_lt.mp c_9
      refine lv_iload_n hx hb d_F_digitOf_12 rfl (lv_at hl 0 rfl) ?_
      refine lv_bipush (v := 48) hx hb d_F_digitOf_13 (by decide) ?_
      refine lv_isub hx hb d_F_digitOf_15 ?_
      exact hp_reti S hK hW hr hlk d_F_digitOf_16 (⟨(dg_0 (Int32.not_lt.mp c_3i) (Int32.not_lt.mp c_9i)).symm, rfl⟩)

/-! digitOf(c, 10) -/
set_option maxHeartbeats 400000 in
set_option maxRecDepth 100000 in
theorem c_Ref_digitOf_10 (l : Launch) (g : hp_G) (z0 N : Nat) (ad : Nat → Nat) (F : Nat → va_E) (x : Int32) : hp_Mi l g z0 N ad y_F_digitOf ws_F_digitOf (rk 0) [.int x, .int 10] F (fun v F' => v = md_dg false x ∧ F' = F) := by
  refine hp_enter (cc := cc_F_digitOf) (maxL := 2) (ret := (some .int)) (by decide) rfl (Nat.le_of_ble_eq_true rfl) ?_
  intro p e s m below meth c S hr hlk hnm hK hW ls hl
  have hl : lv_has ls 2 [(0, .int x), (1, .int 10)] := hl
  obtain ⟨hx, hb, hml, hown, hts⟩ := id S
  refine lv_iload_n hx hb d_F_digitOf_0 rfl (lv_at hl 0 rfl) ?_
  refine lv_bipush (v := 48) hx hb d_F_digitOf_1 (by decide) ?_
  refine lv_icmp_lt (tgt := 17) hx hb d_F_digitOf_3 (by decide) (fun c_3 => ?_) (fun c_3 => ?_)
  · have c_3i := c_3
    have c_3j := Int32.not_le.mpr c_3
    refine lv_iload_n hx hb d_F_digitOf_17 rfl (lv_at hl 1 rfl) ?_
    refine lv_bipush (v := 16) hx hb d_F_digitOf_18 (by decide) ?_
    refine lv_icmp_ne (tgt := 43) hx hb d_F_digitOf_20 (by decide) (fun c_20 => ?_) (fun c_20 => absurd c_20 (show ¬ (10 : Int32) = 16 from by decide))
    refine lv_iload_n hx hb d_F_digitOf_43 rfl (lv_at hl 1 rfl) ?_
    refine lv_bipush (v := 16) hx hb d_F_digitOf_44 (by decide) ?_
    refine lv_icmp_ne (tgt := 69) hx hb d_F_digitOf_46 (by decide) (fun c_46 => ?_) (fun c_46 => absurd c_46 (show ¬ (10 : Int32) = 16 from by decide))
    refine lv_iconst (v := (-1)) hx hb d_F_digitOf_69 (by decide) ?_
    exact hp_reti S hK hW hr hlk d_F_digitOf_70 (⟨by unfold md_dg; simp [c_3j], rfl⟩)
  · have c_3i := c_3
    have c_3j := Int32.not_lt.mp c_3
    refine lv_iload_n hx hb d_F_digitOf_6 rfl (lv_at hl 0 rfl) ?_
    refine lv_bipush (v := 57) hx hb d_F_digitOf_7 (by decide) ?_
    refine lv_icmp_gt (tgt := 17) hx hb d_F_digitOf_9 (by decide) (fun c_9 => ?_) (fun c_9 => ?_)
    · have c_9i := c_9
      have c_9j := Int32.not_le.mpr c_9
      refine lv_iload_n hx hb d_F_digitOf_17 rfl (lv_at hl 1 rfl) ?_
      refine lv_bipush (v := 16) hx hb d_F_digitOf_18 (by decide) ?_
      refine lv_icmp_ne (tgt := 43) hx hb d_F_digitOf_20 (by decide) (fun c_20 => ?_) (fun c_20 => absurd c_20 (show ¬ (10 : Int32) = 16 from by decide))
      refine lv_iload_n hx hb d_F_digitOf_43 rfl (lv_at hl 1 rfl) ?_
      refine lv_bipush (v := 16) hx hb d_F_digitOf_44 (by decide) ?_
      refine lv_icmp_ne (tgt := 69) hx hb d_F_digitOf_46 (by decide) (fun c_46 => ?_) (fun c_46 => absurd c_46 (show ¬ (10 : Int32) = 16 from by decide))
      refine lv_iconst (v := (-1)) hx hb d_F_digitOf_69 (by decide) ?_
      exact hp_reti S hK hW hr hlk d_F_digitOf_70 (⟨by unfold md_dg; simp [c_3j, c_9j], rfl⟩)
    · have c_9i := c_9
      have c_9j := Int32.not_lt.mp c_9
      refine lv_iload_n hx hb d_F_digitOf_12 rfl (lv_at hl 0 rfl) ?_
      refine lv_bipush (v := 48) hx hb d_F_digitOf_13 (by decide) ?_
      refine lv_isub hx hb d_F_digitOf_15 ?_
      exact hp_reti S hK hW hr hlk d_F_digitOf_16 (⟨(dg_0 (Int32.not_lt.mp c_3i) (Int32.not_lt.mp c_9i)).symm, rfl⟩)

theorem c_Ref_digitOf (l : Launch) (g : hp_G) (z0 N : Nat) (ad : Nat → Nat) (F : Nat → va_E) (hex : Bool) (x : Int32) : hp_Mi l g z0 N ad y_F_digitOf ws_F_digitOf (rk 0) [.int x, .int (md_base hex)] F (fun v F' => v = md_dg hex x ∧ F' = F) := by
  cases hex
  · exact c_Ref_digitOf_10 l g z0 N ad F x
  · exact c_Ref_digitOf_16 l g z0 N ad F x

/-! Reference.close(row, q) -/
set_option maxHeartbeats 400000 in
set_option maxRecDepth 100000 in
theorem c_Ref_close (l : Launch) (g : hp_G) (z0 N : Nat) (ad : Nat → Nat) (F : Nat → va_E) (hN : 87 ≤ N) (r n : Nat) (xs : List Int32) (hrN : r + 1 < N) (hr86 : r ≠ 86 ∧ r + 1 ≠ 86) (hn : n < 1000000) (hR : vRow g ad F r n xs) (wh te nu en : Int32) (hF : F 86 = .inr (kF, [.int wh, .int te, .int nu, .int en])) (q : Nat) (hq : q < 1000) : hp_Mv l g z0 N ad y_F_close ws_F_close (rk 1) [.ref (ad 86), .ref (ad r), .int (nI q)] F (fun F' => F' 86 = .inr (kF, [.int (b2 (decide (md_at xs q = 59))), .int te, .int nu, .int (nI (if md_at xs q = 59 then q + 1 else q))]) ∧ ∀ x, x ≠ 86 → F' x = F x) := by
  refine hp_enter (cc := cc_F_close) (maxL := 3) (ret := none) (by decide) rfl (Nat.le_of_ble_eq_true rfl) ?_
  intro p e s m below meth c S hr hlk hnm hK hW ls hl
  have hl : lv_has ls 3 [(0, .ref (ad 86)), (1, .ref (ad r)), (2, .int (nI q))] := hl
  obtain ⟨hx, hb, hml, hown, hts⟩ := id S
  have in_kF : ∀ w ∈ u_ws R_F T_F 4, w ∈ ws_F_close := fun w h => List.mem_cons_of_mem _ (in0_F w h)
  have in_kR : ∀ w ∈ u_ws R_R T_R 2, w ∈ ws_F_close := fun w h => List.mem_cons_of_mem _ (in0_R w h)
  refine lv_aload_n hx hb d_F_close_0 rfl (lv_at hl 0 rfl) ?_
  refine lv_aload_n hx hb d_F_close_1 rfl (lv_at hl 1 rfl) ?_
  refine lv_iload_n hx hb d_F_close_2 rfl (lv_at hl 2 rfl) ?_
  refine hp_goi hW (va_runV S (c_Row_at l g z0 N ad F r n xs hrN hn hR q (by omega)) (cwV 1 hts (tb_V cd_R_at tq_175 tq_60 tq_61 tq_3) rfl rfl rfl hd_R_at (rk_ok (by omega) (by omega))) (hp_preV hK hW (by omega) rfl hR.obj rfl) rfl rfl hl.1 rfl (lv_room (Nat.le_of_ble_eq_true rfl)) d_F_close_3 ⟨Nat.zero_le _, Nat.zero_le _⟩) (fun r_1 F_2 H locs hw hW => ?_)
  obtain ⟨hvq, hFq⟩ := hw
  rw [hFq] at hW
  rw [hvq]
  refine lv_bipush (v := 59) hx hb d_F_close_6 (by decide) ?_
  refine lv_icmp_ne (tgt := 15) hx hb d_F_close_8 (by decide) (fun c_8 => ?_) (fun c_8 => ?_)
  · have c_8i := c_8
    refine lv_iconst (v := 0) hx hb d_F_close_15 (by decide) ?_
    refine hp_put S hK hW (86) (by omega) rfl hF rfl in_kF tyok_F nm_F 0 (by decide) (hts _ (List.mem_cons_of_mem _ tq_189)) rfl rfl rfl (Nat.le_of_ble_eq_true rfl) d_F_close_16 (fun H locs hW => ?_)
    obtain ⟨F_3, eF_3⟩ : ∃ z, z = va_up F (86) (.inr (kF, [.int 0, .int te, .int nu, .int en])) := ⟨_, rfl⟩
    replace hW : hp_W g z0 N ad F_3 s.heap H locs := by rw [eF_3]; exact hW
    have f_4 : F_3 (86) = .inr (kF, [.int 0, .int te, .int nu, .int en]) := by rw [eF_3, va_up_self]
    have f_5 : F_3 (r) = .inr (kR, [.ref (ad (r + 1)), .int (nI xs.length)]) := by rw [eF_3, va_up_ne _ _ (by omega)]; exact hR.obj
    refine lv_aload_n hx hb d_F_close_19 rfl (lv_at hl 0 rfl) ?_
    refine lv_aload_n hx hb d_F_close_20 rfl (lv_at hl 0 rfl) ?_
    refine hp_get S hK hW (86) (by omega) rfl f_4 rfl in_kF 0 (by decide) (hts _ (List.mem_cons_of_mem _ tq_189)) rfl d_F_close_21 ?_
    refine lv_if_eq (tgt := 33) hx hb d_F_close_24 (by decide) (fun c_24 => ?_) (fun c_24 => absurd (show (0 : Int32) = 0 from by decide) c_24)
    refine lv_iload_n hx hb d_F_close_33 rfl (lv_at hl 2 rfl) ?_
    refine hp_put S hK hW (86) (by omega) rfl f_4 rfl in_kF tyok_F nm_F 3 (by decide) (hts _ (List.mem_cons_of_mem _ tq_190)) rfl rfl rfl (Nat.le_of_ble_eq_true rfl) d_F_close_34 (fun H locs hW => ?_)
    obtain ⟨F_6, eF_6⟩ : ∃ z, z = va_up F_3 (86) (.inr (kF, [.int 0, .int te, .int nu, .int (nI q)])) := ⟨_, rfl⟩
    replace hW : hp_W g z0 N ad F_6 s.heap H locs := by rw [eF_6]; exact hW
    have f_7 : F_6 (86) = .inr (kF, [.int 0, .int te, .int nu, .int (nI q)]) := by rw [eF_6, va_up_self]
    have f_8 : F_6 (r) = .inr (kR, [.ref (ad (r + 1)), .int (nI xs.length)]) := by rw [eF_6, va_up_ne _ _ (by omega)]; exact f_5
    exact hp_retv S hK hW hr hlk d_F_close_37 (⟨by rw [f_7, decide_eq_false c_8i, if_neg c_8i]; rfl, fun x hx => by rw [eF_6, va_up_ne _ _ hx, eF_3, va_up_ne _ _ hx]⟩)
  · have c_8i := c_8
    refine lv_iconst (v := 1) hx hb d_F_close_11 (by decide) ?_
    refine lv_goto (tgt := 16) hx hb d_F_close_12 (by decide) ?_
    refine hp_put S hK hW (86) (by omega) rfl hF rfl in_kF tyok_F nm_F 0 (by decide) (hts _ (List.mem_cons_of_mem _ tq_189)) rfl rfl rfl (Nat.le_of_ble_eq_true rfl) d_F_close_16 (fun H locs hW => ?_)
    obtain ⟨F_9, eF_9⟩ : ∃ z, z = va_up F (86) (.inr (kF, [.int 1, .int te, .int nu, .int en])) := ⟨_, rfl⟩
    replace hW : hp_W g z0 N ad F_9 s.heap H locs := by rw [eF_9]; exact hW
    have f_10 : F_9 (86) = .inr (kF, [.int 1, .int te, .int nu, .int en]) := by rw [eF_9, va_up_self]
    have f_11 : F_9 (r) = .inr (kR, [.ref (ad (r + 1)), .int (nI xs.length)]) := by rw [eF_9, va_up_ne _ _ (by omega)]; exact hR.obj
    refine lv_aload_n hx hb d_F_close_19 rfl (lv_at hl 0 rfl) ?_
    refine lv_aload_n hx hb d_F_close_20 rfl (lv_at hl 0 rfl) ?_
    refine hp_get S hK hW (86) (by omega) rfl f_10 rfl in_kF 0 (by decide) (hts _ (List.mem_cons_of_mem _ tq_189)) rfl d_F_close_21 ?_
    refine lv_if_eq (tgt := 33) hx hb d_F_close_24 (by decide) (fun c_24 => absurd c_24 (show ¬ ((1 : Int32) = 0) from by decide)) (fun c_24 => ?_)
    refine lv_iload_n hx hb d_F_close_27 rfl (lv_at hl 2 rfl) ?_
    refine lv_iconst (v := 1) hx hb d_F_close_28 (by decide) ?_
    refine lv_iadd hx hb d_F_close_29 ?_
    refine lv_goto (tgt := 34) hx hb d_F_close_30 (by decide) ?_
    refine hp_put S hK hW (86) (by omega) rfl f_10 rfl in_kF tyok_F nm_F 3 (by decide) (hts _ (List.mem_cons_of_mem _ tq_190)) rfl rfl rfl (Nat.le_of_ble_eq_true rfl) d_F_close_34 (fun H locs hW => ?_)
    obtain ⟨F_12, eF_12⟩ : ∃ z, z = va_up F_9 (86) (.inr (kF, [.int 1, .int te, .int nu, .int ((nI q) + 1)])) := ⟨_, rfl⟩
    replace hW : hp_W g z0 N ad F_12 s.heap H locs := by rw [eF_12]; exact hW
    have f_13 : F_12 (86) = .inr (kF, [.int 1, .int te, .int nu, .int ((nI q) + 1)]) := by rw [eF_12, va_up_self]
    have f_14 : F_12 (r) = .inr (kR, [.ref (ad (r + 1)), .int (nI xs.length)]) := by rw [eF_12, va_up_ne _ _ (by omega)]; exact f_11
    exact hp_retv S hK hW hr hlk d_F_close_37 (⟨by rw [f_13, decide_eq_true c_8i, if_pos c_8i, nI_succ]; rfl, fun x hx => by rw [eF_12, va_up_ne _ _ hx, eF_9, va_up_ne _ _ hx]⟩)

/-! Reference.breakOff(q) -/
set_option maxHeartbeats 400000 in
set_option maxRecDepth 100000 in
theorem c_Ref_breakOff (l : Launch) (g : hp_G) (z0 N : Nat) (ad : Nat → Nat) (F : Nat → va_E) (hN : 87 ≤ N) (wh te nu en : Int32) (hF : F 86 = .inr (kF, [.int wh, .int te, .int nu, .int en])) (q : Int32) : hp_Mv l g z0 N ad y_F_breakOff ws_F_breakOff (rk 0) [.ref (ad 86), .int q] F (fun F' => F' 86 = .inr (kF, [.int 0, .int te, .int nu, .int q]) ∧ ∀ x, x ≠ 86 → F' x = F x) := by
  refine hp_enter (cc := cc_F_breakOff) (maxL := 2) (ret := none) (by decide) rfl (Nat.le_of_ble_eq_true rfl) ?_
  intro p e s m below meth c S hr hlk hnm hK hW ls hl
  have hl : lv_has ls 2 [(0, .ref (ad 86)), (1, .int q)] := hl
  obtain ⟨hx, hb, hml, hown, hts⟩ := id S
  have in_kF : ∀ w ∈ u_ws R_F T_F 4, w ∈ ws_F_breakOff := fun w h => List.mem_cons_of_mem _ (in0_F w h)
  refine lv_aload_n hx hb d_F_breakOff_0 rfl (lv_at hl 0 rfl) ?_
  refine lv_iconst (v := 0) hx hb d_F_breakOff_1 (by decide) ?_
  refine hp_put S hK hW (86) (by omega) rfl hF rfl in_kF tyok_F nm_F 0 (by decide) (hts _ (List.mem_cons_of_mem _ tq_189)) rfl rfl rfl (Nat.le_of_ble_eq_true rfl) d_F_breakOff_2 (fun H locs hW => ?_)
  obtain ⟨F_1, eF_1⟩ : ∃ z, z = va_up F (86) (.inr (kF, [.int 0, .int te, .int nu, .int en])) := ⟨_, rfl⟩
  replace hW : hp_W g z0 N ad F_1 s.heap H locs := by rw [eF_1]; exact hW
  have f_2 : F_1 (86) = .inr (kF, [.int 0, .int te, .int nu, .int en]) := by rw [eF_1, va_up_self]
  refine lv_aload_n hx hb d_F_breakOff_5 rfl (lv_at hl 0 rfl) ?_
  refine lv_iload_n hx hb d_F_breakOff_6 rfl (lv_at hl 1 rfl) ?_
  refine hp_put S hK hW (86) (by omega) rfl f_2 rfl in_kF tyok_F nm_F 3 (by decide) (hts _ (List.mem_cons_of_mem _ tq_190)) rfl rfl rfl (Nat.le_of_ble_eq_true rfl) d_F_breakOff_7 (fun H locs hW => ?_)
  obtain ⟨F_3, eF_3⟩ : ∃ z, z = va_up F_1 (86) (.inr (kF, [.int 0, .int te, .int nu, .int q])) := ⟨_, rfl⟩
  replace hW : hp_W g z0 N ad F_3 s.heap H locs := by rw [eF_3]; exact hW
  have f_4 : F_3 (86) = .inr (kF, [.int 0, .int te, .int nu, .int q]) := by rw [eF_3, va_up_self]
  exact hp_retv S hK hW hr hlk d_F_breakOff_10 (⟨f_4, fun x hx => by rw [eF_3, va_up_ne _ _ hx, eF_1, va_up_ne _ _ hx]⟩)

theorem clX1 (xs : List Int32) (nu : Int32) (q : Nat) {en : Bool} : (md_cl xs en nu q).1 = decide (md_at xs q = 59) := by unfold md_cl; split <;> rename_i h <;> simp [h]
theorem clX2 (xs : List Int32) (nu : Int32) (q : Nat) {en : Bool} : (md_cl xs en nu q).2.2.2 = if md_at xs q = 59 then q + 1 else q := by unfold md_cl; split <;> rfl
theorem clX3 (xs : List Int32) (nu : Int32) (q : Nat) {en : Bool} : (md_cl xs en nu q).2.2.1 = nu := by unfold md_cl; split <;> rfl
theorem clX4 (xs : List Int32) (nu : Int32) (q : Nat) {en : Bool} : (md_cl xs en nu q).2.1 = en := by unfold md_cl; split <;> rfl

/-! readNumber: its loop -/
set_option maxHeartbeats 400000 in
set_option maxRecDepth 100000 in
theorem lp_Ref_readNumber {p : Program} {e : Env} {s : State} {m : MethodId} {args : Array Value} {below : List Frame} {meth : Method} {c : Code} (l : Launch) (g : hp_G) (z0 N : Nat) (ad : Nat → Nat)  (hN : 87 ≤ N) (Fz : Nat → va_E) (r n : Nat) (xs : List Int32) (hrN : r + 1 < N) (hr86 : r ≠ 86 ∧ r + 1 ≠ 86) (hn : n < 1000000) (wh te en : Int32) (hex : Bool) (fr : Nat) (hfr0 : fr < 500) (x2 x3 : Int32) (S : CallFix p m c cc_F_readNumber 7 s args ws_F_readNumber R_F) (hr : meth.sig.returnType = none) (hlk : meth.locks = false) (hK : hp_K g s) : ∀ (j : Nat) (d : Nat) (num : Int32) (F : Nat → va_E), d ≤ 6 → 7 ≤ d + j → F 86 = .inr (kF, [.int wh, .int te, .int num, .int en]) → vRow g ad F r n xs → (md_dgs hex xs 6 fr 0) = md_dgs hex xs (6 - d) (fr + d) num → (∀ x, x ≠ 86 → F x = Fz x) → ∀ (H : Heap) (locs : List Loc) (ls : Array Slot), hp_W g z0 N ad F s.heap H locs → lv_has ls 7 [(0, .ref (ad 86)), (1, .ref (ad r)), (2, .int x2), (3, .int x3), (4, .int (md_base hex)), (5, .int (nI fr)), (6, .int (nI d))] → W p l e (rk 2) s m args below meth c H locs 0 0 (MQ below (va_Qv (fun F' => (∃ nu' : Int32, F' 86 = .inr (kF, [.int (b2 (md_num hex xs fr).1), .int te, .int nu', .int (nI (md_num hex xs fr).2.2.2)]) ∧ ((md_num hex xs fr).1 = true → nu' = (md_num hex xs fr).2.2.1)) ∧ ∀ x, x ≠ 86 → F' x = Fz x) (hp_B g z0 N ad) (hp_A z0)) args s 0 0 (hp_A z0)) (F0 m 50 ls []) := by
  obtain ⟨hx, hb, hml, hown, hts⟩ := id S
  have in_kF : ∀ w ∈ u_ws R_F T_F 4, w ∈ ws_F_readNumber := fun w h => List.mem_cons_of_mem _ (in0_F w h)
  have in_kR : ∀ w ∈ u_ws R_R T_R 2, w ∈ ws_F_readNumber := fun w h => List.mem_cons_of_mem _ (in0_R w h)
  intro j
  induction j with
  | zero =>
    intro d num F hd hj hF hR hD hfr H locs ls hW hl
    exact absurd hj (by omega)
  | succ j ih =>
    intro d num F hd hj hF hR hD hfr H locs ls hW hl
    refine lv_iload hx hb d_F_readNumber_50 (lv_at hl 6 rfl) ?_
    refine lv_bipush (v := 6) hx hb d_F_readNumber_52 (by decide) ?_
    refine lv_icmp_ge (tgt := 106) hx hb d_F_readNumber_54 (by decide) (fun c_54 => ?_) (fun c_54 => ?_)
    · have c_54i := c_54
      replace c_54 : 6 ≤ d := (nI_leI (a := 6) (b := d) (by omega) (by omega)).mp c_54
      have hend : (md_dgs hex xs 6 fr 0) = (fr + d, num) := by rw [hD, show 6 - d = 0 by omega]; rfl
      refine lv_iload hx hb d_F_readNumber_106 (lv_at hl 6 rfl) ?_
      refine lv_if_ne (tgt := 120) hx hb d_F_readNumber_108 (by decide) (fun c_108 => ?_) (fun c_108 => ?_)
      · have c_108i := c_108
        replace c_108 : ¬ d = 0 := fun zz9 => c_108 ((nI_eq (a := d) (b := 0) (by omega) (by omega)).mpr zz9)
        refine lv_aload_n hx hb d_F_readNumber_120 rfl (lv_at hl 0 rfl) ?_
        refine lv_aload_n hx hb d_F_readNumber_121 rfl (lv_at hl 1 rfl) ?_
        refine lv_iload hx hb d_F_readNumber_122 (lv_at hl 5 rfl) ?_
        refine lv_iload hx hb d_F_readNumber_124 (lv_at hl 6 rfl) ?_
        refine lv_iadd hx hb d_F_readNumber_126 ?_
        rw [show ((nI fr) + (nI d)) = (nI (fr + d)) from nI_add fr d]
        refine hp_gov hW (va_runV S (c_Ref_close l g z0 N ad F hN r n xs hrN hr86 hn hR wh te num en hF (fr + d) (by omega)) (cwV 2 hts (tb_V cd_F_close tq_181 tq_182 tq_183 tq_16) rfl rfl rfl hd_F_close (rk_ok (by omega) (by omega))) (hp_preV hK hW (by omega) rfl hF rfl) rfl rfl hl.1 rfl (lv_room (Nat.le_of_ble_eq_true rfl)) d_F_readNumber_127 ⟨Nat.zero_le _, Nat.zero_le _⟩) (fun F_2 H locs hw hW => ?_)
        obtain ⟨hc1, hc2⟩ := hw
        have hX : md_num hex xs fr = md_cl xs false num (fr + d) := by unfold md_num; rw [hend]; exact if_neg (by show ¬ fr + d = fr; omega)
        rw [← clX1 xs num (fr + d), ← clX2 xs num (fr + d)] at hc1
        exact hp_retv S hK hW hr hlk d_F_readNumber_130 (⟨⟨num, by rw [hX]; exact hc1, fun _ => by rw [hX, clX3]⟩, fun x hx => (hc2 x hx).trans (hfr x hx)⟩)
      · have c_108i := c_108
        replace c_108 : d = 0 := (nI_eq (a := d) (b := 0) (by omega) (by omega)).mp c_108
        refine lv_aload_n hx hb d_F_readNumber_111 rfl (lv_at hl 0 rfl) ?_
        refine lv_iload hx hb d_F_readNumber_112 (lv_at hl 5 rfl) ?_
        refine hp_gov hW (va_runV S (c_Ref_breakOff l g z0 N ad F hN wh te num en hF (nI fr)) (cwV 1 hts (tb_V cd_F_breakOff tq_184 tq_185 tq_186 tq_16) rfl rfl rfl hd_F_breakOff (rk_ok (by omega) (by omega))) (hp_preV hK hW (by omega) rfl hF rfl) rfl rfl hl.1 rfl (lv_room (Nat.le_of_ble_eq_true rfl)) d_F_readNumber_114 ⟨Nat.zero_le _, Nat.zero_le _⟩) (fun F_4 H locs hw hW => ?_)
        obtain ⟨hc1, hc2⟩ := hw
        refine lv_goto (tgt := 130) hx hb d_F_readNumber_117 (by decide) ?_
        have hX : md_num hex xs fr = (false, false, 0, fr) := by unfold md_num; rw [hend]; exact if_pos (by show fr + d = fr; omega)
        exact hp_retv S hK hW hr hlk d_F_readNumber_130 (⟨⟨num, by rw [hX]; exact hc1, by rw [hX]; exact fun h => by cases h⟩, fun x hx => (hc2 x hx).trans (hfr x hx)⟩)
    · have c_54i := c_54
      replace c_54 : ¬ 6 ≤ d := fun zz9 => c_54 ((nI_leI (a := 6) (b := d) (by omega) (by omega)).mpr zz9)
      refine lv_aload_n hx hb d_F_readNumber_57 rfl (lv_at hl 1 rfl) ?_
      refine lv_iload hx hb d_F_readNumber_58 (lv_at hl 5 rfl) ?_
      refine lv_iload hx hb d_F_readNumber_60 (lv_at hl 6 rfl) ?_
      refine lv_iadd hx hb d_F_readNumber_62 ?_
      rw [show ((nI fr) + (nI d)) = (nI (fr + d)) from nI_add fr d]
      refine hp_goi hW (va_runV S (c_Row_at l g z0 N ad F r n xs hrN hn hR (fr + d) (by omega)) (cwV 1 hts (tb_V cd_R_at tq_175 tq_60 tq_61 tq_3) rfl rfl rfl hd_R_at (rk_ok (by omega) (by omega))) (hp_preV hK hW (by omega) rfl hR.obj rfl) rfl rfl hl.1 rfl (lv_room (Nat.le_of_ble_eq_true rfl)) d_F_readNumber_63 ⟨Nat.zero_le _, Nat.zero_le _⟩) (fun r_5 F_6 H locs hw hW => ?_)
      obtain ⟨hvq, hFq⟩ := hw
      rw [hFq] at hW
      rw [hvq]
      refine lv_iload hx hb d_F_readNumber_66 (lv_at hl 4 rfl) ?_
      refine hp_goi hW (va_runS S (c_Ref_digitOf l g z0 N ad F hex (md_at xs (fr + d))) (va_cwS 2 hts (tb_S cd_F_digitOf tq_187 tq_188 tq_16) rfl rfl rfl hd_F_digitOf.2 (rk_ok (by omega) (by omega))) (hp_preS hK hW) rfl rfl hl.1 rfl (lv_room (Nat.le_of_ble_eq_true rfl)) d_F_readNumber_68 ⟨Nat.zero_le _, Nat.zero_le _⟩) (fun r_7 F_8 H locs hw hW => ?_)
      obtain ⟨hvq, hFq⟩ := hw
      rw [hFq] at hW
      rw [hvq]
      refine lv_if_lt (tgt := 106) hx hb d_F_readNumber_71 (by decide) (fun c_71 => ?_) (fun c_71 => ?_)
      · have c_71i := c_71
        have c_71j := Int32.not_le.mpr c_71
        have hend : (md_dgs hex xs 6 fr 0) = (fr + d, num) := by rw [hD]; exact dgs_end (Int32.not_le.mpr c_71)
        refine lv_iload hx hb d_F_readNumber_106 (lv_at hl 6 rfl) ?_
        refine lv_if_ne (tgt := 120) hx hb d_F_readNumber_108 (by decide) (fun c_108 => ?_) (fun c_108 => ?_)
        · have c_108i := c_108
          replace c_108 : ¬ d = 0 := fun zz9 => c_108 ((nI_eq (a := d) (b := 0) (by omega) (by omega)).mpr zz9)
          refine lv_aload_n hx hb d_F_readNumber_120 rfl (lv_at hl 0 rfl) ?_
          refine lv_aload_n hx hb d_F_readNumber_121 rfl (lv_at hl 1 rfl) ?_
          refine lv_iload hx hb d_F_readNumber_122 (lv_at hl 5 rfl) ?_
          refine lv_iload hx hb d_F_readNumber_124 (lv_at hl 6 rfl) ?_
          refine lv_iadd hx hb d_F_readNumber_126 ?_
          rw [show ((nI fr) + (nI d)) = (nI (fr + d)) from nI_add fr d]
          refine hp_gov hW (va_runV S (c_Ref_close l g z0 N ad F hN r n xs hrN hr86 hn hR wh te num en hF (fr + d) (by omega)) (cwV 2 hts (tb_V cd_F_close tq_181 tq_182 tq_183 tq_16) rfl rfl rfl hd_F_close (rk_ok (by omega) (by omega))) (hp_preV hK hW (by omega) rfl hF rfl) rfl rfl hl.1 rfl (lv_room (Nat.le_of_ble_eq_true rfl)) d_F_readNumber_127 ⟨Nat.zero_le _, Nat.zero_le _⟩) (fun F_10 H locs hw hW => ?_)
          obtain ⟨hc1, hc2⟩ := hw
          have hX : md_num hex xs fr = md_cl xs false num (fr + d) := by unfold md_num; rw [hend]; exact if_neg (by show ¬ fr + d = fr; omega)
          rw [← clX1 xs num (fr + d), ← clX2 xs num (fr + d)] at hc1
          exact hp_retv S hK hW hr hlk d_F_readNumber_130 (⟨⟨num, by rw [hX]; exact hc1, fun _ => by rw [hX, clX3]⟩, fun x hx => (hc2 x hx).trans (hfr x hx)⟩)
        · have c_108i := c_108
          replace c_108 : d = 0 := (nI_eq (a := d) (b := 0) (by omega) (by omega)).mp c_108
          refine lv_aload_n hx hb d_F_readNumber_111 rfl (lv_at hl 0 rfl) ?_
          refine lv_iload hx hb d_F_readNumber_112 (lv_at hl 5 rfl) ?_
          refine hp_gov hW (va_runV S (c_Ref_breakOff l g z0 N ad F hN wh te num en hF (nI fr)) (cwV 1 hts (tb_V cd_F_breakOff tq_184 tq_185 tq_186 tq_16) rfl rfl rfl hd_F_breakOff (rk_ok (by omega) (by omega))) (hp_preV hK hW (by omega) rfl hF rfl) rfl rfl hl.1 rfl (lv_room (Nat.le_of_ble_eq_true rfl)) d_F_readNumber_114 ⟨Nat.zero_le _, Nat.zero_le _⟩) (fun F_12 H locs hw hW => ?_)
          obtain ⟨hc1, hc2⟩ := hw
          refine lv_goto (tgt := 130) hx hb d_F_readNumber_117 (by decide) ?_
          have hX : md_num hex xs fr = (false, false, 0, fr) := by unfold md_num; rw [hend]; exact if_pos (by show fr + d = fr; omega)
          exact hp_retv S hK hW hr hlk d_F_readNumber_130 (⟨⟨num, by rw [hX]; exact hc1, by rw [hX]; exact fun h => by cases h⟩, fun x hx => (hc2 x hx).trans (hfr x hx)⟩)
      · have c_71i := c_71
        have c_71j := Int32.not_lt.mp c_71
        have c_71i := Int32.not_lt.mp c_71
        refine lv_aload_n hx hb d_F_readNumber_74 rfl (lv_at hl 0 rfl) ?_
        refine lv_aload_n hx hb d_F_readNumber_75 rfl (lv_at hl 0 rfl) ?_
        refine hp_get S hK hW (86) (by omega) rfl hF rfl in_kF 2 (by decide) (hts _ (List.mem_cons_of_mem _ tq_180)) rfl d_F_readNumber_76 ?_
        refine lv_iload hx hb d_F_readNumber_79 (lv_at hl 4 rfl) ?_
        refine lv_imul hx hb d_F_readNumber_81 ?_
        refine lv_aload_n hx hb d_F_readNumber_82 rfl (lv_at hl 1 rfl) ?_
        refine lv_iload hx hb d_F_readNumber_83 (lv_at hl 5 rfl) ?_
        refine lv_iload hx hb d_F_readNumber_85 (lv_at hl 6 rfl) ?_
        refine lv_iadd hx hb d_F_readNumber_87 ?_
        rw [show ((nI fr) + (nI d)) = (nI (fr + d)) from nI_add fr d]
        refine hp_goi hW (va_runV S (c_Row_at l g z0 N ad F r n xs hrN hn hR (fr + d) (by omega)) (cwV 1 hts (tb_V cd_R_at tq_175 tq_60 tq_61 tq_3) rfl rfl rfl hd_R_at (rk_ok (by omega) (by omega))) (hp_preV hK hW (by omega) rfl hR.obj rfl) rfl rfl hl.1 rfl (lv_room (Nat.le_of_ble_eq_true rfl)) d_F_readNumber_88 ⟨Nat.zero_le _, Nat.zero_le _⟩) (fun r_13 F_14 H locs hw hW => ?_)
        obtain ⟨hvq, hFq⟩ := hw
        rw [hFq] at hW
        rw [hvq]
        refine lv_iload hx hb d_F_readNumber_91 (lv_at hl 4 rfl) ?_
        refine hp_goi hW (va_runS S (c_Ref_digitOf l g z0 N ad F hex (md_at xs (fr + d))) (va_cwS 2 hts (tb_S cd_F_digitOf tq_187 tq_188 tq_16) rfl rfl rfl hd_F_digitOf.2 (rk_ok (by omega) (by omega))) (hp_preS hK hW) rfl rfl hl.1 rfl (lv_room (Nat.le_of_ble_eq_true rfl)) d_F_readNumber_93 ⟨Nat.zero_le _, Nat.zero_le _⟩) (fun r_15 F_16 H locs hw hW => ?_)
        obtain ⟨hvq, hFq⟩ := hw
        rw [hFq] at hW
        rw [hvq]
        refine lv_iadd hx hb d_F_readNumber_96 ?_
        refine hp_put S hK hW (86) (by omega) rfl hF rfl in_kF tyok_F nm_F 2 (by decide) (hts _ (List.mem_cons_of_mem _ tq_180)) rfl rfl rfl (Nat.le_of_ble_eq_true rfl) d_F_readNumber_97 (fun H locs hW => ?_)
        obtain ⟨F_17, eF_17⟩ : ∃ z, z = va_up F (86) (.inr (kF, [.int wh, .int te, .int ((num * (md_base hex)) + (md_dg hex (md_at xs (fr + d)))), .int en])) := ⟨_, rfl⟩
        replace hW : hp_W g z0 N ad F_17 s.heap H locs := by rw [eF_17]; exact hW
        have f_18 : F_17 (86) = .inr (kF, [.int wh, .int te, .int ((num * (md_base hex)) + (md_dg hex (md_at xs (fr + d)))), .int en]) := by rw [eF_17, va_up_self]
        have f_19 : F_17 (r) = .inr (kR, [.ref (ad (r + 1)), .int (nI xs.length)]) := by rw [eF_17, va_up_ne _ _ (by omega)]; exact hR.obj
        have hR_20 : vRow g ad F_17 r n xs := hR.keep (by rw [eF_17, va_up_ne _ _ hr86.1]) (by rw [eF_17, va_up_ne _ _ hr86.2])
        refine lv_iinc (v := (nI (d + 1))) (lv' := [(6, .int (nI (d + 1))), (0, .ref (ad 86)), (1, .ref (ad r)), (2, .int x2), (3, .int x3), (4, .int (md_base hex)), (5, .int (nI fr))]) hx hb d_F_readNumber_100 hl (k := 6) rfl ((nI_succ (d)).symm) (by decide) rfl (fun ls hl => ?_)
        refine lv_goto (tgt := 50) hx hb d_F_readNumber_103 (by decide) ?_
        exact ih (d + 1) _ F_17 (by omega) (by omega) f_18 hR_20 (by rw [hD, show 6 - d = (6 - (d + 1)) + 1 by omega, dgs_go c_71i]; rfl) (fun x hx => by rw [eF_17, va_up_ne _ _ hx]; exact hfr x hx) H locs ls hW (lv_sub hl [1, 2, 3, 4, 5, 6, 0] rfl)

/-! readNumber(row, q + 2) -/
set_option maxHeartbeats 400000 in
set_option maxRecDepth 100000 in
theorem c_Ref_readNumber (l : Launch) (g : hp_G) (z0 N : Nat) (ad : Nat → Nat) (F : Nat → va_E) (hN : 87 ≤ N) (r n : Nat) (xs : List Int32) (hrN : r + 1 < N) (hr86 : r ≠ 86 ∧ r + 1 ≠ 86) (hn : n < 1000000) (hR : vRow g ad F r n xs) (wh te nu en : Int32) (hF : F 86 = .inr (kF, [.int wh, .int te, .int nu, .int en])) (q : Nat) (hq : q < 400) : hp_Mv l g z0 N ad y_F_readNumber ws_F_readNumber (rk 2) [.ref (ad 86), .ref (ad r), .int (nI (q + 2))] F (fun F' => (∃ nu' : Int32, F' 86 = .inr (kF, [.int (b2 (md_num (md_hex xs q) xs (md_from xs q)).1), .int te, .int nu', .int (nI (md_num (md_hex xs q) xs (md_from xs q)).2.2.2)]) ∧ ((md_num (md_hex xs q) xs (md_from xs q)).1 = true → nu' = (md_num (md_hex xs q) xs (md_from xs q)).2.2.1)) ∧ ∀ x, x ≠ 86 → F' x = F x) := by
  refine hp_enter (cc := cc_F_readNumber) (maxL := 7) (ret := none) (by decide) rfl (Nat.le_of_ble_eq_true rfl) ?_
  intro p e s m below meth c S hr hlk hnm hK hW ls hl
  have hl : lv_has ls 7 [(0, .ref (ad 86)), (1, .ref (ad r)), (2, .int (nI (q + 2)))] := hl
  obtain ⟨hx, hb, hml, hown, hts⟩ := id S
  have in_kF : ∀ w ∈ u_ws R_F T_F 4, w ∈ ws_F_readNumber := fun w h => List.mem_cons_of_mem _ (in0_F w h)
  have in_kR : ∀ w ∈ u_ws R_R T_R 2, w ∈ ws_F_readNumber := fun w h => List.mem_cons_of_mem _ (in0_R w h)
  refine lv_aload_n hx hb d_F_readNumber_0 rfl (lv_at hl 1 rfl) ?_
  refine lv_iload_n hx hb d_F_readNumber_1 rfl (lv_at hl 2 rfl) ?_
  refine hp_goi hW (va_runV S (c_Row_at l g z0 N ad F r n xs hrN hn hR (q + 2) (by omega)) (cwV 1 hts (tb_V cd_R_at tq_175 tq_60 tq_61 tq_3) rfl rfl rfl hd_R_at (rk_ok (by omega) (by omega))) (hp_preV hK hW (by omega) rfl hR.obj rfl) rfl rfl hl.1 rfl (lv_room (Nat.le_of_ble_eq_true rfl)) d_F_readNumber_2 ⟨Nat.zero_le _, Nat.zero_le _⟩) (fun r_1 F_2 H locs hw hW => ?_)
  obtain ⟨hvq, hFq⟩ := hw
  rw [hFq] at hW
  rw [hvq]
  refine lv_bipush (v := 120) hx hb d_F_readNumber_5 (by decide) ?_
  refine lv_icmp_ne (tgt := 14) hx hb d_F_readNumber_7 (by decide) (fun c_7 => ?_) (fun c_7 => ?_)
  · have c_7i := c_7
    refine lv_iconst (v := 0) hx hb d_F_readNumber_14 (by decide) ?_
    refine lv_istore_n (lv' := [(3, .int 0), (0, .ref (ad 86)), (1, .ref (ad r)), (2, .int (nI (q + 2)))]) hx hb d_F_readNumber_15 rfl hl (by decide) rfl (fun ls hl => ?_)
    refine lv_iload_n hx hb d_F_readNumber_16 rfl (lv_at hl 0 rfl) ?_
    refine lv_if_eq (tgt := 25) hx hb d_F_readNumber_17 (by decide) (fun c_17 => ?_) (fun c_17 => absurd (show (0 : Int32) = 0 from by decide) c_17)
    refine lv_bipush (v := 10) hx hb d_F_readNumber_25 (by decide) ?_
    refine lv_istore (lv' := [(4, .int 10), (3, .int 0), (0, .ref (ad 86)), (1, .ref (ad r)), (2, .int (nI (q + 2)))]) hx hb d_F_readNumber_27 hl (by decide) rfl (fun ls hl => ?_)
    refine lv_iload_n hx hb d_F_readNumber_29 rfl (lv_at hl 1 rfl) ?_
    refine lv_if_eq (tgt := 39) hx hb d_F_readNumber_30 (by decide) (fun c_30 => ?_) (fun c_30 => absurd (show (0 : Int32) = 0 from by decide) c_30)
    refine lv_iload_n hx hb d_F_readNumber_39 rfl (lv_at hl 4 rfl) ?_
    refine lv_istore (lv' := [(5, .int (nI (q + 2))), (4, .int 10), (3, .int 0), (0, .ref (ad 86)), (1, .ref (ad r)), (2, .int (nI (q + 2)))]) hx hb d_F_readNumber_40 hl (by decide) rfl (fun ls hl => ?_)
    refine lv_iconst (v := 0) hx hb d_F_readNumber_42 (by decide) ?_
    refine lv_istore (lv' := [(6, .int 0), (5, .int (nI (q + 2))), (4, .int 10), (3, .int 0), (0, .ref (ad 86)), (1, .ref (ad r)), (2, .int (nI (q + 2)))]) hx hb d_F_readNumber_43 hl (by decide) rfl (fun ls hl => ?_)
    refine lv_aload_n hx hb d_F_readNumber_45 rfl (lv_at hl 4 rfl) ?_
    refine lv_iconst (v := 0) hx hb d_F_readNumber_46 (by decide) ?_
    refine hp_put S hK hW (86) (by omega) rfl hF rfl in_kF tyok_F nm_F 2 (by decide) (hts _ (List.mem_cons_of_mem _ tq_180)) rfl rfl rfl (Nat.le_of_ble_eq_true rfl) d_F_readNumber_47 (fun H locs hW => ?_)
    obtain ⟨F_3, eF_3⟩ : ∃ z, z = va_up F (86) (.inr (kF, [.int wh, .int te, .int 0, .int en])) := ⟨_, rfl⟩
    replace hW : hp_W g z0 N ad F_3 s.heap H locs := by rw [eF_3]; exact hW
    have f_4 : F_3 (86) = .inr (kF, [.int wh, .int te, .int 0, .int en]) := by rw [eF_3, va_up_self]
    have f_5 : F_3 (r) = .inr (kR, [.ref (ad (r + 1)), .int (nI xs.length)]) := by rw [eF_3, va_up_ne _ _ (by omega)]; exact hR.obj
    have hR_6 : vRow g ad F_3 r n xs := hR.keep (by rw [eF_3, va_up_ne _ _ hr86.1]) (by rw [eF_3, va_up_ne _ _ hr86.2])
    have hh : md_hex xs q = false := decide_eq_false c_7i
    have hq3 : md_from xs q = (q + 2) := by unfold md_from; rw [hh]; rfl
    rw [hh, hq3]
    exact lp_Ref_readNumber l g z0 N ad hN F r n xs hrN hr86 hn wh te en false (q + 2) (by omega) _ _ S hr hlk hK 7 0 0 F_3 (by omega) (by omega) f_4 hR_6 rfl (fun x hx => by rw [eF_3, va_up_ne _ _ hx]) _ _ ls hW (lv_sub hl [4, 5, 6, 3, 2, 1, 0] rfl)
  · have c_7i := c_7
    refine lv_iconst (v := 1) hx hb d_F_readNumber_10 (by decide) ?_
    refine lv_goto (tgt := 15) hx hb d_F_readNumber_11 (by decide) ?_
    refine lv_istore_n (lv' := [(3, .int 1), (0, .ref (ad 86)), (1, .ref (ad r)), (2, .int (nI (q + 2)))]) hx hb d_F_readNumber_15 rfl hl (by decide) rfl (fun ls hl => ?_)
    refine lv_iload_n hx hb d_F_readNumber_16 rfl (lv_at hl 0 rfl) ?_
    refine lv_if_eq (tgt := 25) hx hb d_F_readNumber_17 (by decide) (fun c_17 => absurd c_17 (show ¬ ((1 : Int32) = 0) from by decide)) (fun c_17 => ?_)
    refine lv_bipush (v := 16) hx hb d_F_readNumber_20 (by decide) ?_
    refine lv_goto (tgt := 27) hx hb d_F_readNumber_22 (by decide) ?_
    refine lv_istore (lv' := [(4, .int 16), (3, .int 1), (0, .ref (ad 86)), (1, .ref (ad r)), (2, .int (nI (q + 2)))]) hx hb d_F_readNumber_27 hl (by decide) rfl (fun ls hl => ?_)
    refine lv_iload_n hx hb d_F_readNumber_29 rfl (lv_at hl 1 rfl) ?_
    refine lv_if_eq (tgt := 39) hx hb d_F_readNumber_30 (by decide) (fun c_30 => absurd c_30 (show ¬ ((1 : Int32) = 0) from by decide)) (fun c_30 => ?_)
    refine lv_iload_n hx hb d_F_readNumber_33 rfl (lv_at hl 4 rfl) ?_
    refine lv_iconst (v := 1) hx hb d_F_readNumber_34 (by decide) ?_
    refine lv_iadd hx hb d_F_readNumber_35 ?_
    rw [show ((nI (q + 2)) + 1) = (nI (q + 3)) from (nI_succ (q + 2)).symm]
    refine lv_goto (tgt := 40) hx hb d_F_readNumber_36 (by decide) ?_
    refine lv_istore (lv' := [(5, .int (nI (q + 3))), (4, .int 16), (3, .int 1), (0, .ref (ad 86)), (1, .ref (ad r)), (2, .int (nI (q + 2)))]) hx hb d_F_readNumber_40 hl (by decide) rfl (fun ls hl => ?_)
    refine lv_iconst (v := 0) hx hb d_F_readNumber_42 (by decide) ?_
    refine lv_istore (lv' := [(6, .int 0), (5, .int (nI (q + 3))), (4, .int 16), (3, .int 1), (0, .ref (ad 86)), (1, .ref (ad r)), (2, .int (nI (q + 2)))]) hx hb d_F_readNumber_43 hl (by decide) rfl (fun ls hl => ?_)
    refine lv_aload_n hx hb d_F_readNumber_45 rfl (lv_at hl 4 rfl) ?_
    refine lv_iconst (v := 0) hx hb d_F_readNumber_46 (by decide) ?_
    refine hp_put S hK hW (86) (by omega) rfl hF rfl in_kF tyok_F nm_F 2 (by decide) (hts _ (List.mem_cons_of_mem _ tq_180)) rfl rfl rfl (Nat.le_of_ble_eq_true rfl) d_F_readNumber_47 (fun H locs hW => ?_)
    obtain ⟨F_7, eF_7⟩ : ∃ z, z = va_up F (86) (.inr (kF, [.int wh, .int te, .int 0, .int en])) := ⟨_, rfl⟩
    replace hW : hp_W g z0 N ad F_7 s.heap H locs := by rw [eF_7]; exact hW
    have f_8 : F_7 (86) = .inr (kF, [.int wh, .int te, .int 0, .int en]) := by rw [eF_7, va_up_self]
    have f_9 : F_7 (r) = .inr (kR, [.ref (ad (r + 1)), .int (nI xs.length)]) := by rw [eF_7, va_up_ne _ _ (by omega)]; exact hR.obj
    have hR_10 : vRow g ad F_7 r n xs := hR.keep (by rw [eF_7, va_up_ne _ _ hr86.1]) (by rw [eF_7, va_up_ne _ _ hr86.2])
    have hh : md_hex xs q = true := decide_eq_true c_7i
    have hq3 : md_from xs q = (q + 3) := by unfold md_from; rw [hh]; rfl
    rw [hh, hq3]
    exact lp_Ref_readNumber l g z0 N ad hN F r n xs hrN hr86 hn wh te en true (q + 3) (by omega) _ _ S hr hlk hK 7 0 0 F_7 (by omega) (by omega) f_8 hR_10 rfl (fun x hx => by rw [eF_7, va_up_ne _ _ hx]) _ _ ls hW (lv_sub hl [4, 5, 6, 3, 2, 1, 0] rfl)

theorem numX (hex : Bool) (xs : List Int32) (q : Nat) : (md_num hex xs q).2.1 = false := by
  unfold md_num
  split
  · rfl
  · exact clX4 _ _ _

/-! Reference.read(row, q) -/
set_option maxHeartbeats 400000 in
set_option maxRecDepth 100000 in
theorem c_Ref_read (l : Launch) (g : hp_G) (z0 N : Nat) (ad : Nat → Nat) (F : Nat → va_E) (hN : 87 ≤ N) (r n : Nat) (xs : List Int32) (hrN : r + 1 < N) (hr86 : r ≠ 86 ∧ r + 1 ≠ 86) (hn : n < 1000000) (hR : vRow g ad F r n xs) (wh te nu en : Int32) (hF : F 86 = .inr (kF, [.int wh, .int te, .int nu, .int en])) (q : Nat) (hq : q < 400) : hp_Mv l g z0 N ad y_F_read ws_F_read (rk 3) [.ref (ad 86), .ref (ad r), .int (nI q)] F (fun F' => (∃ nu' : Int32, F' 86 = .inr (kF, [.int (b2 (md_ref xs q).1), .int (b2 (md_ref xs q).2.1), .int nu', .int (nI (md_ref xs q).2.2.2)]) ∧ ((md_ref xs q).1 = true → nu' = (md_ref xs q).2.2.1)) ∧ ∀ x, x ≠ 86 → F' x = F x) := by
  refine hp_enter (cc := cc_F_read) (maxL := 4) (ret := none) (by decide) rfl (Nat.le_of_ble_eq_true rfl) ?_
  intro p e s m below meth c S hr hlk hnm hK hW ls hl
  have hl : lv_has ls 4 [(0, .ref (ad 86)), (1, .ref (ad r)), (2, .int (nI q))] := hl
  obtain ⟨hx, hb, hml, hown, hts⟩ := id S
  have in_kF : ∀ w ∈ u_ws R_F T_F 4, w ∈ ws_F_read := fun w h => List.mem_cons_of_mem _ (in0_F w h)
  have in_kR : ∀ w ∈ u_ws R_R T_R 2, w ∈ ws_F_read := fun w h => List.mem_cons_of_mem _ (in0_R w h)
  refine lv_aload_n hx hb d_F_read_0 rfl (lv_at hl 1 rfl) ?_
  refine lv_iload_n hx hb d_F_read_1 rfl (lv_at hl 2 rfl) ?_
  refine lv_iconst (v := 1) hx hb d_F_read_2 (by decide) ?_
  refine lv_iadd hx hb d_F_read_3 ?_
  rw [show ((nI q) + 1) = (nI (q + 1)) from (nI_succ q).symm]
  refine hp_goi hW (va_runV S (c_Row_at l g z0 N ad F r n xs hrN hn hR (q + 1) (by omega)) (cwV 1 hts (tb_V cd_R_at tq_175 tq_60 tq_61 tq_3) rfl rfl rfl hd_R_at (rk_ok (by omega) (by omega))) (hp_preV hK hW (by omega) rfl hR.obj rfl) rfl rfl hl.1 rfl (lv_room (Nat.le_of_ble_eq_true rfl)) d_F_read_4 ⟨Nat.zero_le _, Nat.zero_le _⟩) (fun r_1 F_2 H locs hw hW => ?_)
  obtain ⟨hvq, hFq⟩ := hw
  rw [hFq] at hW
  rw [hvq]
  refine lv_istore_n (lv' := [(3, .int (md_at xs (q + 1))), (0, .ref (ad 86)), (1, .ref (ad r)), (2, .int (nI q))]) hx hb d_F_read_7 rfl hl (by decide) rfl (fun ls hl => ?_)
  refine lv_aload_n hx hb d_F_read_8 rfl (lv_at hl 1 rfl) ?_
  refine lv_iload_n hx hb d_F_read_9 rfl (lv_at hl 0 rfl) ?_
  refine lv_bipush (v := 35) hx hb d_F_read_10 (by decide) ?_
  refine lv_icmp_eq (tgt := 19) hx hb d_F_read_12 (by decide) (fun c_12 => ?_) (fun c_12 => ?_)
  · have c_12i := c_12
    refine lv_iconst (v := 0) hx hb d_F_read_19 (by decide) ?_
    refine hp_put S hK hW (86) (by omega) rfl hF rfl in_kF tyok_F nm_F 1 (by decide) (hts _ (List.mem_cons_of_mem _ tq_176)) rfl rfl rfl (Nat.le_of_ble_eq_true rfl) d_F_read_20 (fun H locs hW => ?_)
    obtain ⟨F_3, eF_3⟩ : ∃ z, z = va_up F (86) (.inr (kF, [.int wh, .int 0, .int nu, .int en])) := ⟨_, rfl⟩
    replace hW : hp_W g z0 N ad F_3 s.heap H locs := by rw [eF_3]; exact hW
    have f_4 : F_3 (86) = .inr (kF, [.int wh, .int 0, .int nu, .int en]) := by rw [eF_3, va_up_self]
    have f_5 : F_3 (r) = .inr (kR, [.ref (ad (r + 1)), .int (nI xs.length)]) := by rw [eF_3, va_up_ne _ _ (by omega)]; exact hR.obj
    have hR_6 : vRow g ad F_3 r n xs := hR.keep (by rw [eF_3, va_up_ne _ _ hr86.1]) (by rw [eF_3, va_up_ne _ _ hr86.2])
    refine lv_aload_n hx hb d_F_read_23 rfl (lv_at hl 1 rfl) ?_
    refine hp_get S hK hW (86) (by omega) rfl f_4 rfl in_kF 1 (by decide) (hts _ (List.mem_cons_of_mem _ tq_176)) rfl d_F_read_24 ?_
    refine lv_if_ne (tgt := 41) hx hb d_F_read_27 (by decide) (fun c_27 => absurd c_27 (show ¬ (¬ (0 : Int32) = 0) from by decide)) (fun c_27 => ?_)
    refine lv_aload_n hx hb d_F_read_30 rfl (lv_at hl 1 rfl) ?_
    refine lv_aload_n hx hb d_F_read_31 rfl (lv_at hl 2 rfl) ?_
    refine lv_iload_n hx hb d_F_read_32 rfl (lv_at hl 3 rfl) ?_
    refine lv_iconst (v := 2) hx hb d_F_read_33 (by decide) ?_
    refine lv_iadd hx hb d_F_read_34 ?_
    rw [show ((nI q) + 2) = (nI (q + 2)) from nI_add q 2]
    refine hp_gov hW (va_runV S (c_Ref_readNumber l g z0 N ad F_3 hN r n xs hrN hr86 hn hR_6 wh 0 nu en f_4 q (by omega)) (cwV 2 hts (tb_V cd_F_readNumber tq_177 tq_178 tq_179 tq_16) rfl rfl rfl hd_F_readNumber (rk_ok (by omega) (by omega))) (hp_preV hK hW (by omega) rfl f_4 rfl) rfl rfl hl.1 rfl (lv_room (Nat.le_of_ble_eq_true rfl)) d_F_read_35 ⟨Nat.zero_le _, Nat.zero_le _⟩) (fun F_8 H locs hw hW => ?_)
    obtain ⟨hc1, hc2⟩ := hw
    refine lv_goto (tgt := 79) hx hb d_F_read_38 (by decide) ?_
    have hX : md_ref xs q = md_num (md_hex xs q) xs (md_from xs q) := if_pos c_12i
    obtain ⟨⟨nu2, hd1, hd2⟩, hc2⟩ := (show _ ∧ _ from ⟨hc1, hc2⟩)
    have hY := numX (md_hex xs q) xs (md_from xs q)
    exact hp_retv S hK hW hr hlk d_F_read_79 (⟨⟨nu2, by rw [hX, hY]; exact hd1, by rw [hX]; exact hd2⟩, fun x hx => by rw [hc2 x hx, eF_3, va_up_ne _ _ hx]⟩)
  · have c_12i := c_12
    refine lv_iconst (v := 1) hx hb d_F_read_15 (by decide) ?_
    refine lv_goto (tgt := 20) hx hb d_F_read_16 (by decide) ?_
    refine hp_put S hK hW (86) (by omega) rfl hF rfl in_kF tyok_F nm_F 1 (by decide) (hts _ (List.mem_cons_of_mem _ tq_176)) rfl rfl rfl (Nat.le_of_ble_eq_true rfl) d_F_read_20 (fun H locs hW => ?_)
    obtain ⟨F_9, eF_9⟩ : ∃ z, z = va_up F (86) (.inr (kF, [.int wh, .int 1, .int nu, .int en])) := ⟨_, rfl⟩
    replace hW : hp_W g z0 N ad F_9 s.heap H locs := by rw [eF_9]; exact hW
    have f_10 : F_9 (86) = .inr (kF, [.int wh, .int 1, .int nu, .int en]) := by rw [eF_9, va_up_self]
    have f_11 : F_9 (r) = .inr (kR, [.ref (ad (r + 1)), .int (nI xs.length)]) := by rw [eF_9, va_up_ne _ _ (by omega)]; exact hR.obj
    have hR_12 : vRow g ad F_9 r n xs := hR.keep (by rw [eF_9, va_up_ne _ _ hr86.1]) (by rw [eF_9, va_up_ne _ _ hr86.2])
    refine lv_aload_n hx hb d_F_read_23 rfl (lv_at hl 1 rfl) ?_
    refine hp_get S hK hW (86) (by omega) rfl f_10 rfl in_kF 1 (by decide) (hts _ (List.mem_cons_of_mem _ tq_176)) rfl d_F_read_24 ?_
    refine lv_if_ne (tgt := 41) hx hb d_F_read_27 (by decide) (fun c_27 => ?_) (fun c_27 => absurd c_27 (show ¬ (1 : Int32) = 0 from by decide))
    refine lv_iload_n hx hb d_F_read_41 rfl (lv_at hl 0 rfl) ?_
    refine lv_bipush (v := 97) hx hb d_F_read_42 (by decide) ?_
    refine lv_icmp_lt (tgt := 72) hx hb d_F_read_44 (by decide) (fun c_44 => ?_) (fun c_44 => ?_)
    · have c_44i := c_44
      have c_44j := Int32.not_le.mpr c_44
      refine lv_aload_n hx hb d_F_read_72 rfl (lv_at hl 1 rfl) ?_
      refine lv_iload_n hx hb d_F_read_73 rfl (lv_at hl 3 rfl) ?_
      refine lv_iconst (v := 1) hx hb d_F_read_74 (by decide) ?_
      refine lv_iadd hx hb d_F_read_75 ?_
      rw [show ((nI q) + 1) = (nI (q + 1)) from (nI_succ q).symm]
      refine hp_gov hW (va_runV S (c_Ref_breakOff l g z0 N ad F_9 hN wh 1 nu en f_10 (nI (q + 1))) (cwV 1 hts (tb_V cd_F_breakOff tq_184 tq_185 tq_186 tq_16) rfl rfl rfl hd_F_breakOff (rk_ok (by omega) (by omega))) (hp_preV hK hW (by omega) rfl f_10 rfl) rfl rfl hl.1 rfl (lv_room (Nat.le_of_ble_eq_true rfl)) d_F_read_76 ⟨Nat.zero_le _, Nat.zero_le _⟩) (fun F_14 H locs hw hW => ?_)
      obtain ⟨hc1, hc2⟩ := hw
      have hX : md_ref xs q = (false, true, 0, q + 1) := (if_neg c_12i).trans (if_neg (fun h => absurd c_44i (Int32.not_lt.mpr h.1)))
      exact hp_retv S hK hW hr hlk d_F_read_79 (⟨⟨_, by rw [hX]; exact hc1, by rw [hX]; exact fun h => by cases h⟩, fun x hx => by rw [hc2 x hx, eF_9, va_up_ne _ _ hx]⟩)
    · have c_44i := c_44
      have c_44j := Int32.not_lt.mp c_44
      refine lv_iload_n hx hb d_F_read_47 rfl (lv_at hl 0 rfl) ?_
      refine lv_bipush (v := 122) hx hb d_F_read_48 (by decide) ?_
      refine lv_icmp_gt (tgt := 72) hx hb d_F_read_50 (by decide) (fun c_50 => ?_) (fun c_50 => ?_)
      · have c_50i := c_50
        have c_50j := Int32.not_le.mpr c_50
        refine lv_aload_n hx hb d_F_read_72 rfl (lv_at hl 1 rfl) ?_
        refine lv_iload_n hx hb d_F_read_73 rfl (lv_at hl 3 rfl) ?_
        refine lv_iconst (v := 1) hx hb d_F_read_74 (by decide) ?_
        refine lv_iadd hx hb d_F_read_75 ?_
        rw [show ((nI q) + 1) = (nI (q + 1)) from (nI_succ q).symm]
        refine hp_gov hW (va_runV S (c_Ref_breakOff l g z0 N ad F_9 hN wh 1 nu en f_10 (nI (q + 1))) (cwV 1 hts (tb_V cd_F_breakOff tq_184 tq_185 tq_186 tq_16) rfl rfl rfl hd_F_breakOff (rk_ok (by omega) (by omega))) (hp_preV hK hW (by omega) rfl f_10 rfl) rfl rfl hl.1 rfl (lv_room (Nat.le_of_ble_eq_true rfl)) d_F_read_76 ⟨Nat.zero_le _, Nat.zero_le _⟩) (fun F_16 H locs hw hW => ?_)
        obtain ⟨hc1, hc2⟩ := hw
        have hX : md_ref xs q = (false, true, 0, q + 1) := (if_neg c_12i).trans (if_neg (fun h => absurd c_50i (Int32.not_lt.mpr h.2)))
        exact hp_retv S hK hW hr hlk d_F_read_79 (⟨⟨_, by rw [hX]; exact hc1, by rw [hX]; exact fun h => by cases h⟩, fun x hx => by rw [hc2 x hx, eF_9, va_up_ne _ _ hx]⟩)
      · have c_50i := c_50
        have c_50j := Int32.not_lt.mp c_50
        refine lv_aload_n hx hb d_F_read_53 rfl (lv_at hl 1 rfl) ?_
        refine lv_iload_n hx hb d_F_read_54 rfl (lv_at hl 0 rfl) ?_
        refine lv_bipush (v := 97) hx hb d_F_read_55 (by decide) ?_
        refine lv_isub hx hb d_F_read_57 ?_
        refine hp_put S hK hW (86) (by omega) rfl f_10 rfl in_kF tyok_F nm_F 2 (by decide) (hts _ (List.mem_cons_of_mem _ tq_180)) rfl rfl rfl (Nat.le_of_ble_eq_true rfl) d_F_read_58 (fun H locs hW => ?_)
        obtain ⟨F_17, eF_17⟩ : ∃ z, z = va_up F_9 (86) (.inr (kF, [.int wh, .int 1, .int ((md_at xs (q + 1)) - 97), .int en])) := ⟨_, rfl⟩
        replace hW : hp_W g z0 N ad F_17 s.heap H locs := by rw [eF_17]; exact hW
        have f_18 : F_17 (86) = .inr (kF, [.int wh, .int 1, .int ((md_at xs (q + 1)) - 97), .int en]) := by rw [eF_17, va_up_self]
        have f_19 : F_17 (r) = .inr (kR, [.ref (ad (r + 1)), .int (nI xs.length)]) := by rw [eF_17, va_up_ne _ _ (by omega)]; exact f_11
        have hR_20 : vRow g ad F_17 r n xs := hR_12.keep (by rw [eF_17, va_up_ne _ _ hr86.1]) (by rw [eF_17, va_up_ne _ _ hr86.2])
        refine lv_aload_n hx hb d_F_read_61 rfl (lv_at hl 1 rfl) ?_
        refine lv_aload_n hx hb d_F_read_62 rfl (lv_at hl 2 rfl) ?_
        refine lv_iload_n hx hb d_F_read_63 rfl (lv_at hl 3 rfl) ?_
        refine lv_iconst (v := 2) hx hb d_F_read_64 (by decide) ?_
        refine lv_iadd hx hb d_F_read_65 ?_
        rw [show ((nI q) + 2) = (nI (q + 2)) from nI_add q 2]
        refine hp_gov hW (va_runV S (c_Ref_close l g z0 N ad F_17 hN r n xs hrN hr86 hn hR_20 wh 1 (md_at xs (q + 1) - 97) en f_18 (q + 2) (by omega)) (cwV 2 hts (tb_V cd_F_close tq_181 tq_182 tq_183 tq_16) rfl rfl rfl hd_F_close (rk_ok (by omega) (by omega))) (hp_preV hK hW (by omega) rfl f_18 rfl) rfl rfl hl.1 rfl (lv_room (Nat.le_of_ble_eq_true rfl)) d_F_read_66 ⟨Nat.zero_le _, Nat.zero_le _⟩) (fun F_22 H locs hw hW => ?_)
        obtain ⟨hc1, hc2⟩ := hw
        refine lv_goto (tgt := 79) hx hb d_F_read_69 (by decide) ?_
        have hX : md_ref xs q = md_cl xs true (md_at xs (q + 1) - 97) (q + 2) := (if_neg c_12i).trans (if_pos ⟨Int32.not_lt.mp c_44i, Int32.not_lt.mp c_50i⟩)
        rw [← clX1 xs (md_at xs (q + 1) - 97) (q + 2) (en := true), ← clX2 xs (md_at xs (q + 1) - 97) (q + 2) (en := true)] at hc1
        exact hp_retv S hK hW hr hlk d_F_read_79 (⟨⟨_, by rw [hX, clX4]; exact hc1, fun _ => by rw [hX, clX3]⟩, fun x hx => by rw [hc2 x hx, eF_17, va_up_ne _ _ hx, eF_9, va_up_ne _ _ hx]⟩)
end
section
/-! the rows' contracts, said of the whole desk -/
/-- the place behind a fault -/
def pf (f : Nat) (fp a : Int32) : Int32 := if f = 0 then fp else a
theorem pf_0 {f : Nat} {fp a : Int32} (h : f = 0) : pf f fp a = fp := if_pos h
theorem pf_n {f : Nat} {fp a : Int32} (h : ¬ f = 0) : pf f fp a = a := if_neg h
theorem s_size (l : Launch) (g : hp_G) (z0 N : Nat) (ad : Nat → Nat) (F : Nat → va_E) (hN : 87 ≤ N) (rs : Nat → List Int32) (kn op : Nat → Bool) (fp lm me dp wh te nu en : Int32) (hS : vSt g ad F rs kn op fp lm me dp wh te nu en) (j : Nat) (hj : rowp j) : hp_Mi l g z0 N ad y_R_size ws_R_size (rk 0) [.ref (ad j)] F (fun v F' => v = nI (rs j).length ∧ F' = F) :=
  c_Row_size l g z0 N ad F j (cap j) (rs j) (by have := rowp_lt hj; omega) (by have := cap_le j; omega) (hS.row hj)
theorem s_at (l : Launch) (g : hp_G) (z0 N : Nat) (ad : Nat → Nat) (F : Nat → va_E) (hN : 87 ≤ N) (rs : Nat → List Int32) (kn op : Nat → Bool) (fp lm me dp wh te nu en : Int32) (hS : vSt g ad F rs kn op fp lm me dp wh te nu en) (j : Nat) (hj : rowp j) (k : Nat) (hk : k < 1000000) : hp_Mi l g z0 N ad y_R_at ws_R_at (rk 0) [.ref (ad j), .int (nI k)] F (fun v F' => v = md_at (rs j) k ∧ F' = F) :=
  c_Row_at l g z0 N ad F j (cap j) (rs j) (by have := rowp_lt hj; omega) (by have := cap_le j; omega) (hS.row hj) k hk
theorem s_wordAt (l : Launch) (g : hp_G) (z0 N : Nat) (ad : Nat → Nat) (F : Nat → va_E) (hN : 87 ≤ N) (rs : Nat → List Int32) (kn op : Nat → Bool) (fp lm me dp wh te nu en : Int32) (hS : vSt g ad F rs kn op fp lm me dp wh te nu en) (j : Nat) (hj : rowp j) (k : Int32) : hp_Ml l g z0 N ad y_R_wordAt ws_R_wordAt (rk 0) [.ref (ad j), .int k] F (fun v F' => v = md_word (rs j) k ∧ F' = F) :=
  c_Row_wordAt l g z0 N ad F j (cap j) (rs j) (by have := rowp_lt hj; omega) (by have := cap_le j; omega) (hS.row hj) k
theorem s_empty (l : Launch) (g : hp_G) (z0 N : Nat) (ad : Nat → Nat) (F : Nat → va_E) (hN : 87 ≤ N) (rs : Nat → List Int32) (kn op : Nat → Bool) (fp lm me dp wh te nu en : Int32) (hS : vSt g ad F rs kn op fp lm me dp wh te nu en) (j : Nat) (hj : rowp j) : hp_Mv l g z0 N ad y_R_empty ws_R_empty (rk 0) [.ref (ad j)] F (fun F' => vSt g ad F' (va_up rs j []) kn op fp lm me dp wh te nu en ∧ vFr F F') :=
  hp_imp_v (c_Row_empty l g z0 N ad F j (cap j) (rs j) (by have := rowp_lt hj; omega) (by have := cap_le j; omega) (hS.row hj)) (fun F' h => ⟨hS.setRow hj h.1 (fun x hx _ => h.2 x hx), fun x hx => h.2 x (by have := rowp_lt hj; omega)⟩)
theorem s_add (l : Launch) (g : hp_G) (z0 N : Nat) (ad : Nat → Nat) (F : Nat → va_E) (hN : 87 ≤ N) (rs : Nat → List Int32) (kn op : Nat → Bool) (fp lm me dp wh te nu en : Int32) (hS : vSt g ad F rs kn op fp lm me dp wh te nu en) (j : Nat) (hj : rowp j) (b : Int32) : hp_Mi l g z0 N ad y_R_add ws_R_add (rk 0) [.ref (ad j), .int b] F (fun v F' => v = b2 (decide ((rs j).length < cap j)) ∧ vSt g ad F' (va_up rs j (md_ad (cap j) (rs j) b).1) kn op fp lm me dp wh te nu en ∧ vFr F F') :=
  hp_imp_i (c_Row_add l g z0 N ad F j (cap j) (rs j) (by have := rowp_lt hj; omega) (by have := cap_le j; omega) (hS.row hj) b) (fun v F' h => by
    rcases h with ⟨h1, h2, h3, h4⟩ | ⟨h1, h2, h3⟩
    · refine ⟨by rw [h1, decide_eq_true h2]; rfl, ?_, fun x hx => h4 x (by have := rowp_lt hj; omega) (by have := rowp_lt hj; omega)⟩
      rw [show md_ad (cap j) (rs j) b = (rs j ++ [b], 0) from if_pos h2]
      exact hS.setRow hj h3 h4
    · refine ⟨by rw [h1, decide_eq_false (by omega)]; rfl, ?_, fun x hx => by rw [h3]⟩
      rw [show md_ad (cap j) (rs j) b = (rs j, 8) from if_neg (by omega), h3]
      show vSt g ad F (va_up rs j (rs j)) kn op fp lm me dp wh te nu en
      rw [va_up_eta]
      exact hS)
theorem s_squeeze (l : Launch) (g : hp_G) (z0 N : Nat) (ad : Nat → Nat) (F : Nat → va_E) (hN : 87 ≤ N) (rs : Nat → List Int32) (kn op : Nat → Bool) (fp lm me dp wh te nu en : Int32) (hS : vSt g ad F rs kn op fp lm me dp wh te nu en) (j : Nat) (hj : rowp j) : hp_Mv l g z0 N ad y_R_squeeze ws_R_squeeze (rk 0) [.ref (ad j)] F (fun F' => vSt g ad F' (va_up rs j (md_sq (rs j))) kn op fp lm me dp wh te nu en ∧ vFr F F') :=
  hp_imp_v (c_Row_squeeze l g z0 N ad F j (cap j) (rs j) (by have := rowp_lt hj; omega) (by have := cap_le j; omega) (hS.row hj)) (fun F' h => ⟨hS.setRow hj h.1 h.2, fun x hx => h.2 x (by have := rowp_lt hj; omega) (by have := rowp_lt hj; omega)⟩)
theorem s_read (l : Launch) (g : hp_G) (z0 N : Nat) (ad : Nat → Nat) (F : Nat → va_E) (hN : 87 ≤ N) (rs : Nat → List Int32) (kn op : Nat → Bool) (fp lm me dp wh te nu en : Int32) (hS : vSt g ad F rs kn op fp lm me dp wh te nu en) (j : Nat) (hj : rowp j) (q : Nat) (hq : q < 400) : hp_Mv l g z0 N ad y_F_read ws_F_read (rk 3) [.ref (ad 86), .ref (ad j), .int (nI q)] F (fun F' => ∃ nu' : Int32, vSt g ad F' rs kn op fp lm me dp (b2 (md_ref (rs j) q).1) (b2 (md_ref (rs j) q).2.1) nu' (nI (md_ref (rs j) q).2.2.2) ∧ ((md_ref (rs j) q).1 = true → nu' = (md_ref (rs j) q).2.2.1) ∧ vFr F F') :=
  hp_imp_v (c_Ref_read l g z0 N ad F hN j (cap j) (rs j) (by have := rowp_lt hj; omega) ⟨(rowp_x hj).2.2.2.2.1, (rowp_x hj).2.2.2.2.2.1⟩ (by have := cap_le j; omega) (hS.row hj) wh te nu en hS.2.2.2.2 q hq) (fun F' h => by
    obtain ⟨⟨nu', h1, h2⟩, h3⟩ := h
    exact ⟨nu', hS.setRef h1 h3, h2, fun x hx => h3 x (by omega)⟩)
end
section
/-! isCharacter(c) -/
set_option maxHeartbeats 400000 in
set_option maxRecDepth 100000 in
theorem c_isCharacter (l : Launch) (g : hp_G) (z0 N : Nat) (ad : Nat → Nat) (F : Nat → va_E) (x : Int32) : hp_Mi l g z0 N ad y_D_isCharacter ws_D_isCharacter (rk 0) [.int x] F (fun v F' => v = b2 (md_ch x) ∧ F' = F) := by
  refine hp_enter (cc := cc_D_isCharacter) (maxL := 1) (ret := (some .boolean)) (by decide) rfl (Nat.le_of_ble_eq_true rfl) ?_
  intro p e s m below meth c S hr hlk hnm hK hW ls hl
  have hl : lv_has ls 1 [(0, .int x)] := hl
  obtain ⟨hx, hb, hml, hown, hts⟩ := id S
  refine lv_iload_n hx hb d_D_isCharacter_0 rfl (lv_at hl 0 rfl) ?_
  refine lv_bipush (v := 9) hx hb d_D_isCharacter_1 (by decide) ?_
  refine lv_icmp_eq (tgt := 30) hx hb d_D_isCharacter_3 (by decide) (fun c_3 => ?_) (fun c_3 => ?_)
  · have c_3i := c_3
    refine lv_iconst (v := 1) hx hb d_D_isCharacter_30 (by decide) ?_
    refine lv_goto (tgt := 35) hx hb d_D_isCharacter_31 (by decide) ?_
    exact hp_retz S hK hW hr hlk rfl d_D_isCharacter_35 (⟨by unfold md_ch b2; simp [c_3i], rfl⟩)
  · have c_3i := c_3
    refine lv_iload_n hx hb d_D_isCharacter_6 rfl (lv_at hl 0 rfl) ?_
    refine lv_bipush (v := 10) hx hb d_D_isCharacter_7 (by decide) ?_
    refine lv_icmp_eq (tgt := 30) hx hb d_D_isCharacter_9 (by decide) (fun c_9 => ?_) (fun c_9 => ?_)
    · have c_9i := c_9
      refine lv_iconst (v := 1) hx hb d_D_isCharacter_30 (by decide) ?_
      refine lv_goto (tgt := 35) hx hb d_D_isCharacter_31 (by decide) ?_
      exact hp_retz S hK hW hr hlk rfl d_D_isCharacter_35 (⟨by unfold md_ch b2; simp [c_3i, c_9i], rfl⟩)
    · have c_9i := c_9
      refine lv_iload_n hx hb d_D_isCharacter_12 rfl (lv_at hl 0 rfl) ?_
      refine lv_bipush (v := 13) hx hb d_D_isCharacter_13 (by decide) ?_
      refine lv_icmp_eq (tgt := 30) hx hb d_D_isCharacter_15 (by decide) (fun c_15 => ?_) (fun c_15 => ?_)
      · have c_15i := c_15
        refine lv_iconst (v := 1) hx hb d_D_isCharacter_30 (by decide) ?_
        refine lv_goto (tgt := 35) hx hb d_D_isCharacter_31 (by decide) ?_
        exact hp_retz S hK hW hr hlk rfl d_D_isCharacter_35 (⟨by unfold md_ch b2; simp [c_3i, c_9i, c_15i], rfl⟩)
      · have c_15i := c_15
        refine lv_iload_n hx hb d_D_isCharacter_18 rfl (lv_at hl 0 rfl) ?_
        refine lv_bipush (v := 32) hx hb d_D_isCharacter_19 (by decide) ?_
        refine lv_icmp_lt (tgt := 34) hx hb d_D_isCharacter_21 (by decide) (fun c_21 => ?_) (fun c_21 => ?_)
        · have c_21i := c_21
          have c_21j := Int32.not_le.mpr c_21
          refine lv_iconst (v := 0) hx hb d_D_isCharacter_34 (by decide) ?_
          exact hp_retz S hK hW hr hlk rfl d_D_isCharacter_35 (⟨by unfold md_ch b2; simp [c_3i, c_9i, c_15i, c_21j], rfl⟩)
        · have c_21i := c_21
          have c_21j := Int32.not_lt.mp c_21
          refine lv_iload_n hx hb d_D_isCharacter_24 rfl (lv_at hl 0 rfl) ?_
          refine lv_bipush (v := 126) hx hb d_D_isCharacter_25 (by decide) ?_
          refine lv_icmp_gt (tgt := 34) hx hb d_D_isCharacter_27 (by decide) (fun c_27 => ?_) (fun c_27 => ?_)
          · have c_27i := c_27
            have c_27j := Int32.not_le.mpr c_27
            refine lv_iconst (v := 0) hx hb d_D_isCharacter_34 (by decide) ?_
            exact hp_retz S hK hW hr hlk rfl d_D_isCharacter_35 (⟨by unfold md_ch b2; simp [c_3i, c_9i, c_15i, c_21j, c_27j], rfl⟩)
          · have c_27i := c_27
            have c_27j := Int32.not_lt.mp c_27
            refine lv_iconst (v := 1) hx hb d_D_isCharacter_30 (by decide) ?_
            refine lv_goto (tgt := 35) hx hb d_D_isCharacter_31 (by decide) ?_
            exact hp_retz S hK hW hr hlk rfl d_D_isCharacter_35 (⟨by unfold md_ch b2; simp [c_3i, c_9i, c_15i, c_21j, c_27j], rfl⟩)

/-! fail(f, at) -/
set_option maxHeartbeats 400000 in
set_option maxRecDepth 100000 in
theorem c_fail (l : Launch) (g : hp_G) (z0 N : Nat) (ad : Nat → Nat) (F : Nat → va_E) (hN : 87 ≤ N) (rs : Nat → List Int32) (kn op : Nat → Bool) (fp lm me dp wh te nu en : Int32) (hS : vSt g ad F rs kn op fp lm me dp wh te nu en) (f a : Int32) : hp_Mi l g z0 N ad y_D_fail ws_D_fail (rk 0) [.ref (ad 0), .int f, .int a] F (fun v F' => v = f ∧ vSt g ad F' rs kn op a lm me dp wh te nu en ∧ vFr F F') := by
  refine hp_enter (cc := cc_D_fail) (maxL := 3) (ret := (some .int)) (by decide) rfl (Nat.le_of_ble_eq_true rfl) ?_
  intro p e s m below meth c S hr hlk hnm hK hW ls hl
  have hl : lv_has ls 3 [(0, .ref (ad 0)), (1, .int f), (2, .int a)] := hl
  obtain ⟨hx, hb, hml, hown, hts⟩ := id S
  have in_kD : ∀ w ∈ u_ws R_D T_D 9, w ∈ ws_D_fail := fun w h => List.mem_cons_of_mem _ (in0_D w h)
  refine lv_aload_n hx hb d_D_fail_0 rfl (lv_at hl 0 rfl) ?_
  refine lv_iload_n hx hb d_D_fail_1 rfl (lv_at hl 2 rfl) ?_
  refine hp_put S hK hW (0) (by omega) rfl hS.1 rfl in_kD tyok_D nm_D 5 (by decide) (hts _ (List.mem_cons_of_mem _ tq_19)) rfl rfl rfl (Nat.le_of_ble_eq_true rfl) d_D_fail_2 (fun H locs hW => ?_)
  obtain ⟨F_1, eF_1⟩ : ∃ z, z = va_up F (0) (.inr (kD, [.ref (ad 1), .ref (ad 3), .ref (ad 5), .ref (ad 7), .ref (ad 86), .int a, .int lm, .int me, .int dp])) := ⟨_, rfl⟩
  replace hW : hp_W g z0 N ad F_1 s.heap H locs := by rw [eF_1]; exact hW
  have f_2 : F_1 (0) = .inr (kD, [.ref (ad 1), .ref (ad 3), .ref (ad 5), .ref (ad 7), .ref (ad 86), .int a, .int lm, .int me, .int dp]) := by rw [eF_1, va_up_self]
  have f_3 : F_1 (86) = .inr (kF, [.int wh, .int te, .int nu, .int en]) := by rw [eF_1, va_up_ne _ _ (by omega)]; exact hS.2.2.2.2
  refine lv_iload_n hx hb d_D_fail_5 rfl (lv_at hl 1 rfl) ?_
  exact hp_reti S hK hW hr hlk d_D_fail_6 (⟨rfl, hS.desk f_2 (fun x hx => by rw [eF_1, va_up_ne _ _ hx]), fun x hx => by rw [eF_1, va_up_ne _ _ (by omega)]⟩)

/-! addTo(row, ch, here) -/
set_option maxHeartbeats 400000 in
set_option maxRecDepth 100000 in
theorem c_addTo (l : Launch) (g : hp_G) (z0 N : Nat) (ad : Nat → Nat) (F : Nat → va_E) (hN : 87 ≤ N) (rs : Nat → List Int32) (kn op : Nat → Bool) (fp lm me dp wh te nu en : Int32) (hS : vSt g ad F rs kn op fp lm me dp wh te nu en) (j : Nat) (hj : rowp j) (ch a : Int32) : hp_Mi l g z0 N ad y_D_addTo ws_D_addTo (rk 1) [.ref (ad 0), .ref (ad j), .int ch, .int a] F (fun v F' => v = nI (md_ad (cap j) (rs j) ch).2 ∧ vSt g ad F' (va_up rs j (md_ad (cap j) (rs j) ch).1) kn op (pf (md_ad (cap j) (rs j) ch).2 fp a) lm me dp wh te nu en ∧ vFr F F') := by
  refine hp_enter (cc := cc_D_addTo) (maxL := 4) (ret := (some .int)) (by decide) rfl (Nat.le_of_ble_eq_true rfl) ?_
  intro p e s m below meth c S hr hlk hnm hK hW ls hl
  have hl : lv_has ls 4 [(0, .ref (ad 0)), (1, .ref (ad j)), (2, .int ch), (3, .int a)] := hl
  obtain ⟨hx, hb, hml, hown, hts⟩ := id S
  have in_kD : ∀ w ∈ u_ws R_D T_D 9, w ∈ ws_D_addTo := fun w h => List.mem_cons_of_mem _ (in0_D w h)
  refine lv_aload_n hx hb d_D_addTo_0 rfl (lv_at hl 1 rfl) ?_
  refine lv_iload_n hx hb d_D_addTo_1 rfl (lv_at hl 2 rfl) ?_
  refine hp_goi hW (va_runV S (s_add l g z0 N ad F hN rs kn op fp lm me dp wh te nu en hS j hj ch) (cwV 1 hts (tb_V cd_R_add tq_23 tq_24 tq_25 tq_3) rfl rfl rfl hd_R_add (rk_ok (by omega) (by omega))) (hp_preV hK hW (by have := rowp_lt hj; omega) rfl (hS.row hj).obj rfl) rfl rfl hl.1 rfl (lv_room (Nat.le_of_ble_eq_true rfl)) d_D_addTo_2 ⟨Nat.zero_le _, Nat.zero_le _⟩) (fun r_1 F_2 H locs hw hW => ?_)
  obtain ⟨hv1, hS1, hf1⟩ := hw
  rw [hv1]
  refine lv_if_eq (tgt := 12) hx hb d_D_addTo_5 (by decide) (fun c_5 => ?_) (fun c_5 => ?_)
  · have c_5i := c_5
    refine lv_aload_n hx hb d_D_addTo_12 rfl (lv_at hl 0 rfl) ?_
    refine lv_bipush (v := 8) hx hb d_D_addTo_13 (by decide) ?_
    refine lv_iload_n hx hb d_D_addTo_15 rfl (lv_at hl 3 rfl) ?_
    refine hp_goi hW (va_runV S (c_fail l g z0 N ad F_2 hN (va_up rs j (md_ad (cap j) (rs j) ch).1) kn op fp lm me dp wh te nu en hS1 8 a) (cwV 2 hts (tb_V cd_D_fail tq_56 tq_57 tq_58 tq_27) rfl rfl rfl hd_D_fail (rk_ok (by omega) (by omega))) (hp_preV hK hW (by have := rowp_lt hj; omega) rfl hS1.1 rfl) rfl rfl hl.1 rfl (lv_room (Nat.le_of_ble_eq_true rfl)) d_D_addTo_16 ⟨Nat.zero_le _, Nat.zero_le _⟩) (fun r_3 F_4 H locs hw hW => ?_)
    obtain ⟨hv2, hS2, hf2⟩ := hw
    rw [hv2]
    have hX : (md_ad (cap j) (rs j) ch) = (rs j, 8) := if_neg (of_decide_eq_false (b2_0.mp c_5i))
    rw [hX] at hS2
    exact hp_reti S hK hW hr hlk d_D_addTo_19 (by rw [hX]; exact ⟨rfl, hS2, (hf1.tr hf2)⟩)
  · have c_5i := c_5
    refine lv_iconst (v := 0) hx hb d_D_addTo_8 (by decide) ?_
    refine lv_goto (tgt := 19) hx hb d_D_addTo_9 (by decide) ?_
    have hX : (md_ad (cap j) (rs j) ch) = (rs j ++ [ch], 0) := if_pos (of_decide_eq_true (b2_n0.mp c_5i))
    rw [hX] at hS1
    exact hp_reti S hK hW hr hlk d_D_addTo_19 (by rw [hX]; exact ⟨rfl, hS1, hf1⟩)

/-! addByNumber(row, here) -/
set_option maxHeartbeats 400000 in
set_option maxRecDepth 100000 in
theorem c_addByNumber (l : Launch) (g : hp_G) (z0 N : Nat) (ad : Nat → Nat) (F : Nat → va_E) (hN : 87 ≤ N) (rs : Nat → List Int32) (kn op : Nat → Bool) (fp lm me dp wh te nu en : Int32) (hS : vSt g ad F rs kn op fp lm me dp wh te nu en) (j : Nat) (hj : rowp j) (a : Int32) : hp_Mi l g z0 N ad y_D_addByNumber ws_D_addByNumber (rk 2) [.ref (ad 0), .ref (ad j), .int a] F (fun v F' => v = nI (md_nu (cap j) (rs j) nu).2 ∧ vSt g ad F' (va_up rs j (md_nu (cap j) (rs j) nu).1) kn op (pf (md_nu (cap j) (rs j) nu).2 fp a) lm me dp wh te nu en ∧ vFr F F') := by
  refine hp_enter (cc := cc_D_addByNumber) (maxL := 4) (ret := (some .int)) (by decide) rfl (Nat.le_of_ble_eq_true rfl) ?_
  intro p e s m below meth c S hr hlk hnm hK hW ls hl
  have hl : lv_has ls 4 [(0, .ref (ad 0)), (1, .ref (ad j)), (2, .int a)] := hl
  obtain ⟨hx, hb, hml, hown, hts⟩ := id S
  have in_kD : ∀ w ∈ u_ws R_D T_D 9, w ∈ ws_D_addByNumber := fun w h => List.mem_cons_of_mem _ (in0_D w h)
  have in_kF : ∀ w ∈ u_ws R_F T_F 4, w ∈ ws_D_addByNumber := fun w h => List.mem_cons_of_mem _ (in0_F w h)
  refine lv_aload_n hx hb d_D_addByNumber_0 rfl (lv_at hl 0 rfl) ?_
  refine hp_get S hK hW (0) (by omega) rfl hS.1 rfl in_kD 4 (by decide) (hts _ (List.mem_cons_of_mem _ tq_18)) rfl d_D_addByNumber_1 ?_
  refine hp_getN S hK hW (86) (by omega) rfl hS.2.2.2.2 rfl in_kF 2 (by decide) (List.mem_of_getElem? (i := 5) rfl) rfl d_D_addByNumber_4 ?_
  refine lv_istore_n (lv' := [(3, .int nu), (0, .ref (ad 0)), (1, .ref (ad j)), (2, .int a)]) hx hb d_D_addByNumber_7 rfl hl (by decide) rfl (fun ls hl => ?_)
  refine lv_iload_n hx hb d_D_addByNumber_8 rfl (lv_at hl 0 rfl) ?_
  refine hp_goi hW (va_runS S (c_isCharacter l g z0 N ad F (nu)) (va_cwS 1 hts (tb_S cd_D_isCharacter tq_71 tq_72 tq_27) rfl rfl rfl hd_D_isCharacter.2 (rk_ok (by omega) (by omega))) (hp_preS hK hW) rfl rfl hl.1 rfl (lv_room (Nat.le_of_ble_eq_true rfl)) d_D_addByNumber_9 ⟨Nat.zero_le _, Nat.zero_le _⟩) (fun r_1 F_2 H locs hw hW => ?_)
  obtain ⟨hvq, hFq⟩ := hw
  rw [hFq] at hW
  rw [hvq]
  refine lv_if_eq (tgt := 25) hx hb d_D_addByNumber_12 (by decide) (fun c_12 => ?_) (fun c_12 => ?_)
  · have c_12i := c_12
    refine lv_aload_n hx hb d_D_addByNumber_25 rfl (lv_at hl 1 rfl) ?_
    refine lv_iconst (v := 5) hx hb d_D_addByNumber_26 (by decide) ?_
    refine lv_iload_n hx hb d_D_addByNumber_27 rfl (lv_at hl 3 rfl) ?_
    refine hp_goi hW (va_runV S (c_fail l g z0 N ad F hN rs kn op fp lm me dp wh te nu en hS 5 a) (cwV 2 hts (tb_V cd_D_fail tq_56 tq_57 tq_58 tq_27) rfl rfl rfl hd_D_fail (rk_ok (by omega) (by omega))) (hp_preV hK hW (by omega) rfl hS.1 rfl) rfl rfl hl.1 rfl (lv_room (Nat.le_of_ble_eq_true rfl)) d_D_addByNumber_28 ⟨Nat.zero_le _, Nat.zero_le _⟩) (fun r_3 F_4 H locs hw hW => ?_)
    obtain ⟨hv1, hS1, hf1⟩ := hw
    rw [hv1]
    have hX : (md_nu (cap j) (rs j) nu) = (rs j, 5) := if_neg (fun q => by rw [b2_0.mp c_12i] at q; cases q)
    exact hp_reti S hK hW hr hlk d_D_addByNumber_31 (by rw [hX]; refine ⟨rfl, ?_, hf1⟩; show vSt g ad _ (va_up rs j (rs j)) kn op a lm me dp wh te nu en; rw [va_up_eta]; exact hS1)
  · have c_12i := c_12
    refine lv_aload_n hx hb d_D_addByNumber_15 rfl (lv_at hl 1 rfl) ?_
    refine lv_aload_n hx hb d_D_addByNumber_16 rfl (lv_at hl 2 rfl) ?_
    refine lv_iload_n hx hb d_D_addByNumber_17 rfl (lv_at hl 0 rfl) ?_
    refine lv_iload_n hx hb d_D_addByNumber_18 rfl (lv_at hl 3 rfl) ?_
    refine hp_goi hW (va_runV S (c_addTo l g z0 N ad F hN rs kn op fp lm me dp wh te nu en hS j hj nu a) (cwV 3 hts (tb_V cd_D_addTo tq_73 tq_74 tq_75 tq_27) rfl rfl rfl hd_D_addTo (rk_ok (by omega) (by omega))) (hp_preV hK hW (by omega) rfl hS.1 rfl) rfl rfl hl.1 rfl (lv_room (Nat.le_of_ble_eq_true rfl)) d_D_addByNumber_19 ⟨Nat.zero_le _, Nat.zero_le _⟩) (fun r_5 F_6 H locs hw hW => ?_)
    obtain ⟨hv1, hS1, hf1⟩ := hw
    rw [hv1]
    refine lv_goto (tgt := 31) hx hb d_D_addByNumber_22 (by decide) ?_
    have hX : (md_nu (cap j) (rs j) nu) = md_ad (cap j) (rs j) nu := if_pos (b2_n0.mp c_12i)
    exact hp_reti S hK hW hr hlk d_D_addByNumber_31 (by rw [hX]; exact ⟨rfl, hS1, hf1⟩)

/-! takeByte(x, here) -/
set_option maxHeartbeats 400000 in
set_option maxRecDepth 100000 in
theorem c_takeByte (l : Launch) (g : hp_G) (z0 N : Nat) (ad : Nat → Nat) (F : Nat → va_E) (hN : 87 ≤ N) (rs : Nat → List Int32) (kn op : Nat → Bool) (fp lm me dp wh te nu en : Int32) (hS : vSt g ad F rs kn op fp lm me dp wh te nu en) (x a : Int32) : hp_Mi l g z0 N ad y_D_takeByte ws_D_takeByte (rk 2) [.ref (ad 0), .int x, .int a] F (fun v F' => v = nI (md_by (rs 5) x).2 ∧ vSt g ad F' (va_up rs 5 (md_by (rs 5) x).1) kn op (pf (md_by (rs 5) x).2 fp a) lm me dp wh te nu en ∧ vFr F F') := by
  refine hp_enter (cc := cc_D_takeByte) (maxL := 3) (ret := (some .int)) (by decide) rfl (Nat.le_of_ble_eq_true rfl) ?_
  intro p e s m below meth c S hr hlk hnm hK hW ls hl
  have hl : lv_has ls 3 [(0, .ref (ad 0)), (1, .int x), (2, .int a)] := hl
  obtain ⟨hx, hb, hml, hown, hts⟩ := id S
  have in_kD : ∀ w ∈ u_ws R_D T_D 9, w ∈ ws_D_takeByte := fun w h => List.mem_cons_of_mem _ (in0_D w h)
  refine lv_iload_n hx hb d_D_takeByte_0 rfl (lv_at hl 1 rfl) ?_
  refine lv_bipush (v := 60) hx hb d_D_takeByte_1 (by decide) ?_
  refine lv_icmp_ne (tgt := 13) hx hb d_D_takeByte_3 (by decide) (fun c_3 => ?_) (fun c_3 => ?_)
  · have c_3i := c_3
    refine lv_iload_n hx hb d_D_takeByte_13 rfl (lv_at hl 1 rfl) ?_
    refine hp_goi hW (va_runS S (c_isCharacter l g z0 N ad F (x)) (va_cwS 1 hts (tb_S cd_D_isCharacter tq_71 tq_72 tq_27) rfl rfl rfl hd_D_isCharacter.2 (rk_ok (by omega) (by omega))) (hp_preS hK hW) rfl rfl hl.1 rfl (lv_room (Nat.le_of_ble_eq_true rfl)) d_D_takeByte_14 ⟨Nat.zero_le _, Nat.zero_le _⟩) (fun r_1 F_2 H locs hw hW => ?_)
    obtain ⟨hvq, hFq⟩ := hw
    rw [hFq] at hW
    rw [hvq]
    refine lv_if_ne (tgt := 27) hx hb d_D_takeByte_17 (by decide) (fun c_17 => ?_) (fun c_17 => ?_)
    · have c_17i := c_17
      refine lv_aload_n hx hb d_D_takeByte_27 rfl (lv_at hl 0 rfl) ?_
      refine lv_aload_n hx hb d_D_takeByte_28 rfl (lv_at hl 0 rfl) ?_
      refine hp_get S hK hW (0) (by omega) rfl hS.1 rfl in_kD 2 (by decide) (hts _ (List.mem_cons_of_mem _ tq_8)) rfl d_D_takeByte_29 ?_
      refine lv_iload_n hx hb d_D_takeByte_32 rfl (lv_at hl 1 rfl) ?_
      refine lv_bipush (v := 32) hx hb d_D_takeByte_33 (by decide) ?_
      refine lv_icmp_ge (tgt := 43) hx hb d_D_takeByte_35 (by decide) (fun c_35 => ?_) (fun c_35 => ?_)
      · have c_35i := c_35
        have c_35j := Int32.not_lt.mpr c_35
        refine lv_iload_n hx hb d_D_takeByte_43 rfl (lv_at hl 1 rfl) ?_
        refine lv_iload_n hx hb d_D_takeByte_44 rfl (lv_at hl 2 rfl) ?_
        refine hp_goi hW (va_runV S (c_addTo l g z0 N ad F hN rs kn op fp lm me dp wh te nu en hS 5 rowp_5 x a) (cwV 3 hts (tb_V cd_D_addTo tq_73 tq_74 tq_75 tq_27) rfl rfl rfl hd_D_addTo (rk_ok (by omega) (by omega))) (hp_preV hK hW (by omega) rfl hS.1 rfl) rfl rfl hl.1 rfl (lv_room (Nat.le_of_ble_eq_true rfl)) d_D_takeByte_45 ⟨Nat.zero_le _, Nat.zero_le _⟩) (fun r_3 F_4 H locs hw hW => ?_)
        obtain ⟨hv1, hS1, hf1⟩ := hw
        rw [hv1]
        have hX : (md_by (rs 5) x) = md_ad 300 (rs 5) x := (if_neg c_3i).trans ((if_pos (b2_n0.mp c_17i)).trans (by rw [if_neg (Int32.not_lt.mpr c_35i)]))
        exact hp_reti S hK hW hr hlk d_D_takeByte_48 (by rw [hX]; exact ⟨rfl, hS1, hf1⟩)
      · have c_35i := c_35
        have c_35j := Int32.not_le.mp c_35
        refine lv_bipush (v := 32) hx hb d_D_takeByte_38 (by decide) ?_
        refine lv_goto (tgt := 44) hx hb d_D_takeByte_40 (by decide) ?_
        refine lv_iload_n hx hb d_D_takeByte_44 rfl (lv_at hl 2 rfl) ?_
        refine hp_goi hW (va_runV S (c_addTo l g z0 N ad F hN rs kn op fp lm me dp wh te nu en hS 5 rowp_5 32 a) (cwV 3 hts (tb_V cd_D_addTo tq_73 tq_74 tq_75 tq_27) rfl rfl rfl hd_D_addTo (rk_ok (by omega) (by omega))) (hp_preV hK hW (by omega) rfl hS.1 rfl) rfl rfl hl.1 rfl (lv_room (Nat.le_of_ble_eq_true rfl)) d_D_takeByte_45 ⟨Nat.zero_le _, Nat.zero_le _⟩) (fun r_5 F_6 H locs hw hW => ?_)
        obtain ⟨hv1, hS1, hf1⟩ := hw
        rw [hv1]
        have hX : (md_by (rs 5) x) = md_ad 300 (rs 5) 32 := (if_neg c_3i).trans ((if_pos (b2_n0.mp c_17i)).trans (by rw [if_pos (Int32.not_le.mp c_35i)]))
        exact hp_reti S hK hW hr hlk d_D_takeByte_48 (by rw [hX]; exact ⟨rfl, hS1, hf1⟩)
    · have c_17i := c_17
      refine lv_aload_n hx hb d_D_takeByte_20 rfl (lv_at hl 0 rfl) ?_
      refine lv_iconst (v := 1) hx hb d_D_takeByte_21 (by decide) ?_
      refine lv_iload_n hx hb d_D_takeByte_22 rfl (lv_at hl 2 rfl) ?_
      refine hp_goi hW (va_runV S (c_fail l g z0 N ad F hN rs kn op fp lm me dp wh te nu en hS 1 a) (cwV 2 hts (tb_V cd_D_fail tq_56 tq_57 tq_58 tq_27) rfl rfl rfl hd_D_fail (rk_ok (by omega) (by omega))) (hp_preV hK hW (by omega) rfl hS.1 rfl) rfl rfl hl.1 rfl (lv_room (Nat.le_of_ble_eq_true rfl)) d_D_takeByte_23 ⟨Nat.zero_le _, Nat.zero_le _⟩) (fun r_7 F_8 H locs hw hW => ?_)
      obtain ⟨hv1, hS1, hf1⟩ := hw
      rw [hv1]
      have hX : (md_by (rs 5) x) = (rs 5, 1) := (if_neg c_3i).trans (if_neg (fun q => by rw [b2_0.mp c_17i] at q; cases q))
      exact hp_reti S hK hW hr hlk d_D_takeByte_26 (by rw [hX]; refine ⟨rfl, ?_, hf1⟩; show vSt g ad _ (va_up rs 5 (rs 5)) kn op a lm me dp wh te nu en; rw [va_up_eta]; exact hS1)
  · have c_3i := c_3
    refine lv_aload_n hx hb d_D_takeByte_6 rfl (lv_at hl 0 rfl) ?_
    refine lv_iconst (v := 4) hx hb d_D_takeByte_7 (by decide) ?_
    refine lv_iload_n hx hb d_D_takeByte_8 rfl (lv_at hl 2 rfl) ?_
    refine hp_goi hW (va_runV S (c_fail l g z0 N ad F hN rs kn op fp lm me dp wh te nu en hS 4 a) (cwV 2 hts (tb_V cd_D_fail tq_56 tq_57 tq_58 tq_27) rfl rfl rfl hd_D_fail (rk_ok (by omega) (by omega))) (hp_preV hK hW (by omega) rfl hS.1 rfl) rfl rfl hl.1 rfl (lv_room (Nat.le_of_ble_eq_true rfl)) d_D_takeByte_9 ⟨Nat.zero_le _, Nat.zero_le _⟩) (fun r_9 F_10 H locs hw hW => ?_)
    obtain ⟨hv1, hS1, hf1⟩ := hw
    rw [hv1]
    have hX : (md_by (rs 5) x) = (rs 5, 4) := if_pos c_3i
    exact hp_reti S hK hW hr hlk d_D_takeByte_12 (by rw [hX]; refine ⟨rfl, ?_, hf1⟩; show vSt g ad _ (va_up rs 5 (rs 5)) kn op a lm me dp wh te nu en; rw [va_up_eta]; exact hS1)

/-! failBroken(row, depth, outer) -/
set_option maxHeartbeats 400000 in
set_option maxRecDepth 100000 in
theorem c_failBroken (l : Launch) (g : hp_G) (z0 N : Nat) (ad : Nat → Nat) (F : Nat → va_E) (hN : 87 ≤ N) (rs : Nat → List Int32) (kn op : Nat → Bool) (fp lm me dp wh te nu en : Int32) (hS : vSt g ad F rs kn op fp lm me dp wh te nu en) (j : Nat) (hj : rowp j) (dl E : Nat) (hdl : dl < 1000) (hE : E < 1000) (hen : en = nI E) (hlj : (rs j).length < 1000) (a : Int32) : hp_Mi l g z0 N ad y_D_failBroken ws_D_failBroken (rk 1) [.ref (ad 0), .ref (ad j), .int (nI dl), .int a] F (fun v F' => v = nI (if dl = 0 ∨ E < (rs j).length then 1 else 7) ∧ vSt g ad F' rs kn op (if dl = 0 then nI E else a) lm me dp wh te nu en ∧ vFr F F') := by
  subst hen
  have hjl := rowp_lt hj
  refine hp_enter (cc := cc_D_failBroken) (maxL := 4) (ret := (some .int)) (by decide) rfl (Nat.le_of_ble_eq_true rfl) ?_
  intro p e s m below meth c S hr hlk hnm hK hW ls hl
  have hl : lv_has ls 4 [(0, .ref (ad 0)), (1, .ref (ad j)), (2, .int (nI dl)), (3, .int a)] := hl
  obtain ⟨hx, hb, hml, hown, hts⟩ := id S
  have in_kD : ∀ w ∈ u_ws R_D T_D 9, w ∈ ws_D_failBroken := fun w h => List.mem_cons_of_mem _ (in0_D w h)
  have in_kF : ∀ w ∈ u_ws R_F T_F 4, w ∈ ws_D_failBroken := fun w h => List.mem_cons_of_mem _ (in0_F w h)
  refine lv_iload_n hx hb d_D_failBroken_0 rfl (lv_at hl 2 rfl) ?_
  refine lv_if_ne (tgt := 17) hx hb d_D_failBroken_1 (by decide) (fun c_1 => ?_) (fun c_1 => ?_)
  · have c_1i := c_1
    replace c_1 : ¬ dl = 0 := fun zz9 => c_1 ((nI_eq (a := dl) (b := 0) (by omega) (by omega)).mpr zz9)
    refine lv_aload_n hx hb d_D_failBroken_17 rfl (lv_at hl 0 rfl) ?_
    refine lv_aload_n hx hb d_D_failBroken_18 rfl (lv_at hl 0 rfl) ?_
    refine hp_get S hK hW (0) (by omega) rfl hS.1 rfl in_kD 4 (by decide) (hts _ (List.mem_cons_of_mem _ tq_18)) rfl d_D_failBroken_19 ?_
    refine hp_getN S hK hW (86) (by omega) rfl hS.2.2.2.2 rfl in_kF 3 (by decide) (List.mem_of_getElem? (i := 6) rfl) rfl d_D_failBroken_22 ?_
    refine lv_aload_n hx hb d_D_failBroken_25 rfl (lv_at hl 1 rfl) ?_
    refine hp_goi hW (va_runV S (s_size l g z0 N ad F hN rs kn op fp lm me dp wh te nu (nI E) hS j hj) (cwV 0 hts (tb_V cd_R_size tq_20 tq_21 tq_22 tq_3) rfl rfl rfl hd_R_size (rk_ok (by omega) (by omega))) (hp_preV hK hW (by omega) rfl (hS.row hj).obj rfl) rfl rfl hl.1 rfl (lv_room (Nat.le_of_ble_eq_true rfl)) d_D_failBroken_26 ⟨Nat.zero_le _, Nat.zero_le _⟩) (fun r_1 F_2 H locs hw hW => ?_)
    obtain ⟨hvq, hFq⟩ := hw
    rw [hFq] at hW
    rw [hvq]
    refine lv_icmp_ge (tgt := 36) hx hb d_D_failBroken_29 (by decide) (fun c_29 => ?_) (fun c_29 => ?_)
    · have c_29i := c_29
      replace c_29 : (rs j).length ≤ E := (nI_leI (a := (rs j).length) (b := E) (by omega) (by omega)).mp c_29
      refine lv_bipush (v := 7) hx hb d_D_failBroken_36 (by decide) ?_
      refine lv_iload_n hx hb d_D_failBroken_38 rfl (lv_at hl 3 rfl) ?_
      refine hp_goi hW (va_runV S (c_fail l g z0 N ad F hN rs kn op fp lm me dp wh te nu (nI E) hS 7 a) (cwV 2 hts (tb_V cd_D_fail tq_56 tq_57 tq_58 tq_27) rfl rfl rfl hd_D_fail (rk_ok (by omega) (by omega))) (hp_preV hK hW (by omega) rfl hS.1 rfl) rfl rfl hl.1 rfl (lv_room (Nat.le_of_ble_eq_true rfl)) d_D_failBroken_39 ⟨Nat.zero_le _, Nat.zero_le _⟩) (fun r_3 F_4 H locs hw hW => ?_)
      obtain ⟨hv1, hS1, hf1⟩ := hw
      rw [hv1]
      exact hp_reti S hK hW hr hlk d_D_failBroken_42 (by rw [if_neg (by omega), if_neg c_1]; exact ⟨rfl, hS1, hf1⟩)
    · have c_29i := c_29
      replace c_29 : ¬ (rs j).length ≤ E := fun zz9 => c_29 ((nI_leI (a := (rs j).length) (b := E) (by omega) (by omega)).mpr zz9)
      refine lv_iconst (v := 1) hx hb d_D_failBroken_32 (by decide) ?_
      refine lv_goto (tgt := 38) hx hb d_D_failBroken_33 (by decide) ?_
      refine lv_iload_n hx hb d_D_failBroken_38 rfl (lv_at hl 3 rfl) ?_
      refine hp_goi hW (va_runV S (c_fail l g z0 N ad F hN rs kn op fp lm me dp wh te nu (nI E) hS 1 a) (cwV 2 hts (tb_V cd_D_fail tq_56 tq_57 tq_58 tq_27) rfl rfl rfl hd_D_fail (rk_ok (by omega) (by omega))) (hp_preV hK hW (by omega) rfl hS.1 rfl) rfl rfl hl.1 rfl (lv_room (Nat.le_of_ble_eq_true rfl)) d_D_failBroken_39 ⟨Nat.zero_le _, Nat.zero_le _⟩) (fun r_5 F_6 H locs hw hW => ?_)
      obtain ⟨hv1, hS1, hf1⟩ := hw
      rw [hv1]
      exact hp_reti S hK hW hr hlk d_D_failBroken_42 (by rw [if_pos (Or.inr (by omega)), if_neg c_1]; exact ⟨rfl, hS1, hf1⟩)
  · have c_1i := c_1
    replace c_1 : dl = 0 := (nI_eq (a := dl) (b := 0) (by omega) (by omega)).mp c_1
    refine lv_aload_n hx hb d_D_failBroken_4 rfl (lv_at hl 0 rfl) ?_
    refine lv_iconst (v := 1) hx hb d_D_failBroken_5 (by decide) ?_
    refine lv_aload_n hx hb d_D_failBroken_6 rfl (lv_at hl 0 rfl) ?_
    refine hp_get S hK hW (0) (by omega) rfl hS.1 rfl in_kD 4 (by decide) (hts _ (List.mem_cons_of_mem _ tq_18)) rfl d_D_failBroken_7 ?_
    refine hp_getN S hK hW (86) (by omega) rfl hS.2.2.2.2 rfl in_kF 3 (by decide) (List.mem_of_getElem? (i := 6) rfl) rfl d_D_failBroken_10 ?_
    refine hp_goi hW (va_runV S (c_fail l g z0 N ad F hN rs kn op fp lm me dp wh te nu (nI E) hS 1 (nI E)) (cwV 2 hts (tb_V cd_D_fail tq_56 tq_57 tq_58 tq_27) rfl rfl rfl hd_D_fail (rk_ok (by omega) (by omega))) (hp_preV hK hW (by omega) rfl hS.1 rfl) rfl rfl hl.1 rfl (lv_room (Nat.le_of_ble_eq_true rfl)) d_D_failBroken_13 ⟨Nat.zero_le _, Nat.zero_le _⟩) (fun r_7 F_8 H locs hw hW => ?_)
    obtain ⟨hv1, hS1, hf1⟩ := hw
    rw [hv1]
    exact hp_reti S hK hW hr hlk d_D_failBroken_16 (by rw [if_pos (Or.inl c_1), if_pos c_1]; exact ⟨rfl, hS1, hf1⟩)
end
section
/-! known: its loop -/
set_option maxHeartbeats 400000 in
set_option maxRecDepth 100000 in
theorem lp_known {p : Program} {e : Env} {s : State} {m : MethodId} {args : Array Value} {below : List Frame} {meth : Method} {c : Code} (l : Launch) (g : hp_G) (z0 N : Nat) (ad : Nat → Nat)  (F : Nat → va_E) (hN : 87 ≤ N) (rs : Nat → List Int32) (kn op : Nat → Bool) (fp lm me dp wh te nu en : Int32) (hS : vSt g ad F rs kn op fp lm me dp wh te nu en) (fe : Nat → Option Nat) (h7 : F 7 = .inl (g.2 1, 26, .inr (.inr (.inr (.inr fe))))) (h7b : ∀ k, k < 26 → fe k = some (ad (8 + 3 * k))) (S : CallFix p m c cc_D_known 3 s args ws_D_known R_D) (hr : meth.sig.returnType = (some .int)) (hlk : meth.locks = false) (hK : hp_K g s) : ∀ (j : Nat) (i : Nat), i ≤ 26 → 27 ≤ i + j → ∀ (H : Heap) (locs : List Loc) (ls : Array Slot), hp_W g z0 N ad F s.heap H locs → lv_has ls 3 [(0, .ref (ad 0)), (1, .int (nI (md_kn kn i))), (2, .int (nI i))] → W p l e (rk 0) s m args below meth c H locs 0 0 (MQ below (va_Qi (fun v F' => v = nI (md_kn kn 26) ∧ F' = F) (hp_B g z0 N ad) (hp_A z0)) args s 0 0 (hp_A z0)) (F0 m 4 ls []) := by
  obtain ⟨hx, hb, hml, hown, hts⟩ := id S
  have in_kD : ∀ w ∈ u_ws R_D T_D 9, w ∈ ws_D_known := fun w h => List.mem_cons_of_mem _ (in0_D w h)
  have in_kE : ∀ w ∈ u_ws R_E T_E 3, w ∈ ws_D_known := fun w h => List.mem_cons_of_mem _ (in0_E w h)
  intro j
  induction j with
  | zero =>
    intro i hi hj H locs ls hW hl
    exact absurd hj (by omega)
  | succ j ih =>
    intro i hi hj H locs ls hW hl
    refine lv_iload_n hx hb d_D_known_4 rfl (lv_at hl 2 rfl) ?_
    refine lv_bipush (v := 26) hx hb d_D_known_5 (by decide) ?_
    refine lv_icmp_ge (tgt := 31) hx hb d_D_known_7 (by decide) (fun c_7 => ?_) (fun c_7 => ?_)
    · have c_7i := c_7
      replace c_7 : 26 ≤ i := (nI_leI (a := 26) (b := i) (by omega) (by omega)).mp c_7
      refine lv_iload_n hx hb d_D_known_31 rfl (lv_at hl 1 rfl) ?_
      exact hp_reti S hK hW hr hlk d_D_known_32 (⟨by rw [show i = 26 by omega], rfl⟩)
    · have c_7i := c_7
      replace c_7 : ¬ 26 ≤ i := fun zz9 => c_7 ((nI_leI (a := 26) (b := i) (by omega) (by omega)).mpr zz9)
      refine lv_aload_n hx hb d_D_known_10 rfl (lv_at hl 0 rfl) ?_
      refine hp_get S hK hW (0) (by omega) rfl hS.1 rfl in_kD 3 (by decide) (hts _ (List.mem_cons_of_mem _ tq_10)) rfl d_D_known_11 ?_
      refine lv_iload_n hx hb d_D_known_14 rfl (lv_at hl 2 rfl) ?_
      refine hp_aald S hK hW (7) 1 (by omega) rfl h7 rfl (vp_in_nI (by omega) (by omega)) d_D_known_15 ?_
      rw [show fe ((nI i) : Int32).toNatClampNeg = some (ad (8 + 3 * i)) from (by rw [nI_clamp (by omega)]; exact h7b i (by omega)), va_rf_some]
      refine hp_getN S hK hW (8 + 3 * i) (by omega) rfl (hS.2.2.2.1 i (by omega)) rfl in_kE 1 (by decide) (List.mem_of_getElem? (i := 1) rfl) rfl d_D_known_16 ?_
      refine lv_if_eq (tgt := 25) hx hb d_D_known_19 (by decide) (fun c_19 => ?_) (fun c_19 => ?_)
      · have c_19i := c_19
        refine lv_iinc (v := (nI (i + 1))) (lv' := [(2, .int (nI (i + 1))), (0, .ref (ad 0)), (1, .int (nI (md_kn kn i)))]) hx hb d_D_known_25 hl (k := 2) rfl ((nI_succ (i)).symm) (by decide) rfl (fun ls hl => ?_)
        refine lv_goto (tgt := 4) hx hb d_D_known_28 (by decide) ?_
        exact ih (i + 1) (by omega) (by omega) H locs ls hW (by rw [kn_t c_19i]; exact (lv_sub hl [1, 2, 0] rfl))
      · have c_19i := c_19
        refine lv_iinc (v := (nI ((md_kn kn i) + 1))) (lv' := [(1, .int (nI ((md_kn kn i) + 1))), (0, .ref (ad 0)), (2, .int (nI i))]) hx hb d_D_known_22 hl (k := 1) rfl ((nI_succ ((md_kn kn i))).symm) (by decide) rfl (fun ls hl => ?_)
        refine lv_iinc (v := (nI (i + 1))) (lv' := [(2, .int (nI (i + 1))), (1, .int (nI ((md_kn kn i) + 1))), (0, .ref (ad 0))]) hx hb d_D_known_25 hl (k := 2) rfl ((nI_succ (i)).symm) (by decide) rfl (fun ls hl => ?_)
        refine lv_goto (tgt := 4) hx hb d_D_known_28 (by decide) ?_
        exact ih (i + 1) (by omega) (by omega) H locs ls hW (by rw [kn_f c_19i]; exact (lv_sub hl [2, 1, 0] rfl))

/-! known() -/
set_option maxHeartbeats 400000 in
set_option maxRecDepth 100000 in
theorem c_known (l : Launch) (g : hp_G) (z0 N : Nat) (ad : Nat → Nat) (F : Nat → va_E) (hN : 87 ≤ N) (rs : Nat → List Int32) (kn op : Nat → Bool) (fp lm me dp wh te nu en : Int32) (hS : vSt g ad F rs kn op fp lm me dp wh te nu en) : hp_Mi l g z0 N ad y_D_known ws_D_known (rk 0) [.ref (ad 0)] F (fun v F' => v = nI (md_kn kn 26) ∧ F' = F) := by
  obtain ⟨fe, h7, h7b⟩ := hS.2.2.1
  refine hp_enter (cc := cc_D_known) (maxL := 3) (ret := (some .int)) (by decide) rfl (Nat.le_of_ble_eq_true rfl) ?_
  intro p e s m below meth c S hr hlk hnm hK hW ls hl
  have hl : lv_has ls 3 [(0, .ref (ad 0))] := hl
  obtain ⟨hx, hb, hml, hown, hts⟩ := id S
  have in_kD : ∀ w ∈ u_ws R_D T_D 9, w ∈ ws_D_known := fun w h => List.mem_cons_of_mem _ (in0_D w h)
  refine lv_iconst (v := 0) hx hb d_D_known_0 (by decide) ?_
  refine lv_istore_n (lv' := [(1, .int 0), (0, .ref (ad 0))]) hx hb d_D_known_1 rfl hl (by decide) rfl (fun ls hl => ?_)
  refine lv_iconst (v := 0) hx hb d_D_known_2 (by decide) ?_
  refine lv_istore_n (lv' := [(2, .int 0), (1, .int 0), (0, .ref (ad 0))]) hx hb d_D_known_3 rfl hl (by decide) rfl (fun ls hl => ?_)
  exact lp_known l g z0 N ad F hN rs kn op fp lm me dp wh te nu en hS fe h7 h7b S hr hlk hK 27 0 (by omega) (by omega) _ _ ls hW (lv_sub hl [2, 1, 0] rfl)

/-! entityOf(k) -/
set_option maxHeartbeats 400000 in
set_option maxRecDepth 100000 in
theorem c_entityOf (l : Launch) (g : hp_G) (z0 N : Nat) (ad : Nat → Nat) (F : Nat → va_E) (hN : 87 ≤ N) (rs : Nat → List Int32) (kn op : Nat → Bool) (fp lm me dp wh te nu en : Int32) (hS : vSt g ad F rs kn op fp lm me dp wh te nu en) (k : Int32) : hp_Mq l g z0 N ad y_D_entityOf ws_D_entityOf (rk 0) [.ref (ad 0), .int k] F (fun v F' => v = entA ad k ∧ F' = F) := by
  obtain ⟨fe, h7, h7b⟩ := hS.2.2.1
  refine hp_enter (cc := cc_D_entityOf) (maxL := 2) (ret := (some (.object "ValueDesk$Entity"))) (by decide) rfl (Nat.le_of_ble_eq_true rfl) ?_
  intro p e s m below meth c S hr hlk hnm hK hW ls hl
  have hl : lv_has ls 2 [(0, .ref (ad 0)), (1, .int k)] := hl
  obtain ⟨hx, hb, hml, hown, hts⟩ := id S
  have in_kD : ∀ w ∈ u_ws R_D T_D 9, w ∈ ws_D_entityOf := fun w h => List.mem_cons_of_mem _ (in0_D w h)
  refine lv_iload_n hx hb d_D_entityOf_0 rfl (lv_at hl 1 rfl) ?_
  refine lv_if_lt (tgt := 10) hx hb d_D_entityOf_1 (by decide) (fun c_1 => ?_) (fun c_1 => ?_)
  · have c_1i := c_1
    have c_1j := Int32.not_le.mpr c_1
    refine lv_null hx hb d_D_entityOf_10 ?_
    refine lv_goto (tgt := 20) hx hb d_D_entityOf_11 (by decide) ?_
    exact hp_retq (v := none) S hK hW hr (Or.inl ⟨_, rfl⟩) hlk d_D_entityOf_20 (⟨(if_neg (fun h => absurd c_1i (Int32.not_lt.mpr h.1))).symm, rfl⟩)
  · have c_1i := c_1
    have c_1j := Int32.not_lt.mp c_1
    refine lv_iload_n hx hb d_D_entityOf_4 rfl (lv_at hl 1 rfl) ?_
    refine lv_bipush (v := 26) hx hb d_D_entityOf_5 (by decide) ?_
    refine lv_icmp_lt (tgt := 14) hx hb d_D_entityOf_7 (by decide) (fun c_7 => ?_) (fun c_7 => ?_)
    · have c_7i := c_7
      have c_7j := Int32.not_le.mpr c_7
      obtain ⟨i, hi, ei⟩ := ent_k c_1i c_7i
      subst ei
      refine lv_aload_n hx hb d_D_entityOf_14 rfl (lv_at hl 0 rfl) ?_
      refine hp_get S hK hW (0) (by omega) rfl hS.1 rfl in_kD 3 (by decide) (hts _ (List.mem_cons_of_mem _ tq_10)) rfl d_D_entityOf_15 ?_
      refine lv_iload_n hx hb d_D_entityOf_18 rfl (lv_at hl 1 rfl) ?_
      refine hp_aald S hK hW (7) 1 (by omega) rfl h7 rfl (vp_in_nI (by omega) (by omega)) d_D_entityOf_19 ?_
      rw [show fe ((nI i) : Int32).toNatClampNeg = some (ad (8 + 3 * i)) from (by rw [nI_clamp (by omega)]; exact h7b i (by omega)), va_rf_some]
      exact hp_retq (v := some ((ad (8 + 3 * i)))) S hK hW hr (Or.inl ⟨_, rfl⟩) hlk d_D_entityOf_20 (⟨(entA_in hi).symm, rfl⟩)
    · have c_7i := c_7
      have c_7j := Int32.not_lt.mp c_7
      refine lv_null hx hb d_D_entityOf_10 ?_
      refine lv_goto (tgt := 20) hx hb d_D_entityOf_11 (by decide) ?_
      exact hp_retq (v := none) S hK hW hr (Or.inl ⟨_, rfl⟩) hlk d_D_entityOf_20 (⟨(if_neg (fun h => c_7i h.2)).symm, rfl⟩)

/-! place() -/
set_option maxHeartbeats 400000 in
set_option maxRecDepth 100000 in
theorem c_place (l : Launch) (g : hp_G) (z0 N : Nat) (ad : Nat → Nat) (F : Nat → va_E) (hN : 87 ≤ N) (rs : Nat → List Int32) (kn op : Nat → Bool) (fp lm me dp wh te nu en : Int32) (hS : vSt g ad F rs kn op fp lm me dp wh te nu en) : hp_Mi l g z0 N ad y_D_place ws_D_place (rk 0) [.ref (ad 0)] F (fun v F' => v = fp ∧ F' = F) := by
  refine hp_enter (cc := cc_D_place) (maxL := 1) (ret := (some .int)) (by decide) rfl (Nat.le_of_ble_eq_true rfl) ?_
  intro p e s m below meth c S hr hlk hnm hK hW ls hl
  have hl : lv_has ls 1 [(0, .ref (ad 0))] := hl
  obtain ⟨hx, hb, hml, hown, hts⟩ := id S
  have in_kD : ∀ w ∈ u_ws R_D T_D 9, w ∈ ws_D_place := fun w h => List.mem_cons_of_mem _ (in0_D w h)
  refine lv_aload_n hx hb d_D_place_0 rfl (lv_at hl 0 rfl) ?_
  refine hp_get S hK hW (0) (by omega) rfl hS.1 rfl in_kD 5 (by decide) (hts _ (List.mem_cons_of_mem _ tq_19)) rfl d_D_place_1 ?_
  exact hp_reti S hK hW hr hlk d_D_place_4 (⟨rfl, rfl⟩)

/-! characters(k) -/
set_option maxHeartbeats 400000 in
set_option maxRecDepth 100000 in
theorem c_characters (l : Launch) (g : hp_G) (z0 N : Nat) (ad : Nat → Nat) (F : Nat → va_E) (hN : 87 ≤ N) (rs : Nat → List Int32) (kn op : Nat → Bool) (fp lm me dp wh te nu en : Int32) (hS : vSt g ad F rs kn op fp lm me dp wh te nu en) (k : Int32) : hp_Ml l g z0 N ad y_D_characters ws_D_characters (rk 1) [.ref (ad 0), .int k] F (fun v F' => v = md_word (rs 5) k ∧ F' = F) := by
  refine hp_enter (cc := cc_D_characters) (maxL := 2) (ret := (some .long)) (by decide) rfl (Nat.le_of_ble_eq_true rfl) ?_
  intro p e s m below meth c S hr hlk hnm hK hW ls hl
  have hl : lv_has ls 2 [(0, .ref (ad 0)), (1, .int k)] := hl
  obtain ⟨hx, hb, hml, hown, hts⟩ := id S
  have in_kD : ∀ w ∈ u_ws R_D T_D 9, w ∈ ws_D_characters := fun w h => List.mem_cons_of_mem _ (in0_D w h)
  refine lv_aload_n hx hb d_D_characters_0 rfl (lv_at hl 0 rfl) ?_
  refine hp_get S hK hW (0) (by omega) rfl hS.1 rfl in_kD 2 (by decide) (hts _ (List.mem_cons_of_mem _ tq_8)) rfl d_D_characters_1 ?_
  refine lv_iload_n hx hb d_D_characters_4 rfl (lv_at hl 1 rfl) ?_
  refine hp_gol hW (va_runV S (s_wordAt l g z0 N ad F hN rs kn op fp lm me dp wh te nu en hS (5) (rowp_5) k) (cwV 1 hts (tb_V cd_R_wordAt tq_49 tq_50 tq_51 tq_3) rfl rfl rfl hd_R_wordAt (rk_ok (by omega) (by omega))) (hp_preV hK hW (by omega) rfl (hS.row rowp_5).obj rfl) rfl rfl hl.1 rfl (lv_room (Nat.le_of_ble_eq_true rfl)) d_D_characters_5 ⟨Nat.zero_le _, Nat.zero_le _⟩) (fun r_1 F_2 H locs hw hW => ?_)
  obtain ⟨hvq, hFq⟩ := hw
  rw [hFq] at hW
  rw [hvq]
  exact hp_retl S hK hW hr hlk d_D_characters_8 (⟨rfl, rfl⟩)

/-! text(e, k), no such entity -/
set_option maxHeartbeats 400000 in
set_option maxRecDepth 100000 in
theorem c_text_out (l : Launch) (g : hp_G) (z0 N : Nat) (ad : Nat → Nat) (F : Nat → va_E) (hN : 87 ≤ N) (rs : Nat → List Int32) (kn op : Nat → Bool) (fp lm me dp wh te nu en : Int32) (hS : vSt g ad F rs kn op fp lm me dp wh te nu en) (e0 k : Int32) (hk : ¬ (0 ≤ e0 ∧ e0 < 26)) : hp_Ml l g z0 N ad y_D_text ws_D_text (rk 1) [.ref (ad 0), .int e0, .int k] F (fun v F' => v = -1 ∧ F' = F) := by
  refine hp_enter (cc := cc_D_text) (maxL := 4) (ret := (some .long)) (by decide) rfl (Nat.le_of_ble_eq_true rfl) ?_
  intro p e s m below meth c S hr hlk hnm hK hW ls hl
  have hl : lv_has ls 4 [(0, .ref (ad 0)), (1, .int e0), (2, .int k)] := hl
  obtain ⟨hx, hb, hml, hown, hts⟩ := id S
  have in_kD : ∀ w ∈ u_ws R_D T_D 9, w ∈ ws_D_text := fun w h => List.mem_cons_of_mem _ (in0_D w h)
  refine lv_aload_n hx hb d_D_text_0 rfl (lv_at hl 0 rfl) ?_
  refine lv_iload_n hx hb d_D_text_1 rfl (lv_at hl 1 rfl) ?_
  refine hp_goq hW (va_runV S (c_entityOf l g z0 N ad F hN rs kn op fp lm me dp wh te nu en hS e0) (cwV 1 hts (tb_V cd_D_entityOf tq_26 tq_28 tq_29 tq_27) rfl rfl rfl hd_D_entityOf (rk_ok (by omega) (by omega))) (hp_preV hK hW (by omega) rfl hS.1 rfl) rfl rfl hl.1 rfl (lv_room (Nat.le_of_ble_eq_true rfl)) d_D_text_2 ⟨Nat.zero_le _, Nat.zero_le _⟩) (fun r_1 F_2 H locs hw hW => ?_)
  obtain ⟨hv, hF⟩ := hw
  rw [hF] at hW
  rw [hv, show entA ad e0 = none from if_neg hk, va_rf_none]
  refine lv_astore_nN (lv' := [(3, .null), (0, .ref (ad 0)), (1, .int e0), (2, .int k)]) hx hb d_D_text_5 rfl hl (by decide) rfl (fun ls hl => ?_)
  refine lv_aload_nN hx hb d_D_text_6 rfl (lv_at hl 0 rfl) ?_
  refine lv_ifnullN (tgt := 17) hx hb d_D_text_7 (by decide) ?_
  refine lv_ldc2 (v := (-1)) hx hb hown (hts _ (List.mem_cons_of_mem _ tq_52)) d_D_text_17 ?_
  refine lv_goto (tgt := 31) hx hb d_D_text_20 (by decide) ?_
  exact hp_retl S hK hW hr hlk d_D_text_31 (⟨rfl, rfl⟩)

/-! text(e, k) -/
set_option maxHeartbeats 400000 in
set_option maxRecDepth 100000 in
theorem c_text_in (l : Launch) (g : hp_G) (z0 N : Nat) (ad : Nat → Nat) (F : Nat → va_E) (hN : 87 ≤ N) (rs : Nat → List Int32) (kn op : Nat → Bool) (fp lm me dp wh te nu en : Int32) (hS : vSt g ad F rs kn op fp lm me dp wh te nu en) (i : Nat) (hi : i < 26) (k : Int32) : hp_Ml l g z0 N ad y_D_text ws_D_text (rk 1) [.ref (ad 0), .int (nI i), .int k] F (fun v F' => v = (if kn i = true then md_word (rs (9 + 3 * i)) k else -1) ∧ F' = F) := by
  refine hp_enter (cc := cc_D_text) (maxL := 4) (ret := (some .long)) (by decide) rfl (Nat.le_of_ble_eq_true rfl) ?_
  intro p e s m below meth c S hr hlk hnm hK hW ls hl
  have hl : lv_has ls 4 [(0, .ref (ad 0)), (1, .int (nI i)), (2, .int k)] := hl
  obtain ⟨hx, hb, hml, hown, hts⟩ := id S
  have in_kD : ∀ w ∈ u_ws R_D T_D 9, w ∈ ws_D_text := fun w h => List.mem_cons_of_mem _ (in0_D w h)
  have in_kE : ∀ w ∈ u_ws R_E T_E 3, w ∈ ws_D_text := fun w h => List.mem_cons_of_mem _ (in0_E w h)
  refine lv_aload_n hx hb d_D_text_0 rfl (lv_at hl 0 rfl) ?_
  refine lv_iload_n hx hb d_D_text_1 rfl (lv_at hl 1 rfl) ?_
  refine hp_goq hW (va_runV S (c_entityOf l g z0 N ad F hN rs kn op fp lm me dp wh te nu en hS (nI i)) (cwV 1 hts (tb_V cd_D_entityOf tq_26 tq_28 tq_29 tq_27) rfl rfl rfl hd_D_entityOf (rk_ok (by omega) (by omega))) (hp_preV hK hW (by omega) rfl hS.1 rfl) rfl rfl hl.1 rfl (lv_room (Nat.le_of_ble_eq_true rfl)) d_D_text_2 ⟨Nat.zero_le _, Nat.zero_le _⟩) (fun r_1 F_2 H locs hw hW => ?_)
  obtain ⟨hv, hF⟩ := hw
  rw [hF] at hW
  rw [hv, entA_in hi, va_rf_some]
  refine lv_astore_n (lv' := [(3, .ref (ad (8 + 3 * i))), (0, .ref (ad 0)), (1, .int (nI i)), (2, .int k)]) hx hb d_D_text_5 rfl hl (by decide) rfl (fun ls hl => ?_)
  refine lv_aload_n hx hb d_D_text_6 rfl (lv_at hl 0 rfl) ?_
  refine lv_ifnull hx hb d_D_text_7 ?_
  refine lv_aload_n hx hb d_D_text_10 rfl (lv_at hl 0 rfl) ?_
  refine hp_getN S hK hW (8 + 3 * i) (by omega) rfl (hS.2.2.2.1 i (by omega)) rfl in_kE 1 (by decide) (List.mem_of_getElem? (i := 1) rfl) rfl d_D_text_11 ?_
  refine lv_if_ne (tgt := 23) hx hb d_D_text_14 (by decide) (fun c_14 => ?_) (fun c_14 => ?_)
  · have c_14i := c_14
    refine lv_aload_n hx hb d_D_text_23 rfl (lv_at hl 0 rfl) ?_
    refine hp_getN S hK hW (8 + 3 * i) (by omega) rfl (hS.2.2.2.1 i (by omega)) rfl in_kE 0 (by decide) (List.mem_of_getElem? (i := 0) rfl) rfl d_D_text_24 ?_
    refine lv_iload_n hx hb d_D_text_27 rfl (lv_at hl 3 rfl) ?_
    refine hp_gol hW (va_runV S (s_wordAt l g z0 N ad F hN rs kn op fp lm me dp wh te nu en hS (9 + 3 * i) (rowp_e hi) k) (cwV 1 hts (tb_V cd_R_wordAt tq_49 tq_50 tq_51 tq_3) rfl rfl rfl hd_R_wordAt (rk_ok (by omega) (by omega))) (hp_preV hK hW (by omega) rfl (hS.row (rowp_e hi)).obj rfl) rfl rfl hl.1 rfl (lv_room (Nat.le_of_ble_eq_true rfl)) d_D_text_28 ⟨Nat.zero_le _, Nat.zero_le _⟩) (fun r_3 F_4 H locs hw hW => ?_)
    obtain ⟨hvq, hFq⟩ := hw
    rw [hFq] at hW
    rw [hvq]
    exact hp_retl S hK hW hr hlk d_D_text_31 (⟨by rw [if_pos (b2_n0.mp c_14i)], rfl⟩)
  · have c_14i := c_14
    refine lv_ldc2 (v := (-1)) hx hb hown (hts _ (List.mem_cons_of_mem _ tq_52)) d_D_text_17 ?_
    refine lv_goto (tgt := 31) hx hb d_D_text_20 (by decide) ?_
    exact hp_retl S hK hW hr hlk d_D_text_31 (⟨by rw [if_neg (by rw [b2_0.mp c_14i]; exact fun q => by cases q)], rfl⟩)

/-! clear: its loop -/
set_option maxHeartbeats 400000 in
set_option maxRecDepth 100000 in
theorem lp_clear {p : Program} {e : Env} {s : State} {m : MethodId} {args : Array Value} {below : List Frame} {meth : Method} {c : Code} (l : Launch) (g : hp_G) (z0 N : Nat) (ad : Nat → Nat)  (Fz : Nat → va_E) (hN : 87 ≤ N) (rs : Nat → List Int32) (kn op : Nat → Bool) (fp lm me dp wh te nu en : Int32)  (x1 : Int32) (hx1 : x1 = nI (md_kn kn 26)) (S : CallFix p m c cc_D_clear 3 s args ws_D_clear R_D) (hr : meth.sig.returnType = (some .int)) (hlk : meth.locks = false) (hK : hp_K g s) : ∀ (j : Nat) (i : Nat) (F : Nat → va_E), i ≤ 26 → 27 ≤ i + j → vSt g ad F rs (clr kn i) op fp lm me dp wh te nu en → vFr Fz F → ∀ (H : Heap) (locs : List Loc) (ls : Array Slot), hp_W g z0 N ad F s.heap H locs → lv_has ls 3 [(0, .ref (ad 0)), (1, .int x1), (2, .int (nI i))] → W p l e (rk 1) s m args below meth c H locs 0 0 (MQ below (va_Qi (fun v F' => v = nI (md_kn kn 26) ∧ vSt g ad F' rs (clr kn 26) op fp lm me dp wh te nu en ∧ vFr Fz F') (hp_B g z0 N ad) (hp_A z0)) args s 0 0 (hp_A z0)) (F0 m 7 ls []) := by
  obtain ⟨hx, hb, hml, hown, hts⟩ := id S
  have in_kD : ∀ w ∈ u_ws R_D T_D 9, w ∈ ws_D_clear := fun w h => List.mem_cons_of_mem _ (in0_D w h)
  have in_kE : ∀ w ∈ u_ws R_E T_E 3, w ∈ ws_D_clear := fun w h => List.mem_cons_of_mem _ (in0_E w h)
  intro j
  induction j with
  | zero =>
    intro i F hi hj hS hfr H locs ls hW hl
    exact absurd hj (by omega)
  | succ j ih =>
    intro i F hi hj hS hfr H locs ls hW hl
    obtain ⟨fe, h7, h7b⟩ := hS.2.2.1
    refine lv_iload_n hx hb d_D_clear_7 rfl (lv_at hl 2 rfl) ?_
    refine lv_bipush (v := 26) hx hb d_D_clear_8 (by decide) ?_
    refine lv_icmp_ge (tgt := 29) hx hb d_D_clear_10 (by decide) (fun c_10 => ?_) (fun c_10 => ?_)
    · have c_10i := c_10
      replace c_10 : 26 ≤ i := (nI_leI (a := 26) (b := i) (by omega) (by omega)).mp c_10
      refine lv_iload_n hx hb d_D_clear_29 rfl (lv_at hl 1 rfl) ?_
      exact hp_reti S hK hW hr hlk d_D_clear_30 (⟨hx1, by rw [show (26 : Nat) = i by omega]; exact hS, hfr⟩)
    · have c_10i := c_10
      replace c_10 : ¬ 26 ≤ i := fun zz9 => c_10 ((nI_leI (a := 26) (b := i) (by omega) (by omega)).mpr zz9)
      refine lv_aload_n hx hb d_D_clear_13 rfl (lv_at hl 0 rfl) ?_
      refine hp_get S hK hW (0) (by omega) rfl hS.1 rfl in_kD 3 (by decide) (hts _ (List.mem_cons_of_mem _ tq_10)) rfl d_D_clear_14 ?_
      refine lv_iload_n hx hb d_D_clear_17 rfl (lv_at hl 2 rfl) ?_
      refine hp_aald S hK hW (7) 1 (by omega) rfl h7 rfl (vp_in_nI (by omega) (by omega)) d_D_clear_18 ?_
      rw [show fe ((nI i) : Int32).toNatClampNeg = some (ad (8 + 3 * i)) from (by rw [nI_clamp (by omega)]; exact h7b i (by omega)), va_rf_some]
      refine lv_iconst (v := 0) hx hb d_D_clear_19 (by decide) ?_
      refine hp_putN S hK hW (8 + 3 * i) (by omega) rfl (hS.2.2.2.1 i (by omega)) rfl in_kE tyok_E nm_E 1 (by decide) (List.mem_of_getElem? (i := 1) rfl) rfl rfl rfl (Nat.le_of_ble_eq_true rfl) d_D_clear_20 (fun H locs hW => ?_)
      obtain ⟨F_1, eF_1⟩ : ∃ z, z = va_up F (8 + 3 * i) (.inr (kE, [.ref (ad (9 + 3 * i)), .int 0, .int (b2 (op i))])) := ⟨_, rfl⟩
      replace hW : hp_W g z0 N ad F_1 s.heap H locs := by rw [eF_1]; exact hW
      have f_2 : F_1 (0) = .inr (kD, [.ref (ad 1), .ref (ad 3), .ref (ad 5), .ref (ad 7), .ref (ad 86), .int fp, .int lm, .int me, .int dp]) := by rw [eF_1, va_up_ne _ _ (by omega)]; exact hS.1
      have f_3 : F_1 (86) = .inr (kF, [.int wh, .int te, .int nu, .int en]) := by rw [eF_1, va_up_ne _ _ (by omega)]; exact hS.2.2.2.2
      have f_4 : F_1 (7) = .inl (g.2 1, 26, .inr (.inr (.inr (.inr fe)))) := by rw [eF_1, va_up_ne _ _ (by omega)]; exact h7
      have f_5 : F_1 (8 + 3 * i) = .inr (kE, [.ref (ad (9 + 3 * i)), .int 0, .int (b2 (op i))]) := by rw [eF_1, va_up_self]
      refine lv_iinc (v := (nI (i + 1))) (lv' := [(2, .int (nI (i + 1))), (0, .ref (ad 0)), (1, .int x1)]) hx hb d_D_clear_23 hl (k := 2) rfl ((nI_succ (i)).symm) (by decide) rfl (fun ls hl => ?_)
      refine lv_goto (tgt := 7) hx hb d_D_clear_26 (by decide) ?_
      have hS1 := hS.setEnt (k := i) (by omega) (u := false) (v := op i) f_5 (fun x hx => by rw [eF_1, va_up_ne _ _ hx])
      rw [clr_s, va_up_eta] at hS1
      exact ih (i + 1) F_1 (by omega) (by omega) hS1 (fun x hx => by rw [eF_1, va_up_ne _ _ (by omega)]; exact hfr x hx) H locs ls hW (lv_sub hl [1, 2, 0] rfl)

/-! clear() -/
set_option maxHeartbeats 400000 in
set_option maxRecDepth 100000 in
theorem c_clear (l : Launch) (g : hp_G) (z0 N : Nat) (ad : Nat → Nat) (F : Nat → va_E) (hN : 87 ≤ N) (rs : Nat → List Int32) (kn op : Nat → Bool) (fp lm me dp wh te nu en : Int32) (hS : vSt g ad F rs kn op fp lm me dp wh te nu en) : hp_Mi l g z0 N ad y_D_clear ws_D_clear (rk 1) [.ref (ad 0)] F (fun v F' => v = nI (md_kn kn 26) ∧ vSt g ad F' rs (clr kn 26) op fp lm me dp wh te nu en ∧ vFr F F') := by
  refine hp_enter (cc := cc_D_clear) (maxL := 3) (ret := (some .int)) (by decide) rfl (Nat.le_of_ble_eq_true rfl) ?_
  intro p e s m below meth c S hr hlk hnm hK hW ls hl
  have hl : lv_has ls 3 [(0, .ref (ad 0))] := hl
  obtain ⟨hx, hb, hml, hown, hts⟩ := id S
  have in_kD : ∀ w ∈ u_ws R_D T_D 9, w ∈ ws_D_clear := fun w h => List.mem_cons_of_mem _ (in0_D w h)
  refine lv_aload_n hx hb d_D_clear_0 rfl (lv_at hl 0 rfl) ?_
  refine hp_goi hW (va_runV S (c_known l g z0 N ad F hN rs kn op fp lm me dp wh te nu en hS) (cwV 0 hts (tb_V cd_D_known tq_53 tq_54 tq_55 tq_27) rfl rfl rfl hd_D_known (rk_ok (by omega) (by omega))) (hp_preV hK hW (by omega) rfl hS.1 rfl) rfl rfl hl.1 rfl (lv_room (Nat.le_of_ble_eq_true rfl)) d_D_clear_1 ⟨Nat.zero_le _, Nat.zero_le _⟩) (fun r_1 F_2 H locs hw hW => ?_)
  obtain ⟨hvq, hFq⟩ := hw
  rw [hFq] at hW
  rw [hvq]
  refine lv_istore_n (lv' := [(1, .int (nI (md_kn kn 26))), (0, .ref (ad 0))]) hx hb d_D_clear_4 rfl hl (by decide) rfl (fun ls hl => ?_)
  refine lv_iconst (v := 0) hx hb d_D_clear_5 (by decide) ?_
  refine lv_istore_n (lv' := [(2, .int 0), (1, .int (nI (md_kn kn 26))), (0, .ref (ad 0))]) hx hb d_D_clear_6 rfl hl (by decide) rfl (fun ls hl => ?_)
  exact lp_clear l g z0 N ad F hN rs kn op fp lm me dp wh te nu en _ rfl S hr hlk hK 27 0 F (by omega) (by omega) (by rw [clr_0]; exact hS) vFr.rf _ _ ls hW (lv_sub hl [2, 1, 0] rfl)

def md_ct (rs : Nat → List Int32) (kn : Nat → Bool) (me dp x : Int32) : Int32 := if x = 0 then nI (rs 1).length else if x = 1 then nI (md_kn kn 26) else if x = 2 then nI (rs 5).length else if x = 3 then me else if x = 4 then dp else -1
theorem ct_out {rs : Nat → List Int32} {kn : Nat → Bool} {me dp x : Int32} (h : x.toInt < 0 ∨ 4 < x.toInt) : md_ct rs kn me dp x = -1 := by
  have no : ∀ k : Int32, 0 ≤ k.toInt → k.toInt ≤ 4 → ¬ x = k := fun k h0 h4 e => by subst e; omega
  unfold md_ct
  rw [if_neg (no 0 (by decide) (by decide)), if_neg (no 1 (by decide) (by decide)), if_neg (no 2 (by decide) (by decide)), if_neg (no 3 (by decide) (by decide)), if_neg (no 4 (by decide) (by decide))]

/-! count(what) -/
set_option maxHeartbeats 400000 in
set_option maxRecDepth 100000 in
theorem c_count (l : Launch) (g : hp_G) (z0 N : Nat) (ad : Nat → Nat) (F : Nat → va_E) (hN : 87 ≤ N) (rs : Nat → List Int32) (kn op : Nat → Bool) (fp lm me dp wh te nu en : Int32) (hS : vSt g ad F rs kn op fp lm me dp wh te nu en) (x : Int32) : hp_Mi l g z0 N ad y_D_count ws_D_count (rk 1) [.ref (ad 0), .int x] F (fun v F' => v = md_ct rs kn me dp x ∧ F' = F) := by
  refine hp_enter (cc := cc_D_count) (maxL := 2) (ret := (some .int)) (by decide) rfl (Nat.le_of_ble_eq_true rfl) ?_
  intro p e s m below meth c S hr hlk hnm hK hW ls hl
  have hl : lv_has ls 2 [(0, .ref (ad 0)), (1, .int x)] := hl
  obtain ⟨hx, hb, hml, hown, hts⟩ := id S
  have in_kD : ∀ w ∈ u_ws R_D T_D 9, w ∈ ws_D_count := fun w h => List.mem_cons_of_mem _ (in0_D w h)
  refine lv_iload_n hx hb d_D_count_0 rfl (lv_at hl 1 rfl) ?_
  rcases i5 x with rfl | rfl | rfl | rfl | rfl | hx5
  · refine lv_tableIn (tgt := 36) hx hb d_D_count_1 (by decide) (by decide) rfl (by decide) ?_
    refine lv_aload_n hx hb d_D_count_36 rfl (lv_at hl 0 rfl) ?_
    refine hp_get S hK hW (0) (by omega) rfl hS.1 rfl in_kD 0 (by decide) (hts _ (List.mem_cons_of_mem _ tq_6)) rfl d_D_count_37 ?_
    refine hp_goi hW (va_runV S (s_size l g z0 N ad F hN rs kn op fp lm me dp wh te nu en hS 1 rowp_1) (cwV 0 hts (tb_V cd_R_size tq_20 tq_21 tq_22 tq_3) rfl rfl rfl hd_R_size (rk_ok (by omega) (by omega))) (hp_preV hK hW (by omega) rfl (hS.row rowp_1).obj rfl) rfl rfl hl.1 rfl (lv_room (Nat.le_of_ble_eq_true rfl)) d_D_count_40 ⟨Nat.zero_le _, Nat.zero_le _⟩) (fun r_1 F_2 H locs hw hW => ?_)
    obtain ⟨hvq, hFq⟩ := hw
    rw [hFq] at hW
    rw [hvq]
    exact hp_reti S hK hW hr hlk d_D_count_43 (⟨rfl, rfl⟩)
  · refine lv_tableIn (tgt := 44) hx hb d_D_count_1 (by decide) (by decide) rfl (by decide) ?_
    refine lv_aload_n hx hb d_D_count_44 rfl (lv_at hl 0 rfl) ?_
    refine hp_goi hW (va_runV S (c_known l g z0 N ad F hN rs kn op fp lm me dp wh te nu en hS) (cwV 0 hts (tb_V cd_D_known tq_53 tq_54 tq_55 tq_27) rfl rfl rfl hd_D_known (rk_ok (by omega) (by omega))) (hp_preV hK hW (by omega) rfl hS.1 rfl) rfl rfl hl.1 rfl (lv_room (Nat.le_of_ble_eq_true rfl)) d_D_count_45 ⟨Nat.zero_le _, Nat.zero_le _⟩) (fun r_3 F_4 H locs hw hW => ?_)
    obtain ⟨hvq, hFq⟩ := hw
    rw [hFq] at hW
    rw [hvq]
    exact hp_reti S hK hW hr hlk d_D_count_48 (⟨rfl, rfl⟩)
  · refine lv_tableIn (tgt := 49) hx hb d_D_count_1 (by decide) (by decide) rfl (by decide) ?_
    refine lv_aload_n hx hb d_D_count_49 rfl (lv_at hl 0 rfl) ?_
    refine hp_get S hK hW (0) (by omega) rfl hS.1 rfl in_kD 2 (by decide) (hts _ (List.mem_cons_of_mem _ tq_8)) rfl d_D_count_50 ?_
    refine hp_goi hW (va_runV S (s_size l g z0 N ad F hN rs kn op fp lm me dp wh te nu en hS 5 rowp_5) (cwV 0 hts (tb_V cd_R_size tq_20 tq_21 tq_22 tq_3) rfl rfl rfl hd_R_size (rk_ok (by omega) (by omega))) (hp_preV hK hW (by omega) rfl (hS.row rowp_5).obj rfl) rfl rfl hl.1 rfl (lv_room (Nat.le_of_ble_eq_true rfl)) d_D_count_53 ⟨Nat.zero_le _, Nat.zero_le _⟩) (fun r_5 F_6 H locs hw hW => ?_)
    obtain ⟨hvq, hFq⟩ := hw
    rw [hFq] at hW
    rw [hvq]
    exact hp_reti S hK hW hr hlk d_D_count_56 (⟨rfl, rfl⟩)
  · refine lv_tableIn (tgt := 57) hx hb d_D_count_1 (by decide) (by decide) rfl (by decide) ?_
    refine lv_aload_n hx hb d_D_count_57 rfl (lv_at hl 0 rfl) ?_
    refine hp_get S hK hW (0) (by omega) rfl hS.1 rfl in_kD 7 (by decide) (hts _ (List.mem_cons_of_mem _ tq_41)) rfl d_D_count_58 ?_
    exact hp_reti S hK hW hr hlk d_D_count_61 (⟨rfl, rfl⟩)
  · refine lv_tableIn (tgt := 62) hx hb d_D_count_1 (by decide) (by decide) rfl (by decide) ?_
    refine lv_aload_n hx hb d_D_count_62 rfl (lv_at hl 0 rfl) ?_
    refine hp_get S hK hW (0) (by omega) rfl hS.1 rfl in_kD 8 (by decide) (hts _ (List.mem_cons_of_mem _ tq_42)) rfl d_D_count_63 ?_
    exact hp_reti S hK hW hr hlk d_D_count_66 (⟨rfl, rfl⟩)
  · refine lv_tableOut (tgt := 67) hx hb d_D_count_1 hx5 (by decide) ?_
    refine lv_iconst (v := (-1)) hx hb d_D_count_67 (by decide) ?_
    exact hp_reti S hK hW hr hlk d_D_count_68 (⟨(ct_out hx5).symm, rfl⟩)
end
section
set_option maxHeartbeats 400000 in
set_option maxRecDepth 100000 in
theorem lp_put {p : Program} {e : Env} {s : State} {m : MethodId} {args : Array Value} {below : List Frame} {meth : Method} {c : Code} (l : Launch) (g : hp_G) (z0 N : Nat) (ad : Nat → Nat) (Fz : Nat → va_E) (hN : 87 ≤ N) (rs : Nat → List Int32) (kn op : Nat → Bool) (fp lm me dp wh te nu en : Int32) (v : Int64) (x3 : Int32) (ys : List Int32) (S : CallFix p m c cc_D_put 5 s args ws_D_put R_D) (hr : meth.sig.returnType = (some .boolean)) (hlk : meth.locks = false) (hK : hp_K g s) : ∀ (t : Nat) (F : Nat → va_E) (zs : List Int32), zs.length + t ≤ 200 → vSt g ad F (va_up rs 1 zs) kn op fp lm me dp wh te nu en → zs ++ md_bytes v t = ys → vFr Fz F → ∀ (H : Heap) (locs : List Loc) (ls : Array Slot), hp_W g z0 N ad F s.heap H locs → lv_has ls 5 [(0, .ref (ad 0)), (1, .long v), (3, .int x3), (4, .int (nI t + (-1)))] → W p l e (rk 1) s m args below meth c H locs 0 0 (MQ below (va_Qi (fun b F' => b = 1 ∧ vSt g ad F' (va_up rs 1 ys) kn op fp lm me dp wh te nu en ∧ vFr Fz F') (hp_B g z0 N ad) (hp_A z0)) args s 0 0 (hp_A z0)) (F0 m 33 ls []) := by
  obtain ⟨hx, hb, hml, hown, hts⟩ := id S
  have in_kD : ∀ w ∈ u_ws R_D T_D 9, w ∈ ws_D_put := fun w h => List.mem_cons_of_mem _ (in0_D w h)
  intro t
  induction t with
  | zero =>
    intro F zs hz hS hcat hfr H locs ls hW hl
    have hcat : zs = ys := by rw [← hcat]; simp [md_bytes]
    subst hcat
    refine lv_iload hx hb d_D_put_33 (lv_at hl 3 rfl) ?_
    refine lv_if_lt (tgt := 64) hx hb d_D_put_35 (by decide) (fun c_35 => ?_) (fun c_35 => absurd (show ((nI 0 + (-1)) : Int32) < 0 from by decide) c_35)
    refine lv_iconst (v := 1) hx hb d_D_put_64 (by decide) ?_
    exact hp_retz S hK hW hr hlk rfl d_D_put_65 (⟨rfl, hS, hfr⟩)
  | succ t ih =>
    intro F zs hz hS hcat hfr H locs ls hW hl
    rw [pk_m1] at hl
    refine lv_iload hx hb d_D_put_33 (lv_at hl 3 rfl) ?_
    refine lv_if_lt (tgt := 64) hx hb d_D_put_35 (by decide) (fun c_35 => absurd c_35 (show ¬ (((nI t) : Int32) < 0) from nI_pos (by omega))) (fun c_35 => ?_)
    refine lv_aload_n hx hb d_D_put_38 rfl (lv_at hl 0 rfl) ?_
    refine hp_get S hK hW (0) (by omega) rfl hS.1 rfl in_kD 0 (by decide) (hts _ (List.mem_cons_of_mem _ tq_6)) rfl d_D_put_39 ?_
    refine lv_lload_n hx hb d_D_put_42 rfl (lv_at hl 1 rfl) ?_
    refine lv_bipush (v := 8) hx hb d_D_put_43 (by decide) ?_
    refine lv_iload hx hb d_D_put_45 (lv_at hl 3 rfl) ?_
    refine lv_imul hx hb d_D_put_47 ?_
    refine lv_lushr hx hb d_D_put_48 rfl ?_
    refine lv_l2i hx hb d_D_put_49 rfl ?_
    refine lv_sipush (v := 255) hx hb d_D_put_50 (by decide) ?_
    refine lv_iand hx hb d_D_put_53 ?_
    rw [show (((v.toUInt64 >>> ((8 * (nI t)).toInt64.toUInt64 &&& Int64.toUInt64 63)).toInt64).toInt32 &&& 255) = (md_byte v t) from rfl]
    refine hp_goi hW (va_runV S (s_add l g z0 N ad F hN (va_up rs 1 zs) kn op fp lm me dp wh te nu en hS 1 rowp_1 (md_byte v t)) (cwV 1 hts (tb_V cd_R_add tq_23 tq_24 tq_25 tq_3) rfl rfl rfl hd_R_add (rk_ok (by omega) (by omega))) (hp_preV hK hW (by omega) rfl (hS.row rowp_1).obj rfl) rfl rfl hl.1 rfl (lv_room (Nat.le_of_ble_eq_true rfl)) d_D_put_54 ⟨Nat.zero_le _, Nat.zero_le _⟩) (fun r_1 F_2 H locs hw hW => ?_)
    obtain ⟨hv1, hS1, hf1⟩ := hw
    rw [hv1]
    refine lv_pop hx hb d_D_put_57 rfl ?_
    refine lv_iinc (v := ((nI t) + (-1))) (lv' := [(4, .int ((nI t) + (-1))), (0, .ref (ad 0)), (1, .long v), (3, .int x3)]) hx hb d_D_put_58 hl (k := 3) rfl (rfl) (by decide) rfl (fun ls hl => ?_)
    refine lv_goto (tgt := 33) hx hb d_D_put_61 (by decide) ?_
    have hX : (md_ad (cap 1) ((va_up rs 1 zs) 1) (md_byte v t)) = (zs ++ [(md_byte v t)], 0) := by rw [va_up_self]; exact if_pos (by rw [cap_1]; omega)
    rw [hX, up_up] at hS1
    exact ih F_2 (zs ++ [(md_byte v t)]) (by rw [List.length_append, List.length_singleton]; omega) hS1 (by rw [← hcat, md_bytes_s]; simp) (hfr.tr hf1) H locs ls hW (lv_sub hl [1, 2, 3, 0] rfl)

/-! put(v, k), 0 < k < 9 -/
set_option maxHeartbeats 400000 in
set_option maxRecDepth 100000 in
theorem c_put_in (l : Launch) (g : hp_G) (z0 N : Nat) (ad : Nat → Nat) (F : Nat → va_E) (hN : 87 ≤ N) (rs : Nat → List Int32) (kn op : Nat → Bool) (fp lm me dp wh te nu en : Int32) (hS : vSt g ad F rs kn op fp lm me dp wh te nu en) (v : Int64) (k : Nat) (hk1 : 1 ≤ k) (hk8 : k ≤ 8) : hp_Mi l g z0 N ad y_D_put ws_D_put (rk 1) [.ref (ad 0), .long v, .int (nI k)] F (fun b F' => b = b2 (decide (1 ≤ k ∧ k ≤ 8 ∧ (rs 1).length + k ≤ 200)) ∧ vSt g ad F' (if 1 ≤ k ∧ k ≤ 8 ∧ (rs 1).length + k ≤ 200 then va_up rs 1 (rs 1 ++ md_bytes v k) else rs) kn op fp lm me dp wh te nu en ∧ vFr F F') := by
  have hlen := (hS.row rowp_1).len
  rw [cap_1] at hlen
  refine hp_enter (cc := cc_D_put) (maxL := 5) (ret := (some .boolean)) (by decide) rfl (Nat.le_of_ble_eq_true rfl) ?_
  intro p e s m below meth c S hr hlk hnm hK hW ls hl
  have hl : lv_has ls 5 [(0, .ref (ad 0)), (1, .long v), (3, .int (nI k))] := hl
  obtain ⟨hx, hb, hml, hown, hts⟩ := id S
  have in_kD : ∀ w ∈ u_ws R_D T_D 9, w ∈ ws_D_put := fun w h => List.mem_cons_of_mem _ (in0_D w h)
  refine lv_iload_n hx hb d_D_put_0 rfl (lv_at hl 2 rfl) ?_
  refine lv_iconst (v := 1) hx hb d_D_put_1 (by decide) ?_
  refine lv_icmp_lt (tgt := 26) hx hb d_D_put_2 (by decide) (fun c_2 => absurd c_2 (show ¬ (((nI k) : Int32) < 1) from nI_nlt (b := 1) hk1 (by omega))) (fun c_2 => ?_)
  refine lv_iload_n hx hb d_D_put_5 rfl (lv_at hl 2 rfl) ?_
  refine lv_bipush (v := 8) hx hb d_D_put_6 (by decide) ?_
  refine lv_icmp_gt (tgt := 26) hx hb d_D_put_8 (by decide) (fun c_8 => absurd c_8 (show ¬ (8 < ((nI k) : Int32)) from nI_nlt (a := 8) hk8 (by omega))) (fun c_8 => ?_)
  refine lv_aload_n hx hb d_D_put_11 rfl (lv_at hl 0 rfl) ?_
  refine hp_get S hK hW (0) (by omega) rfl hS.1 rfl in_kD 0 (by decide) (hts _ (List.mem_cons_of_mem _ tq_6)) rfl d_D_put_12 ?_
  refine hp_goi hW (va_runV S (s_size l g z0 N ad F hN rs kn op fp lm me dp wh te nu en hS 1 rowp_1) (cwV 0 hts (tb_V cd_R_size tq_20 tq_21 tq_22 tq_3) rfl rfl rfl hd_R_size (rk_ok (by omega) (by omega))) (hp_preV hK hW (by omega) rfl (hS.row rowp_1).obj rfl) rfl rfl hl.1 rfl (lv_room (Nat.le_of_ble_eq_true rfl)) d_D_put_15 ⟨Nat.zero_le _, Nat.zero_le _⟩) (fun r_1 F_2 H locs hw hW => ?_)
  obtain ⟨hvq, hFq⟩ := hw
  rw [hFq] at hW
  rw [hvq]
  refine lv_iload_n hx hb d_D_put_18 rfl (lv_at hl 2 rfl) ?_
  refine lv_iadd hx hb d_D_put_19 ?_
  rw [show ((nI (rs 1).length) + (nI k)) = (nI ((rs 1).length + k)) from nI_add _ _]
  refine lv_sipush (v := 200) hx hb d_D_put_20 (by decide) ?_
  refine lv_icmp_le (tgt := 28) hx hb d_D_put_23 (by decide) (fun c_23 => ?_) (fun c_23 => ?_)
  · have c_23i := c_23
    replace c_23 : ((rs 1).length + k) ≤ 200 := (nI_leI (a := ((rs 1).length + k)) (b := 200) (by omega) (by omega)).mp c_23
    refine lv_iload_n hx hb d_D_put_28 rfl (lv_at hl 2 rfl) ?_
    refine lv_iconst (v := 1) hx hb d_D_put_29 (by decide) ?_
    refine lv_isub hx hb d_D_put_30 ?_
    refine lv_istore (lv' := [(4, .int ((nI k) - 1)), (0, .ref (ad 0)), (1, .long v), (3, .int (nI k))]) hx hb d_D_put_31 hl (by decide) rfl (fun ls hl => ?_)
    rw [show nI k - 1 = nI k + (-1) from Int32.sub_eq_add_neg _ _] at hl
    have hok : 1 ≤ k ∧ k ≤ 8 ∧ (rs 1).length + k ≤ 200 := ⟨by omega, by omega, by omega⟩
    rw [if_pos hok, decide_eq_true hok]
    exact lp_put l g z0 N ad F hN rs kn op fp lm me dp wh te nu en v _ _ S hr hlk hK k F (rs 1) (by omega) (by rw [va_up_eta]; exact hS) rfl vFr.rf _ _ ls hW (lv_sub hl [1, 2, 3, 0] rfl)
  · have c_23i := c_23
    replace c_23 : ¬ ((rs 1).length + k) ≤ 200 := fun zz9 => c_23 ((nI_leI (a := ((rs 1).length + k)) (b := 200) (by omega) (by omega)).mpr zz9)
    refine lv_iconst (v := 0) hx hb d_D_put_26 (by decide) ?_
    exact hp_retz S hK hW hr hlk rfl d_D_put_27 (by have hno : ¬ (1 ≤ k ∧ k ≤ 8 ∧ (rs 1).length + k ≤ 200) := (by omega); rw [if_neg hno, decide_eq_false hno]; exact ⟨rfl, hS, vFr.rf⟩)

/-! put(v, n), another n -/
set_option maxHeartbeats 400000 in
set_option maxRecDepth 100000 in
theorem c_put_out (l : Launch) (g : hp_G) (z0 N : Nat) (ad : Nat → Nat) (F : Nat → va_E) (hN : 87 ≤ N) (rs : Nat → List Int32) (kn op : Nat → Bool) (fp lm me dp wh te nu en : Int32) (hS : vSt g ad F rs kn op fp lm me dp wh te nu en) (v : Int64) (n : Int32) (hn : n < 1 ∨ 8 < n) : hp_Mi l g z0 N ad y_D_put ws_D_put (rk 1) [.ref (ad 0), .long v, .int n] F (fun b F' => b = 0 ∧ F' = F) := by
  refine hp_enter (cc := cc_D_put) (maxL := 5) (ret := (some .boolean)) (by decide) rfl (Nat.le_of_ble_eq_true rfl) ?_
  intro p e s m below meth c S hr hlk hnm hK hW ls hl
  have hl : lv_has ls 5 [(0, .ref (ad 0)), (1, .long v), (3, .int n)] := hl
  obtain ⟨hx, hb, hml, hown, hts⟩ := id S
  have in_kD : ∀ w ∈ u_ws R_D T_D 9, w ∈ ws_D_put := fun w h => List.mem_cons_of_mem _ (in0_D w h)
  refine lv_iload_n hx hb d_D_put_0 rfl (lv_at hl 2 rfl) ?_
  refine lv_iconst (v := 1) hx hb d_D_put_1 (by decide) ?_
  refine lv_icmp_lt (tgt := 26) hx hb d_D_put_2 (by decide) (fun c_2 => ?_) (fun c_2 => ?_)
  · have c_2i := c_2
    have c_2j := Int32.not_le.mpr c_2
    refine lv_iconst (v := 0) hx hb d_D_put_26 (by decide) ?_
    exact hp_retz S hK hW hr hlk rfl d_D_put_27 (⟨rfl, rfl⟩)
  · have c_2i := c_2
    have c_2j := Int32.not_lt.mp c_2
    refine lv_iload_n hx hb d_D_put_5 rfl (lv_at hl 2 rfl) ?_
    refine lv_bipush (v := 8) hx hb d_D_put_6 (by decide) ?_
    refine lv_icmp_gt (tgt := 26) hx hb d_D_put_8 (by decide) (fun c_8 => ?_) (fun c_8 => ?_)
    · have c_8i := c_8
      have c_8j := Int32.not_le.mpr c_8
      refine lv_iconst (v := 0) hx hb d_D_put_26 (by decide) ?_
      exact hp_retz S hK hW hr hlk rfl d_D_put_27 (⟨rfl, rfl⟩)
    · have c_8i := c_8
      have c_8j := Int32.not_lt.mp c_8
      exact absurd hn (by rintro (h | h); exact c_2i h; exact c_8i h)
end
section
theorem take_s {xs : List Int32} {t : Nat} (h : t < xs.length) : xs.take t ++ [md_at xs t] = xs.take (t + 1) := by
  rw [md_at_lt h]
  exact List.take_append_getElem h

/-! learn: its loop -/
set_option maxHeartbeats 400000 in
set_option maxRecDepth 100000 in
theorem lp_learn {p : Program} {e : Env} {s : State} {m : MethodId} {args : Array Value} {below : List Frame} {meth : Method} {c : Code} (l : Launch) (g : hp_G) (z0 N : Nat) (ad : Nat → Nat)  (Fz : Nat → va_E) (hN : 87 ≤ N) (rs : Nat → List Int32) (kn op : Nat → Bool) (fp lm me dp wh te nu en : Int32) (i : Nat) (hi : i < 26) (hlen : (rs 3).length ≤ 100) (S : CallFix p m c cc_E_learn 3 s args ws_E_learn R_E) (hr : meth.sig.returnType = none) (hlk : meth.locks = false) (hK : hp_K g s) : ∀ (j : Nat) (t : Nat) (F : Nat → va_E), t ≤ (rs 3).length → (rs 3).length + 1 ≤ t + j → vSt g ad F (va_up rs (9 + 3 * i) ((rs 3).take t)) kn op fp lm me dp wh te nu en → vFr Fz F → ∀ (H : Heap) (locs : List Loc) (ls : Array Slot), hp_W g z0 N ad F s.heap H locs → lv_has ls 3 [(0, .ref (ad (8 + 3 * i))), (1, .ref (ad 3)), (2, .int (nI t))] → W p l e (rk 1) s m args below meth c H locs 0 0 (MQ below (va_Qv (fun F' => vSt g ad F' (va_up rs (9 + 3 * i) (rs 3)) (va_up kn i true) op fp lm me dp wh te nu en ∧ vFr Fz F') (hp_B g z0 N ad) (hp_A z0)) args s 0 0 (hp_A z0)) (F0 m 9 ls []) := by
  obtain ⟨hx, hb, hml, hown, hts⟩ := id S
  have in_kE : ∀ w ∈ u_ws R_E T_E 3, w ∈ ws_E_learn := fun w h => List.mem_cons_of_mem _ (in0_E w h)
  have in_kR : ∀ w ∈ u_ws R_R T_R 2, w ∈ ws_E_learn := fun w h => List.mem_cons_of_mem _ (in0_R w h)
  intro j
  induction j with
  | zero =>
    intro t F ht hj hS hfr H locs ls hW hl
    exact absurd hj (by omega)
  | succ j ih =>
    intro t F ht hj hS hfr H locs ls hW hl
    refine lv_iload_n hx hb d_E_learn_9 rfl (lv_at hl 2 rfl) ?_
    refine lv_aload_n hx hb d_E_learn_10 rfl (lv_at hl 1 rfl) ?_
    refine hp_goi hW (va_runV S (s_size l g z0 N ad F hN (va_up rs (9 + 3 * i) ((rs 3).take t)) kn op fp lm me dp wh te nu en hS 3 rowp_3) (cwV 0 hts (tb_V cd_R_size tq_170 tq_21 tq_22 tq_3) rfl rfl rfl hd_R_size (rk_ok (by omega) (by omega))) (hp_preV hK hW (by omega) rfl (hS.row rowp_3).obj rfl) rfl rfl hl.1 rfl (lv_room (Nat.le_of_ble_eq_true rfl)) d_E_learn_11 ⟨Nat.zero_le _, Nat.zero_le _⟩) (fun r_1 F_2 H locs hw hW => ?_)
    obtain ⟨hvq, hFq⟩ := hw
    rw [hFq] at hW
    rw [hvq]
    rw [(show (va_up rs (9 + 3 * i) ((rs 3).take t)) 3 = rs 3 from va_up_ne _ _ (by omega))]
    refine lv_icmp_ge (tgt := 36) hx hb d_E_learn_14 (by decide) (fun c_14 => ?_) (fun c_14 => ?_)
    · have c_14i := c_14
      replace c_14 : (rs 3).length ≤ t := (nI_leI (a := (rs 3).length) (b := t) (by omega) (by omega)).mp c_14
      refine lv_aload_n hx hb d_E_learn_36 rfl (lv_at hl 0 rfl) ?_
      refine lv_iconst (v := 1) hx hb d_E_learn_37 (by decide) ?_
      refine hp_put S hK hW (8 + 3 * i) (by omega) rfl (hS.2.2.2.1 i hi) rfl in_kE tyok_E nm_E 1 (by decide) (hts _ (List.mem_cons_of_mem _ tq_173)) rfl rfl rfl (Nat.le_of_ble_eq_true rfl) d_E_learn_38 (fun H locs hW => ?_)
      obtain ⟨F_3, eF_3⟩ : ∃ z, z = va_up F (8 + 3 * i) (.inr (kE, [.ref (ad (9 + 3 * i)), .int 1, .int (b2 (op i))])) := ⟨_, rfl⟩
      replace hW : hp_W g z0 N ad F_3 s.heap H locs := by rw [eF_3]; exact hW
      have f_4 : F_3 (8 + 3 * i) = .inr (kE, [.ref (ad (9 + 3 * i)), .int 1, .int (b2 (op i))]) := by rw [eF_3, va_up_self]
      have f_5 : F_3 (3) = .inr (kR, [.ref (ad (3 + 1)), .int (nI ((va_up rs (9 + 3 * i) ((rs 3).take t)) (3)).length)]) := by rw [eF_3, va_up_ne _ _ (by omega)]; exact (hS.row rowp_3).obj
      have f_6 : F_3 (9 + 3 * i) = .inr (kR, [.ref (ad (9 + 3 * i + 1)), .int (nI ((va_up rs (9 + 3 * i) ((rs 3).take t)) (9 + 3 * i)).length)]) := by rw [eF_3, va_up_ne _ _ (by omega)]; exact (hS.row (rowp_e hi)).obj
      have et : t = (rs 3).length := by omega
      subst et
      exact hp_retv S hK hW hr hlk d_E_learn_41 (⟨by have := hS.setEnt (k := i) hi (u := true) (v := op i) f_4 (fun x hx => by rw [eF_3, va_up_ne _ _ hx]); rw [va_up_eta, List.take_length] at this; exact this, hfr.tr (fun x hx => by rw [eF_3, va_up_ne _ _ (by omega)])⟩)
    · have c_14i := c_14
      replace c_14 : ¬ (rs 3).length ≤ t := fun zz9 => c_14 ((nI_leI (a := (rs 3).length) (b := t) (by omega) (by omega)).mpr zz9)
      refine lv_aload_n hx hb d_E_learn_17 rfl (lv_at hl 0 rfl) ?_
      refine hp_get S hK hW (8 + 3 * i) (by omega) rfl (hS.2.2.2.1 i hi) rfl in_kE 0 (by decide) (hts _ (List.mem_cons_of_mem _ tq_168)) rfl d_E_learn_18 ?_
      refine lv_aload_n hx hb d_E_learn_21 rfl (lv_at hl 1 rfl) ?_
      refine lv_iload_n hx hb d_E_learn_22 rfl (lv_at hl 2 rfl) ?_
      refine hp_goi hW (va_runV S (s_at l g z0 N ad F hN (va_up rs (9 + 3 * i) ((rs 3).take t)) kn op fp lm me dp wh te nu en hS 3 rowp_3 t (by omega)) (cwV 1 hts (tb_V cd_R_at tq_171 tq_60 tq_61 tq_3) rfl rfl rfl hd_R_at (rk_ok (by omega) (by omega))) (hp_preV hK hW (by omega) rfl (hS.row rowp_3).obj rfl) rfl rfl hl.1 rfl (lv_room (Nat.le_of_ble_eq_true rfl)) d_E_learn_23 ⟨Nat.zero_le _, Nat.zero_le _⟩) (fun r_7 F_8 H locs hw hW => ?_)
      obtain ⟨hvq, hFq⟩ := hw
      rw [hFq] at hW
      rw [hvq]
      rw [(show (va_up rs (9 + 3 * i) ((rs 3).take t)) 3 = rs 3 from va_up_ne _ _ (by omega))]
      refine hp_goi hW (va_runV S (s_add l g z0 N ad F hN (va_up rs (9 + 3 * i) ((rs 3).take t)) kn op fp lm me dp wh te nu en hS (9 + 3 * i) (rowp_e hi) (md_at (rs 3) t)) (cwV 1 hts (tb_V cd_R_add tq_172 tq_24 tq_25 tq_3) rfl rfl rfl hd_R_add (rk_ok (by omega) (by omega))) (hp_preV hK hW (by omega) rfl (hS.row (rowp_e hi)).obj rfl) rfl rfl hl.1 rfl (lv_room (Nat.le_of_ble_eq_true rfl)) d_E_learn_26 ⟨Nat.zero_le _, Nat.zero_le _⟩) (fun r_9 F_10 H locs hw hW => ?_)
      obtain ⟨hv1, hS1, hf1⟩ := hw
      rw [hv1]
      refine lv_pop hx hb d_E_learn_29 rfl ?_
      refine lv_iinc (v := (nI (t + 1))) (lv' := [(2, .int (nI (t + 1))), (0, .ref (ad (8 + 3 * i))), (1, .ref (ad 3))]) hx hb d_E_learn_30 hl (k := 2) rfl ((nI_succ (t)).symm) (by decide) rfl (fun ls hl => ?_)
      refine lv_goto (tgt := 9) hx hb d_E_learn_33 (by decide) ?_
      have hX : (md_ad (cap (9 + 3 * i)) ((va_up rs (9 + 3 * i) ((rs 3).take t)) (9 + 3 * i)) (md_at (rs 3) t)) = ((rs 3).take (t + 1), 0) := by rw [va_up_self, cap_e]; exact (if_pos (by rw [List.length_take]; omega)).trans (by rw [take_s (by omega)])
      rw [hX, up_up] at hS1
      exact ih (t + 1) F_10 (by omega) (by omega) hS1 (hfr.tr hf1) H locs ls hW (lv_sub hl [1, 2, 0] rfl)

/-! Entity.learn(draft) -/
set_option maxHeartbeats 400000 in
set_option maxRecDepth 100000 in
theorem c_learn (l : Launch) (g : hp_G) (z0 N : Nat) (ad : Nat → Nat) (F : Nat → va_E) (hN : 87 ≤ N) (rs : Nat → List Int32) (kn op : Nat → Bool) (fp lm me dp wh te nu en : Int32) (hS : vSt g ad F rs kn op fp lm me dp wh te nu en) (i : Nat) (hi : i < 26) (hlen : (rs 3).length ≤ 100) : hp_Mv l g z0 N ad y_E_learn ws_E_learn (rk 1) [.ref (ad (8 + 3 * i)), .ref (ad 3)] F (fun F' => vSt g ad F' (va_up rs (9 + 3 * i) (rs 3)) (va_up kn i true) op fp lm me dp wh te nu en ∧ vFr F F') := by
  refine hp_enter (cc := cc_E_learn) (maxL := 3) (ret := none) (by decide) rfl (Nat.le_of_ble_eq_true rfl) ?_
  intro p e s m below meth c S hr hlk hnm hK hW ls hl
  have hl : lv_has ls 3 [(0, .ref (ad (8 + 3 * i))), (1, .ref (ad 3))] := hl
  obtain ⟨hx, hb, hml, hown, hts⟩ := id S
  have in_kE : ∀ w ∈ u_ws R_E T_E 3, w ∈ ws_E_learn := fun w h => List.mem_cons_of_mem _ (in0_E w h)
  have in_kR : ∀ w ∈ u_ws R_R T_R 2, w ∈ ws_E_learn := fun w h => List.mem_cons_of_mem _ (in0_R w h)
  refine lv_aload_n hx hb d_E_learn_0 rfl (lv_at hl 0 rfl) ?_
  refine hp_get S hK hW (8 + 3 * i) (by omega) rfl (hS.2.2.2.1 i hi) rfl in_kE 0 (by decide) (hts _ (List.mem_cons_of_mem _ tq_168)) rfl d_E_learn_1 ?_
  refine hp_gov hW (va_runV S (s_empty l g z0 N ad F hN rs kn op fp lm me dp wh te nu en hS (9 + 3 * i) (rowp_e hi)) (cwV 0 hts (tb_V cd_R_empty tq_169 tq_34 tq_35 tq_3) rfl rfl rfl hd_R_empty (rk_ok (by omega) (by omega))) (hp_preV hK hW (by omega) rfl (hS.row (rowp_e hi)).obj rfl) rfl rfl hl.1 rfl (lv_room (Nat.le_of_ble_eq_true rfl)) d_E_learn_4 ⟨Nat.zero_le _, Nat.zero_le _⟩) (fun F_2 H locs hw hW => ?_)
  obtain ⟨hS1, hf1⟩ := hw
  refine lv_iconst (v := 0) hx hb d_E_learn_7 (by decide) ?_
  refine lv_istore_n (lv' := [(2, .int 0), (0, .ref (ad (8 + 3 * i))), (1, .ref (ad 3))]) hx hb d_E_learn_8 rfl hl (by decide) rfl (fun ls hl => ?_)
  exact lp_learn l g z0 N ad F hN rs kn op fp lm me dp wh te nu en i hi hlen S hr hlk hK ((rs 3).length + 1) 0 F_2 (by omega) (by omega) (by rw [List.take_zero]; exact hS1) hf1 _ _ ls hW (lv_sub hl [1, 2, 0] rfl)

/-! draftByte(q) -/
set_option maxHeartbeats 400000 in
set_option maxRecDepth 100000 in
theorem c_draftByte (l : Launch) (g : hp_G) (z0 N : Nat) (ad : Nat → Nat) (F : Nat → va_E) (hN : 87 ≤ N) (rs : Nat → List Int32) (kn op : Nat → Bool) (fp lm me dp wh te nu en : Int32) (hS : vSt g ad F rs kn op fp lm me dp wh te nu en) (q : Nat) (hq : q < 1000) : hp_Mi l g z0 N ad y_D_draftByte ws_D_draftByte (rk 2) [.ref (ad 0), .int (nI q)] F (fun v F' => v = nI (if md_ch (md_at (rs 1) q) = true then md_ad 100 (rs 3) (md_at (rs 1) q) else (rs 3, 1)).2 ∧ vSt g ad F' (va_up rs 3 (if md_ch (md_at (rs 1) q) = true then md_ad 100 (rs 3) (md_at (rs 1) q) else (rs 3, 1)).1) kn op (pf (if md_ch (md_at (rs 1) q) = true then md_ad 100 (rs 3) (md_at (rs 1) q) else (rs 3, 1)).2 fp (nI q)) lm me dp wh te nu en ∧ vFr F F') := by
  refine hp_enter (cc := cc_D_draftByte) (maxL := 3) (ret := (some .int)) (by decide) rfl (Nat.le_of_ble_eq_true rfl) ?_
  intro p e s m below meth c S hr hlk hnm hK hW ls hl
  have hl : lv_has ls 3 [(0, .ref (ad 0)), (1, .int (nI q))] := hl
  obtain ⟨hx, hb, hml, hown, hts⟩ := id S
  have in_kD : ∀ w ∈ u_ws R_D T_D 9, w ∈ ws_D_draftByte := fun w h => List.mem_cons_of_mem _ (in0_D w h)
  refine lv_aload_n hx hb d_D_draftByte_0 rfl (lv_at hl 0 rfl) ?_
  refine hp_get S hK hW (0) (by omega) rfl hS.1 rfl in_kD 0 (by decide) (hts _ (List.mem_cons_of_mem _ tq_6)) rfl d_D_draftByte_1 ?_
  refine lv_iload_n hx hb d_D_draftByte_4 rfl (lv_at hl 1 rfl) ?_
  refine hp_goi hW (va_runV S (s_at l g z0 N ad F hN rs kn op fp lm me dp wh te nu en hS 1 rowp_1 q (by omega)) (cwV 1 hts (tb_V cd_R_at tq_59 tq_60 tq_61 tq_3) rfl rfl rfl hd_R_at (rk_ok (by omega) (by omega))) (hp_preV hK hW (by omega) rfl (hS.row rowp_1).obj rfl) rfl rfl hl.1 rfl (lv_room (Nat.le_of_ble_eq_true rfl)) d_D_draftByte_5 ⟨Nat.zero_le _, Nat.zero_le _⟩) (fun r_1 F_2 H locs hw hW => ?_)
  obtain ⟨hvq, hFq⟩ := hw
  rw [hFq] at hW
  rw [hvq]
  refine lv_istore_n (lv' := [(2, .int (md_at (rs 1) q)), (0, .ref (ad 0)), (1, .int (nI q))]) hx hb d_D_draftByte_8 rfl hl (by decide) rfl (fun ls hl => ?_)
  refine lv_iload_n hx hb d_D_draftByte_9 rfl (lv_at hl 0 rfl) ?_
  refine hp_goi hW (va_runS S (c_isCharacter l g z0 N ad F ((md_at (rs 1) q))) (va_cwS 1 hts (tb_S cd_D_isCharacter tq_71 tq_72 tq_27) rfl rfl rfl hd_D_isCharacter.2 (rk_ok (by omega) (by omega))) (hp_preS hK hW) rfl rfl hl.1 rfl (lv_room (Nat.le_of_ble_eq_true rfl)) d_D_draftByte_10 ⟨Nat.zero_le _, Nat.zero_le _⟩) (fun r_3 F_4 H locs hw hW => ?_)
  obtain ⟨hvq, hFq⟩ := hw
  rw [hFq] at hW
  rw [hvq]
  refine lv_if_eq (tgt := 29) hx hb d_D_draftByte_13 (by decide) (fun c_13 => ?_) (fun c_13 => ?_)
  · have c_13i := c_13
    refine lv_aload_n hx hb d_D_draftByte_29 rfl (lv_at hl 1 rfl) ?_
    refine lv_iconst (v := 1) hx hb d_D_draftByte_30 (by decide) ?_
    refine lv_iload_n hx hb d_D_draftByte_31 rfl (lv_at hl 2 rfl) ?_
    refine hp_goi hW (va_runV S (c_fail l g z0 N ad F hN rs kn op fp lm me dp wh te nu en hS 1 (nI q)) (cwV 2 hts (tb_V cd_D_fail tq_56 tq_57 tq_58 tq_27) rfl rfl rfl hd_D_fail (rk_ok (by omega) (by omega))) (hp_preV hK hW (by omega) rfl hS.1 rfl) rfl rfl hl.1 rfl (lv_room (Nat.le_of_ble_eq_true rfl)) d_D_draftByte_32 ⟨Nat.zero_le _, Nat.zero_le _⟩) (fun r_5 F_6 H locs hw hW => ?_)
    obtain ⟨hv1, hS1, hf1⟩ := hw
    rw [hv1]
    have hX : (if md_ch (md_at (rs 1) q) = true then md_ad 100 (rs 3) (md_at (rs 1) q) else (rs 3, 1)) = (rs 3, 1) := if_neg (fun z => by rw [b2_0.mp c_13i] at z; cases z)
    exact hp_reti S hK hW hr hlk d_D_draftByte_35 (by rw [hX]; refine ⟨rfl, ?_, hf1⟩; show vSt g ad _ (va_up rs 3 (rs 3)) kn op (nI q) lm me dp wh te nu en; rw [va_up_eta]; exact hS1)
  · have c_13i := c_13
    refine lv_aload_n hx hb d_D_draftByte_16 rfl (lv_at hl 1 rfl) ?_
    refine lv_aload_n hx hb d_D_draftByte_17 rfl (lv_at hl 1 rfl) ?_
    refine hp_get S hK hW (0) (by omega) rfl hS.1 rfl in_kD 1 (by decide) (hts _ (List.mem_cons_of_mem _ tq_7)) rfl d_D_draftByte_18 ?_
    refine lv_iload_n hx hb d_D_draftByte_21 rfl (lv_at hl 0 rfl) ?_
    refine lv_iload_n hx hb d_D_draftByte_22 rfl (lv_at hl 2 rfl) ?_
    refine hp_goi hW (va_runV S (c_addTo l g z0 N ad F hN rs kn op fp lm me dp wh te nu en hS 3 rowp_3 (md_at (rs 1) q) (nI q)) (cwV 3 hts (tb_V cd_D_addTo tq_73 tq_74 tq_75 tq_27) rfl rfl rfl hd_D_addTo (rk_ok (by omega) (by omega))) (hp_preV hK hW (by omega) rfl hS.1 rfl) rfl rfl hl.1 rfl (lv_room (Nat.le_of_ble_eq_true rfl)) d_D_draftByte_23 ⟨Nat.zero_le _, Nat.zero_le _⟩) (fun r_7 F_8 H locs hw hW => ?_)
    obtain ⟨hv1, hS1, hf1⟩ := hw
    rw [hv1]
    refine lv_goto (tgt := 35) hx hb d_D_draftByte_26 (by decide) ?_
    have hX : (if md_ch (md_at (rs 1) q) = true then md_ad 100 (rs 3) (md_at (rs 1) q) else (rs 3, 1)) = md_ad 100 (rs 3) (md_at (rs 1) q) := if_pos (b2_n0.mp c_13i)
    exact hp_reti S hK hW hr hlk d_D_draftByte_35 (by rw [hX]; exact ⟨rfl, hS1, hf1⟩)

/-! draftAsItStands: its loop -/
set_option maxHeartbeats 400000 in
set_option maxRecDepth 100000 in
theorem lp_asItStands {p : Program} {e : Env} {s : State} {m : MethodId} {args : Array Value} {below : List Frame} {meth : Method} {c : Code} (l : Launch) (g : hp_G) (z0 N : Nat) (ad : Nat → Nat)  (Fz : Nat → va_E) (hN : 87 ≤ N) (rs : Nat → List Int32) (kn op : Nat → Bool) (fp lm me dp wh te nu en : Int32) (q : Nat) (hq : q < 1000) (xs a : List Int32) (hxs : rs 1 = xs) (S : CallFix p m c cc_D_draftAsItStands 4 s args ws_D_draftAsItStands R_D) (hr : meth.sig.returnType = (some .int)) (hlk : meth.locks = false) (hK : hp_K g s) : ∀ (j : Nat) (t : Nat) (F : Nat → va_E), t ≤ 3 → 4 ≤ t + j → vSt g ad F (va_up rs 3 (md_pre a (md_at xs q) (md_at xs (q + 1)) (md_at xs (q + 2)) t)) kn op fp lm me dp wh te nu en → vFr Fz F → ∀ (H : Heap) (locs : List Loc) (ls : Array Slot), hp_W g z0 N ad F s.heap H locs → lv_has ls 4 [(0, .ref (ad 0)), (1, .int (nI q)), (2, .int (nI (q + 3))), (3, .int (nI (q + t)))] → W p l e (rk 1) s m args below meth c H locs 0 0 (MQ below (va_Qi (fun v F' => v = nI (md_3 a (md_at xs q) (md_at xs (q + 1)) (md_at xs (q + 2))).2 ∧ (∃ d : List Int32, vSt g ad F' (va_up rs 3 d) kn op (pf (md_3 a (md_at xs q) (md_at xs (q + 1)) (md_at xs (q + 2))).2 fp (nI q)) lm me dp wh te nu en ∧ ((md_3 a (md_at xs q) (md_at xs (q + 1)) (md_at xs (q + 2))).2 = 0 → d = (md_3 a (md_at xs q) (md_at xs (q + 1)) (md_at xs (q + 2))).1)) ∧ vFr Fz F') (hp_B g z0 N ad) (hp_A z0)) args s 0 0 (hp_A z0)) (F0 m 2 ls []) := by
  obtain ⟨hx, hb, hml, hown, hts⟩ := id S
  have in_kD : ∀ w ∈ u_ws R_D T_D 9, w ∈ ws_D_draftAsItStands := fun w h => List.mem_cons_of_mem _ (in0_D w h)
  intro j
  induction j with
  | zero =>
    intro t F ht hj hS hfr H locs ls hW hl
    exact absurd hj (by omega)
  | succ j ih =>
    intro t F ht hj hS hfr H locs ls hW hl
    refine lv_iload_n hx hb d_D_draftAsItStands_2 rfl (lv_at hl 3 rfl) ?_
    refine lv_iload_n hx hb d_D_draftAsItStands_3 rfl (lv_at hl 2 rfl) ?_
    refine lv_icmp_ge (tgt := 39) hx hb d_D_draftAsItStands_4 (by decide) (fun c_4 => ?_) (fun c_4 => ?_)
    · have c_4i := c_4
      replace c_4 : (q + 3) ≤ (q + t) := (nI_leI (a := (q + 3)) (b := (q + t)) (by omega) (by omega)).mp c_4
      have hpl := md_pre_len (a := a) (x := md_at xs q) (y := md_at xs (q + 1)) (z := md_at xs (q + 2)) (t := t) (by omega)
      refine lv_iconst (v := 0) hx hb d_D_draftAsItStands_39 (by decide) ?_
      have et : t = 3 := by omega
      subst et
      have hcap := (hS.row rowp_3).len
      rw [cap_3, va_up_self, hpl] at hcap
      have hX : (md_3 a (md_at xs q) (md_at xs (q + 1)) (md_at xs (q + 2))) = (a ++ [md_at xs q, md_at xs (q + 1), md_at xs (q + 2)], 0) := if_pos hcap
      exact hp_reti S hK hW hr hlk d_D_draftAsItStands_40 (by rw [hX]; exact ⟨rfl, ⟨_, hS, fun _ => md_pre_3⟩, hfr⟩)
    · have c_4i := c_4
      replace c_4 : ¬ (q + 3) ≤ (q + t) := fun zz9 => c_4 ((nI_leI (a := (q + 3)) (b := (q + t)) (by omega) (by omega)).mpr zz9)
      have hpl := md_pre_len (a := a) (x := md_at xs q) (y := md_at xs (q + 1)) (z := md_at xs (q + 2)) (t := t) (by omega)
      refine lv_aload_n hx hb d_D_draftAsItStands_7 rfl (lv_at hl 0 rfl) ?_
      refine hp_get S hK hW (0) (by omega) rfl hS.1 rfl in_kD 1 (by decide) (hts _ (List.mem_cons_of_mem _ tq_7)) rfl d_D_draftAsItStands_8 ?_
      refine lv_aload_n hx hb d_D_draftAsItStands_11 rfl (lv_at hl 0 rfl) ?_
      refine hp_get S hK hW (0) (by omega) rfl hS.1 rfl in_kD 0 (by decide) (hts _ (List.mem_cons_of_mem _ tq_6)) rfl d_D_draftAsItStands_12 ?_
      refine lv_iload_n hx hb d_D_draftAsItStands_15 rfl (lv_at hl 3 rfl) ?_
      refine hp_goi hW (va_runV S (s_at l g z0 N ad F hN (va_up rs 3 (md_pre a (md_at xs q) (md_at xs (q + 1)) (md_at xs (q + 2)) t)) kn op fp lm me dp wh te nu en hS 1 rowp_1 (q + t) (by omega)) (cwV 1 hts (tb_V cd_R_at tq_59 tq_60 tq_61 tq_3) rfl rfl rfl hd_R_at (rk_ok (by omega) (by omega))) (hp_preV hK hW (by omega) rfl (hS.row rowp_1).obj rfl) rfl rfl hl.1 rfl (lv_room (Nat.le_of_ble_eq_true rfl)) d_D_draftAsItStands_16 ⟨Nat.zero_le _, Nat.zero_le _⟩) (fun r_1 F_2 H locs hw hW => ?_)
      obtain ⟨hvq, hFq⟩ := hw
      rw [hFq] at hW
      rw [hvq]
      rw [(show (va_up rs 3 (md_pre a (md_at xs q) (md_at xs (q + 1)) (md_at xs (q + 2)) t)) 1 = xs from (va_up_ne _ _ (by omega)).trans hxs)]
      refine hp_goi hW (va_runV S (s_add l g z0 N ad F hN (va_up rs 3 (md_pre a (md_at xs q) (md_at xs (q + 1)) (md_at xs (q + 2)) t)) kn op fp lm me dp wh te nu en hS 3 rowp_3 (md_at xs (q + t))) (cwV 1 hts (tb_V cd_R_add tq_23 tq_24 tq_25 tq_3) rfl rfl rfl hd_R_add (rk_ok (by omega) (by omega))) (hp_preV hK hW (by omega) rfl (hS.row rowp_3).obj rfl) rfl rfl hl.1 rfl (lv_room (Nat.le_of_ble_eq_true rfl)) d_D_draftAsItStands_19 ⟨Nat.zero_le _, Nat.zero_le _⟩) (fun r_3 F_4 H locs hw hW => ?_)
      obtain ⟨hv1, hS1, hf1⟩ := hw
      rw [hv1]
      refine lv_if_ne (tgt := 33) hx hb d_D_draftAsItStands_22 (by decide) (fun c_22 => ?_) (fun c_22 => ?_)
      · have c_22i := c_22
        have e3 : (va_up rs 3 (md_pre a (md_at xs q) (md_at xs (q + 1)) (md_at xs (q + 2)) t)) 3 = md_pre a (md_at xs q) (md_at xs (q + 1)) (md_at xs (q + 2)) t := va_up_self _ _ _
        have hlt := of_decide_eq_true (b2_n0.mp c_22i)
        rw [e3, hpl, cap_3] at hlt
        refine lv_iinc (v := (nI ((q + t) + 1))) (lv' := [(3, .int (nI ((q + t) + 1))), (0, .ref (ad 0)), (1, .int (nI q)), (2, .int (nI (q + 3)))]) hx hb d_D_draftAsItStands_33 hl (k := 3) rfl ((nI_succ ((q + t))).symm) (by decide) rfl (fun ls hl => ?_)
        refine lv_goto (tgt := 2) hx hb d_D_draftAsItStands_36 (by decide) ?_
        have hX : (md_ad (cap 3) ((va_up rs 3 (md_pre a (md_at xs q) (md_at xs (q + 1)) (md_at xs (q + 2)) t)) 3) (md_at xs (q + t))) = (md_pre a (md_at xs q) (md_at xs (q + 1)) (md_at xs (q + 2)) (t + 1), 0) := by rw [e3, md_pre_s (by omega)]; exact if_pos (by rw [hpl, cap_3]; omega)
        rw [hX, up_up] at hS1
        exact ih (t + 1) F_4 (by omega) (by omega) hS1 (hfr.tr hf1) H locs ls hW (lv_sub hl [1, 2, 3, 0] rfl)
      · have c_22i := c_22
        have e3 : (va_up rs 3 (md_pre a (md_at xs q) (md_at xs (q + 1)) (md_at xs (q + 2)) t)) 3 = md_pre a (md_at xs q) (md_at xs (q + 1)) (md_at xs (q + 2)) t := va_up_self _ _ _
        have hlt := of_decide_eq_false (b2_0.mp c_22i)
        rw [e3, hpl, cap_3] at hlt
        refine lv_aload_n hx hb d_D_draftAsItStands_25 rfl (lv_at hl 0 rfl) ?_
        refine lv_bipush (v := 8) hx hb d_D_draftAsItStands_26 (by decide) ?_
        refine lv_iload_n hx hb d_D_draftAsItStands_28 rfl (lv_at hl 1 rfl) ?_
        refine hp_goi hW (va_runV S (c_fail l g z0 N ad F_4 hN (va_up (va_up rs 3 (md_pre a (md_at xs q) (md_at xs (q + 1)) (md_at xs (q + 2)) t)) 3 (md_ad (cap 3) ((va_up rs 3 (md_pre a (md_at xs q) (md_at xs (q + 1)) (md_at xs (q + 2)) t)) 3) (md_at xs (q + t))).1) kn op fp lm me dp wh te nu en hS1 8 (nI q)) (cwV 2 hts (tb_V cd_D_fail tq_56 tq_57 tq_58 tq_27) rfl rfl rfl hd_D_fail (rk_ok (by omega) (by omega))) (hp_preV hK hW (by omega) rfl hS1.1 rfl) rfl rfl hl.1 rfl (lv_room (Nat.le_of_ble_eq_true rfl)) d_D_draftAsItStands_29 ⟨Nat.zero_le _, Nat.zero_le _⟩) (fun r_5 F_6 H locs hw hW => ?_)
        obtain ⟨hv2, hS2, hf2⟩ := hw
        rw [hv2]
        have hX : (md_3 a (md_at xs q) (md_at xs (q + 1)) (md_at xs (q + 2))) = (a, 8) := if_neg (by omega)
        rw [up_up] at hS2
        exact hp_reti S hK hW hr hlk d_D_draftAsItStands_32 (by rw [hX]; exact ⟨rfl, ⟨_, hS2, fun z => by cases z⟩, hfr.tr (hf1.tr hf2)⟩)

/-! draftAsItStands(q, q + 3) -/
set_option maxHeartbeats 400000 in
set_option maxRecDepth 100000 in
theorem c_asItStands (l : Launch) (g : hp_G) (z0 N : Nat) (ad : Nat → Nat) (F : Nat → va_E) (hN : 87 ≤ N) (rs : Nat → List Int32) (kn op : Nat → Bool) (fp lm me dp wh te nu en : Int32) (hS : vSt g ad F rs kn op fp lm me dp wh te nu en) (q : Nat) (hq : q < 1000) (xs a : List Int32) (hxs : rs 1 = xs) (ha : rs 3 = a) : hp_Mi l g z0 N ad y_D_draftAsItStands ws_D_draftAsItStands (rk 1) [.ref (ad 0), .int (nI q), .int (nI (q + 3))] F (fun v F' => v = nI (md_3 a (md_at xs q) (md_at xs (q + 1)) (md_at xs (q + 2))).2 ∧ (∃ d : List Int32, vSt g ad F' (va_up rs 3 d) kn op (pf (md_3 a (md_at xs q) (md_at xs (q + 1)) (md_at xs (q + 2))).2 fp (nI q)) lm me dp wh te nu en ∧ ((md_3 a (md_at xs q) (md_at xs (q + 1)) (md_at xs (q + 2))).2 = 0 → d = (md_3 a (md_at xs q) (md_at xs (q + 1)) (md_at xs (q + 2))).1)) ∧ vFr F F') := by
  refine hp_enter (cc := cc_D_draftAsItStands) (maxL := 4) (ret := (some .int)) (by decide) rfl (Nat.le_of_ble_eq_true rfl) ?_
  intro p e s m below meth c S hr hlk hnm hK hW ls hl
  have hl : lv_has ls 4 [(0, .ref (ad 0)), (1, .int (nI q)), (2, .int (nI (q + 3)))] := hl
  obtain ⟨hx, hb, hml, hown, hts⟩ := id S
  have in_kD : ∀ w ∈ u_ws R_D T_D 9, w ∈ ws_D_draftAsItStands := fun w h => List.mem_cons_of_mem _ (in0_D w h)
  refine lv_iload_n hx hb d_D_draftAsItStands_0 rfl (lv_at hl 1 rfl) ?_
  refine lv_istore_n (lv' := [(3, .int (nI q)), (0, .ref (ad 0)), (1, .int (nI q)), (2, .int (nI (q + 3)))]) hx hb d_D_draftAsItStands_1 rfl hl (by decide) rfl (fun ls hl => ?_)
  exact lp_asItStands l g z0 N ad F hN rs kn op fp lm me dp wh te nu en q hq xs a hxs S hr hlk hK 4 0 F (by omega) (by omega) (by rw [md_pre_0, ← ha, va_up_eta]; exact hS) vFr.rf _ _ ls hW (lv_sub hl [1, 2, 3, 0] rfl)

/-! draftReference(q) -/
set_option maxHeartbeats 400000 in
set_option maxRecDepth 100000 in
theorem c_draftReference (l : Launch) (g : hp_G) (z0 N : Nat) (ad : Nat → Nat) (F : Nat → va_E) (hN : 87 ≤ N) (rs : Nat → List Int32) (kn op : Nat → Bool) (fp lm me dp wh te nu en : Int32) (hS : vSt g ad F rs kn op fp lm me dp wh te nu en) (q : Nat) (hq : q < 900) (xs a : List Int32) (hxs : rs 1 = xs) (ha : rs 3 = a) (h38 : md_at xs q = 38) (hwh : wh = b2 (md_ref xs q).1) (hte : te = b2 (md_ref xs q).2.1) (hen : en = nI (md_ref xs q).2.2.2) (hnu : (md_ref xs q).1 = true → nu = (md_ref xs q).2.2.1) : hp_Mi l g z0 N ad y_D_draftReference ws_D_draftReference (rk 3) [.ref (ad 0), .int (nI q)] F (fun v F' => v = nI (md_dit xs q a).2.1 ∧ (∃ d : List Int32, vSt g ad F' (va_up rs 3 d) kn op (pf (md_dit xs q a).2.1 fp (nI (md_dit xs q a).2.2)) lm me dp wh te nu en ∧ ((md_dit xs q a).2.1 = 0 → d = (md_dit xs q a).1)) ∧ vFr F F') := by
  subst hwh hte hen
  refine hp_enter (cc := cc_D_draftReference) (maxL := 2) (ret := (some .int)) (by decide) rfl (Nat.le_of_ble_eq_true rfl) ?_
  intro p e s m below meth c S hr hlk hnm hK hW ls hl
  have hl : lv_has ls 2 [(0, .ref (ad 0)), (1, .int (nI q))] := hl
  obtain ⟨hx, hb, hml, hown, hts⟩ := id S
  have in_kD : ∀ w ∈ u_ws R_D T_D 9, w ∈ ws_D_draftReference := fun w h => List.mem_cons_of_mem _ (in0_D w h)
  have in_kF : ∀ w ∈ u_ws R_F T_F 4, w ∈ ws_D_draftReference := fun w h => List.mem_cons_of_mem _ (in0_F w h)
  refine lv_aload_n hx hb d_D_draftReference_0 rfl (lv_at hl 0 rfl) ?_
  refine hp_get S hK hW (0) (by omega) rfl hS.1 rfl in_kD 4 (by decide) (hts _ (List.mem_cons_of_mem _ tq_18)) rfl d_D_draftReference_1 ?_
  refine hp_getN S hK hW (86) (by omega) rfl hS.2.2.2.2 rfl in_kF 0 (by decide) (List.mem_of_getElem? (i := 3) rfl) rfl d_D_draftReference_4 ?_
  refine lv_if_ne (tgt := 23) hx hb d_D_draftReference_7 (by decide) (fun c_7 => ?_) (fun c_7 => ?_)
  · have c_7i := c_7
    refine lv_aload_n hx hb d_D_draftReference_23 rfl (lv_at hl 0 rfl) ?_
    refine hp_get S hK hW (0) (by omega) rfl hS.1 rfl in_kD 4 (by decide) (hts _ (List.mem_cons_of_mem _ tq_18)) rfl d_D_draftReference_24 ?_
    refine hp_getN S hK hW (86) (by omega) rfl hS.2.2.2.2 rfl in_kF 1 (by decide) (List.mem_of_getElem? (i := 4) rfl) rfl d_D_draftReference_27 ?_
    refine lv_if_eq (tgt := 46) hx hb d_D_draftReference_30 (by decide) (fun c_30 => ?_) (fun c_30 => ?_)
    · have c_30i := c_30
      refine lv_aload_n hx hb d_D_draftReference_46 rfl (lv_at hl 0 rfl) ?_
      refine lv_aload_n hx hb d_D_draftReference_47 rfl (lv_at hl 0 rfl) ?_
      refine hp_get S hK hW (0) (by omega) rfl hS.1 rfl in_kD 1 (by decide) (hts _ (List.mem_cons_of_mem _ tq_7)) rfl d_D_draftReference_48 ?_
      refine lv_iload_n hx hb d_D_draftReference_51 rfl (lv_at hl 1 rfl) ?_
      refine hp_goi hW (va_runV S (c_addByNumber l g z0 N ad F hN rs kn op fp lm me dp (b2 (md_ref xs q).1) (b2 (md_ref xs q).2.1) nu (nI (md_ref xs q).2.2.2) hS 3 rowp_3 (nI q)) (cwV 2 hts (tb_V cd_D_addByNumber tq_79 tq_80 tq_81 tq_27) rfl rfl rfl hd_D_addByNumber (rk_ok (by omega) (by omega))) (hp_preV hK hW (by omega) rfl hS.1 rfl) rfl rfl hl.1 rfl (lv_room (Nat.le_of_ble_eq_true rfl)) d_D_draftReference_52 ⟨Nat.zero_le _, Nat.zero_le _⟩) (fun r_1 F_2 H locs hw hW => ?_)
      obtain ⟨hv1, hS1, hf1⟩ := hw
      rw [hv1]
      have hX : (md_dit xs q a) = ((md_nu 100 a nu).1, (md_nu 100 a nu).2, q) := (if_pos h38).trans ((if_pos (b2_n0.mp c_7i)).trans ((if_neg (fun z => by rw [b2_0.mp c_30i] at z; cases z)).trans (by rw [hnu (b2_n0.mp c_7i)])))
      rw [ha] at hS1
      exact hp_reti S hK hW hr hlk d_D_draftReference_55 (by rw [hX, ha]; exact ⟨rfl, ⟨_, hS1, fun _ => rfl⟩, hf1⟩)
    · have c_30i := c_30
      refine lv_aload_n hx hb d_D_draftReference_33 rfl (lv_at hl 0 rfl) ?_
      refine lv_iload_n hx hb d_D_draftReference_34 rfl (lv_at hl 1 rfl) ?_
      refine lv_aload_n hx hb d_D_draftReference_35 rfl (lv_at hl 0 rfl) ?_
      refine hp_get S hK hW (0) (by omega) rfl hS.1 rfl in_kD 4 (by decide) (hts _ (List.mem_cons_of_mem _ tq_18)) rfl d_D_draftReference_36 ?_
      refine hp_getN S hK hW (86) (by omega) rfl hS.2.2.2.2 rfl in_kF 3 (by decide) (List.mem_of_getElem? (i := 6) rfl) rfl d_D_draftReference_39 ?_
      have hT := md_ref_ent (xs := xs) (p := q) (b2_n0.mp c_7i) (b2_n0.mp c_30i)
      refine W.eq (g2 := F0 m 42 ls [.int (nI (q + 3)), .int (nI q), .ref (ad 0)]) (by rw [hT.2.2]) ?_
      refine hp_goi hW (va_runV S (c_asItStands l g z0 N ad F hN rs kn op fp lm me dp (b2 (md_ref xs q).1) (b2 (md_ref xs q).2.1) nu (nI (md_ref xs q).2.2.2) hS q (by omega) xs a hxs ha) (cwV 2 hts (tb_V cd_D_draftAsItStands tq_76 tq_77 tq_78 tq_27) rfl rfl rfl hd_D_draftAsItStands (rk_ok (by omega) (by omega))) (hp_preV hK hW (by omega) rfl hS.1 rfl) rfl rfl hl.1 rfl (lv_room (Nat.le_of_ble_eq_true rfl)) d_D_draftReference_42 ⟨Nat.zero_le _, Nat.zero_le _⟩) (fun r_3 F_4 H locs hw hW => ?_)
      obtain ⟨hv1, hd1, hf1⟩ := hw
      rw [hv1]
      have hX : (md_dit xs q a) = ((md_3 a (md_at xs q) (md_at xs (q + 1)) (md_at xs (q + 2))).1, (md_3 a (md_at xs q) (md_at xs (q + 1)) (md_at xs (q + 2))).2, q) := (if_pos h38).trans ((if_pos (b2_n0.mp c_7i)).trans (if_pos (b2_n0.mp c_30i)))
      exact hp_reti S hK hW hr hlk d_D_draftReference_45 (by rw [hX]; exact ⟨rfl, hd1, hf1⟩)
  · have c_7i := c_7
    refine lv_aload_n hx hb d_D_draftReference_10 rfl (lv_at hl 0 rfl) ?_
    refine lv_iconst (v := 1) hx hb d_D_draftReference_11 (by decide) ?_
    refine lv_aload_n hx hb d_D_draftReference_12 rfl (lv_at hl 0 rfl) ?_
    refine hp_get S hK hW (0) (by omega) rfl hS.1 rfl in_kD 4 (by decide) (hts _ (List.mem_cons_of_mem _ tq_18)) rfl d_D_draftReference_13 ?_
    refine hp_getN S hK hW (86) (by omega) rfl hS.2.2.2.2 rfl in_kF 3 (by decide) (List.mem_of_getElem? (i := 6) rfl) rfl d_D_draftReference_16 ?_
    refine hp_goi hW (va_runV S (c_fail l g z0 N ad F hN rs kn op fp lm me dp (b2 (md_ref xs q).1) (b2 (md_ref xs q).2.1) nu (nI (md_ref xs q).2.2.2) hS 1 (nI (md_ref xs q).2.2.2)) (cwV 2 hts (tb_V cd_D_fail tq_56 tq_57 tq_58 tq_27) rfl rfl rfl hd_D_fail (rk_ok (by omega) (by omega))) (hp_preV hK hW (by omega) rfl hS.1 rfl) rfl rfl hl.1 rfl (lv_room (Nat.le_of_ble_eq_true rfl)) d_D_draftReference_19 ⟨Nat.zero_le _, Nat.zero_le _⟩) (fun r_5 F_6 H locs hw hW => ?_)
    obtain ⟨hv1, hS1, hf1⟩ := hw
    rw [hv1]
    have hX : (md_dit xs q a) = (a, 1, (md_ref xs q).2.2.2) := (if_pos h38).trans (if_neg (fun z => by rw [b2_0.mp c_7i] at z; cases z))
    exact hp_reti S hK hW hr hlk d_D_draftReference_22 (by rw [hX]; refine ⟨rfl, ⟨a, ?_, fun z => by cases z⟩, hf1⟩; rw [← ha, va_up_eta]; exact hS1)
end
section
theorem md_nu_f (m : Nat) (a : List Int32) (nu : Int32) : (md_nu m a nu).2 ≤ 8 := by unfold md_nu md_ad; split <;> (try split) <;> simp
theorem md_dit_f (xs : List Int32) (k : Nat) (a : List Int32) : (md_dit xs k a).2.1 ≤ 8 := by
  unfold md_dit
  split
  · split
    · split
      · show (md_3 _ _ _ _).2 ≤ 8
        unfold md_3
        split <;> simp
      · exact md_nu_f _ _ _
    · simp
  · split
    · show (md_ad _ _ _).2 ≤ 8
      unfold md_ad
      split <;> simp
    · simp
theorem md_df_f (xs : List Int32) : ∀ (n i : Nat) (a : List Int32), (md_df xs n i a).2.1 ≤ 8
  | 0, _, _ => by simp [md_df]
  | n + 1, i, a => by
    unfold md_df
    split
    · split
      · exact md_df_f xs n _ _
      · exact md_dit_f xs i a
    · simp

/-! readDraft: its loop -/
set_option maxHeartbeats 400000 in
set_option maxRecDepth 100000 in
theorem lp_readDraft {p : Program} {e : Env} {s : State} {m : MethodId} {args : Array Value} {below : List Frame} {meth : Method} {c : Code} (l : Launch) (g : hp_G) (z0 N : Nat) (ad : Nat → Nat)  (Fz : Nat → va_E) (hN : 87 ≤ N) (rs : Nat → List Int32) (kn op : Nat → Bool) (fp lm me dp : Int32) (xs : List Int32) (hxl : xs.length ≤ 200) (R : List Int32 × Nat × Nat) (S : CallFix p m c cc_D_readDraft 4 s args ws_D_readDraft R_D) (hr : meth.sig.returnType = (some .int)) (hlk : meth.locks = false) (hK : hp_K g s) : ∀ (j : Nat) (k b n : Nat) (a : List Int32) (F : Nat → va_E) (rs1 : Nat → List Int32) (wh te nu en : Int32), k ≤ xs.length → xs.length + 1 ≤ k + j → b ≤ 300 → xs.length ≤ max k b + n → R = md_df xs n (max k b) a → vSt g ad F rs1 kn op fp lm me dp wh te nu en → rs1 1 = xs → rs1 3 = a → (∀ j, j ≠ 3 → rs1 j = rs j) → vFr Fz F → ∀ (H : Heap) (locs : List Loc) (ls : Array Slot), hp_W g z0 N ad F s.heap H locs → lv_has ls 4 [(0, .ref (ad 0)), (1, .int (nI b)), (2, .int (nI k))] → W p l e (rk 4) s m args below meth c H locs 0 0 (MQ below (va_Qi (fun v F' => v = nI R.2.1 ∧ (∃ (rs2 : Nat → List Int32) (wh te nu en : Int32), vSt g ad F' rs2 kn op (pf R.2.1 fp (nI R.2.2)) lm me dp wh te nu en ∧ (∀ j, j ≠ 3 → rs2 j = rs j) ∧ (R.2.1 = 0 → rs2 3 = R.1)) ∧ vFr Fz F') (hp_B g z0 N ad) (hp_A z0)) args s 0 0 (hp_A z0)) (F0 m 11 ls []) := by
  obtain ⟨hx, hb, hml, hown, hts⟩ := id S
  have in_kD : ∀ w ∈ u_ws R_D T_D 9, w ∈ ws_D_readDraft := fun w h => List.mem_cons_of_mem _ (in0_D w h)
  have in_kF : ∀ w ∈ u_ws R_F T_F 4, w ∈ ws_D_readDraft := fun w h => List.mem_cons_of_mem _ (in0_F w h)
  intro j
  induction j with
  | zero =>
    intro k b n a F rs1 wh te nu en hk hj hb0 hn hR hS h1 h3 hoth hfr H locs ls hW hl
    exact absurd hj (by omega)
  | succ j ih =>
    intro k b n a F rs1 wh te nu en hk hj hb0 hn hR hS h1 h3 hoth hfr H locs ls hW hl
    refine lv_iload_n hx hb d_D_readDraft_11 rfl (lv_at hl 2 rfl) ?_
    refine lv_aload_n hx hb d_D_readDraft_12 rfl (lv_at hl 0 rfl) ?_
    refine hp_get S hK hW (0) (by omega) rfl hS.1 rfl in_kD 0 (by decide) (hts _ (List.mem_cons_of_mem _ tq_6)) rfl d_D_readDraft_13 ?_
    refine hp_goi hW (va_runV S (s_size l g z0 N ad F hN rs1 kn op fp lm me dp wh te nu en hS 1 rowp_1) (cwV 0 hts (tb_V cd_R_size tq_20 tq_21 tq_22 tq_3) rfl rfl rfl hd_R_size (rk_ok (by omega) (by omega))) (hp_preV hK hW (by omega) rfl (hS.row rowp_1).obj rfl) rfl rfl hl.1 rfl (lv_room (Nat.le_of_ble_eq_true rfl)) d_D_readDraft_16 ⟨Nat.zero_le _, Nat.zero_le _⟩) (fun r_1 F_2 H locs hw hW => ?_)
    obtain ⟨hvq, hFq⟩ := hw
    rw [hFq] at hW
    rw [hvq]
    rw [h1]
    refine lv_icmp_ge (tgt := 90) hx hb d_D_readDraft_19 (by decide) (fun c_19 => ?_) (fun c_19 => ?_)
    · have c_19i := c_19
      replace c_19 : xs.length ≤ k := (nI_leI (a := xs.length) (b := k) (by omega) (by omega)).mp c_19
      refine lv_iconst (v := 0) hx hb d_D_readDraft_90 (by decide) ?_
      have hR1 : R = (a, 0, 0) := by rw [hR]; exact md_df_end (by omega)
      exact hp_reti S hK hW hr hlk d_D_readDraft_91 (⟨by rw [hR1]; rfl, ⟨rs1, _, _, _, _, by rw [hR1]; exact hS, hoth, fun _ => by rw [hR1]; exact h3⟩, hfr⟩)
    · have c_19i := c_19
      replace c_19 : ¬ xs.length ≤ k := fun zz9 => c_19 ((nI_leI (a := xs.length) (b := k) (by omega) (by omega)).mpr zz9)
      refine lv_iload_n hx hb d_D_readDraft_22 rfl (lv_at hl 2 rfl) ?_
      refine lv_iload_n hx hb d_D_readDraft_23 rfl (lv_at hl 1 rfl) ?_
      refine lv_icmp_ge (tgt := 30) hx hb d_D_readDraft_24 (by decide) (fun c_24 => ?_) (fun c_24 => ?_)
      · have c_24i := c_24
        replace c_24 : b ≤ k := (nI_leI (a := b) (b := k) (by omega) (by omega)).mp c_24
        refine lv_aload_n hx hb d_D_readDraft_30 rfl (lv_at hl 0 rfl) ?_
        refine hp_get S hK hW (0) (by omega) rfl hS.1 rfl in_kD 0 (by decide) (hts _ (List.mem_cons_of_mem _ tq_6)) rfl d_D_readDraft_31 ?_
        refine lv_iload_n hx hb d_D_readDraft_34 rfl (lv_at hl 2 rfl) ?_
        refine hp_goi hW (va_runV S (s_at l g z0 N ad F hN rs1 kn op fp lm me dp wh te nu en hS 1 rowp_1 k (by omega)) (cwV 1 hts (tb_V cd_R_at tq_59 tq_60 tq_61 tq_3) rfl rfl rfl hd_R_at (rk_ok (by omega) (by omega))) (hp_preV hK hW (by omega) rfl (hS.row rowp_1).obj rfl) rfl rfl hl.1 rfl (lv_room (Nat.le_of_ble_eq_true rfl)) d_D_readDraft_35 ⟨Nat.zero_le _, Nat.zero_le _⟩) (fun r_3 F_4 H locs hw hW => ?_)
        obtain ⟨hvq, hFq⟩ := hw
        rw [hFq] at hW
        rw [hvq]
        rw [h1]
        refine lv_bipush (v := 38) hx hb d_D_readDraft_38 (by decide) ?_
        refine lv_icmp_ne (tgt := 72) hx hb d_D_readDraft_40 (by decide) (fun c_40 => ?_) (fun c_40 => ?_)
        · have c_40i := c_40
          refine lv_aload_n hx hb d_D_readDraft_72 rfl (lv_at hl 0 rfl) ?_
          refine lv_iload_n hx hb d_D_readDraft_73 rfl (lv_at hl 2 rfl) ?_
          refine hp_goi hW (va_runV S (c_draftByte l g z0 N ad F hN rs1 kn op fp lm me dp wh te nu en hS k (by omega)) (cwV 1 hts (tb_V cd_D_draftByte tq_68 tq_69 tq_70 tq_27) rfl rfl rfl hd_D_draftByte (rk_ok (by omega) (by omega))) (hp_preV hK hW (by omega) rfl hS.1 rfl) rfl rfl hl.1 rfl (lv_room (Nat.le_of_ble_eq_true rfl)) d_D_readDraft_74 ⟨Nat.zero_le _, Nat.zero_le _⟩) (fun r_5 F_6 H locs hw hW => ?_)
          obtain ⟨hv2, hS2, hf2⟩ := hw
          rw [h1, h3] at hv2 hS2
          have hD : (md_dit xs k a) = ((if md_ch (md_at xs k) = true then md_ad 100 a (md_at xs k) else (a, 1)).1, (if md_ch (md_at xs k) = true then md_ad 100 a (md_at xs k) else (a, 1)).2, k) := by unfold md_dit; rw [if_neg c_40i]; split <;> rfl
          replace hv2 : r_5 = nI (md_dit xs k a).2.1 := by rw [hD]; exact hv2
          replace hS2 : vSt g ad F_6 (va_up rs1 3 (md_dit xs k a).1) kn op (pf (md_dit xs k a).2.1 fp (nI (md_dit xs k a).2.2)) lm me dp wh te nu en := by rw [hD]; exact hS2
          obtain ⟨d2, hS2, hd2⟩ : ∃ d, vSt g ad F_6 (va_up rs1 3 d) kn op (pf (md_dit xs k a).2.1 fp (nI (md_dit xs k a).2.2)) lm me dp wh te nu en ∧ ((md_dit xs k a).2.1 = 0 → d = (md_dit xs k a).1) := ⟨_, hS2, fun _ => rfl⟩
          rw [hv2]
          have hnx : md_nx xs k = k + 1 := if_neg c_40i
          refine lv_istore_n (lv' := [(3, .int (nI (md_dit xs k a).2.1)), (0, .ref (ad 0)), (1, .int (nI b)), (2, .int (nI k))]) hx hb d_D_readDraft_77 rfl hl (by decide) rfl (fun ls hl => ?_)
          refine lv_iload_n hx hb d_D_readDraft_78 rfl (lv_at hl 0 rfl) ?_
          have hdl := md_dit_f xs k a
          refine lv_if_eq (tgt := 84) hx hb d_D_readDraft_79 (by decide) (fun c_79 => ?_) (fun c_79 => ?_)
          · have c_79i := c_79
            replace c_79 : (md_dit xs k a).2.1 = 0 := (nI_eq (a := (md_dit xs k a).2.1) (b := 0) (by omega) (by omega)).mp c_79
            refine lv_iinc (v := (nI (k + 1))) (lv' := [(2, .int (nI (k + 1))), (3, .int (nI (md_dit xs k a).2.1)), (0, .ref (ad 0)), (1, .int (nI b))]) hx hb d_D_readDraft_84 hl (k := 3) rfl ((nI_succ (k)).symm) (by decide) rfl (fun ls hl => ?_)
            refine lv_goto (tgt := 11) hx hb d_D_readDraft_87 (by decide) ?_
            have ek : max k b = k := by omega
            have en : max (k + 1) (b) = md_nx xs k := by rw [hnx]; omega
            obtain ⟨n1, rfl⟩ : ∃ n1, n = n1 + 1 := ⟨n - 1, by omega⟩
            rw [ek] at hR
            have hR2 : R = md_df xs n1 (max (k + 1) (b)) (md_dit xs k a).1 := by rw [en, hR]; exact md_df_go (by omega) c_79
            rw [c_79, pf_0 rfl, hd2 c_79] at hS2
            exact ih (k + 1) (b) n1 (md_dit xs k a).1 F_6 (va_up rs1 3 (md_dit xs k a).1) _ _ _ _ (by omega) (by omega) (by have := (md_ref_end xs k).2; omega) (by have := md_nx_ge xs k; rw [en]; omega) hR2 hS2 ((va_up_ne _ _ (by omega)).trans h1) (va_up_self _ _ _) (fun j hj => (va_up_ne _ _ hj).trans (hoth j hj)) (hfr.tr hf2) H locs ls hW (lv_sub hl [2, 3, 0] rfl)
          · have c_79i := c_79
            replace c_79 : ¬ (md_dit xs k a).2.1 = 0 := fun zz9 => c_79 ((nI_eq (a := (md_dit xs k a).2.1) (b := 0) (by omega) (by omega)).mpr zz9)
            refine lv_iload_n hx hb d_D_readDraft_82 rfl (lv_at hl 0 rfl) ?_
            have ek : max k b = k := by omega
            obtain ⟨n1, rfl⟩ : ∃ n1, n = n1 + 1 := ⟨n - 1, by omega⟩
            rw [ek] at hR
            have hR1 : R = (md_dit xs k a) := by rw [hR]; exact md_df_no (by omega) c_79
            exact hp_reti S hK hW hr hlk d_D_readDraft_83 (⟨by rw [hR1], ⟨va_up rs1 3 d2, _, _, _, _, by rw [hR1]; exact hS2, fun j hj => (va_up_ne _ _ hj).trans (hoth j hj), fun z => absurd z (by rw [hR1]; exact c_79)⟩, hfr.tr hf2⟩)
        · have c_40i := c_40
          refine lv_aload_n hx hb d_D_readDraft_43 rfl (lv_at hl 0 rfl) ?_
          refine hp_get S hK hW (0) (by omega) rfl hS.1 rfl in_kD 4 (by decide) (hts _ (List.mem_cons_of_mem _ tq_18)) rfl d_D_readDraft_44 ?_
          refine lv_aload_n hx hb d_D_readDraft_47 rfl (lv_at hl 0 rfl) ?_
          refine hp_get S hK hW (0) (by omega) rfl hS.1 rfl in_kD 0 (by decide) (hts _ (List.mem_cons_of_mem _ tq_6)) rfl d_D_readDraft_48 ?_
          refine lv_iload_n hx hb d_D_readDraft_51 rfl (lv_at hl 2 rfl) ?_
          refine hp_gov hW (va_runV S (s_read l g z0 N ad F hN rs1 kn op fp lm me dp wh te nu en hS 1 rowp_1 k (by omega)) (cwV 2 hts (tb_V cd_F_read tq_62 tq_63 tq_64 tq_16) rfl rfl rfl hd_F_read (rk_ok (by omega) (by omega))) (hp_preV hK hW (by omega) rfl hS.2.2.2.2 rfl) rfl rfl hl.1 rfl (lv_room (Nat.le_of_ble_eq_true rfl)) d_D_readDraft_52 ⟨Nat.zero_le _, Nat.zero_le _⟩) (fun F_8 H locs hw hW => ?_)
          obtain ⟨nu1, hS1, hnu1, hf1⟩ := hw
          rw [h1] at hS1 hnu1
          refine lv_aload_n hx hb d_D_readDraft_55 rfl (lv_at hl 0 rfl) ?_
          refine hp_get S hK hW (0) (by omega) rfl hS1.1 rfl in_kD 4 (by decide) (hts _ (List.mem_cons_of_mem _ tq_18)) rfl d_D_readDraft_56 ?_
          refine hp_getN S hK hW (86) (by omega) rfl hS1.2.2.2.2 rfl in_kF 3 (by decide) (List.mem_of_getElem? (i := 6) rfl) rfl d_D_readDraft_59 ?_
          refine lv_istore_n (lv' := [(1, .int (nI (md_ref xs k).2.2.2)), (0, .ref (ad 0)), (2, .int (nI k))]) hx hb d_D_readDraft_62 rfl hl (by decide) rfl (fun ls hl => ?_)
          refine lv_aload_n hx hb d_D_readDraft_63 rfl (lv_at hl 1 rfl) ?_
          refine lv_iload_n hx hb d_D_readDraft_64 rfl (lv_at hl 2 rfl) ?_
          refine hp_goi hW (va_runV S (c_draftReference l g z0 N ad F_8 hN rs1 kn op fp lm me dp (b2 (md_ref xs k).1) (b2 (md_ref xs k).2.1) nu1 (nI (md_ref xs k).2.2.2) hS1 k (by omega) xs a h1 h3 (by first | exact c_40i | exact not_not.mp c_40i) rfl rfl rfl hnu1) (cwV 1 hts (tb_V cd_D_draftReference tq_65 tq_66 tq_67 tq_27) rfl rfl rfl hd_D_draftReference (rk_ok (by omega) (by omega))) (hp_preV hK hW (by omega) rfl hS1.1 rfl) rfl rfl hl.1 rfl (lv_room (Nat.le_of_ble_eq_true rfl)) d_D_readDraft_65 ⟨Nat.zero_le _, Nat.zero_le _⟩) (fun r_9 F_10 H locs hw hW => ?_)
          obtain ⟨hv2, ⟨d2, hS2, hd2⟩, hf2⟩ := hw
          rw [hv2]
          have hnx : md_nx xs k = (md_ref xs k).2.2.2 := if_pos (by first | exact c_40i | exact not_not.mp c_40i)
          refine lv_istore_n (lv' := [(3, .int (nI (md_dit xs k a).2.1)), (1, .int (nI (md_ref xs k).2.2.2)), (0, .ref (ad 0)), (2, .int (nI k))]) hx hb d_D_readDraft_68 rfl hl (by decide) rfl (fun ls hl => ?_)
          refine lv_goto (tgt := 78) hx hb d_D_readDraft_69 (by decide) ?_
          refine lv_iload_n hx hb d_D_readDraft_78 rfl (lv_at hl 0 rfl) ?_
          have hdl := md_dit_f xs k a
          refine lv_if_eq (tgt := 84) hx hb d_D_readDraft_79 (by decide) (fun c_79 => ?_) (fun c_79 => ?_)
          · have c_79i := c_79
            replace c_79 : (md_dit xs k a).2.1 = 0 := (nI_eq (a := (md_dit xs k a).2.1) (b := 0) (by omega) (by omega)).mp c_79
            refine lv_iinc (v := (nI (k + 1))) (lv' := [(2, .int (nI (k + 1))), (3, .int (nI (md_dit xs k a).2.1)), (1, .int (nI (md_ref xs k).2.2.2)), (0, .ref (ad 0))]) hx hb d_D_readDraft_84 hl (k := 3) rfl ((nI_succ (k)).symm) (by decide) rfl (fun ls hl => ?_)
            refine lv_goto (tgt := 11) hx hb d_D_readDraft_87 (by decide) ?_
            have ek : max k b = k := by omega
            have en : max (k + 1) ((md_ref xs k).2.2.2) = md_nx xs k := by have := (md_ref_end xs k).1; rw [hnx]; omega
            obtain ⟨n1, rfl⟩ : ∃ n1, n = n1 + 1 := ⟨n - 1, by omega⟩
            rw [ek] at hR
            have hR2 : R = md_df xs n1 (max (k + 1) ((md_ref xs k).2.2.2)) (md_dit xs k a).1 := by rw [en, hR]; exact md_df_go (by omega) c_79
            rw [c_79, pf_0 rfl, hd2 c_79] at hS2
            exact ih (k + 1) ((md_ref xs k).2.2.2) n1 (md_dit xs k a).1 F_10 (va_up rs1 3 (md_dit xs k a).1) _ _ _ _ (by omega) (by omega) (by have := (md_ref_end xs k).2; omega) (by have := md_nx_ge xs k; rw [en]; omega) hR2 hS2 ((va_up_ne _ _ (by omega)).trans h1) (va_up_self _ _ _) (fun j hj => (va_up_ne _ _ hj).trans (hoth j hj)) (hfr.tr (hf1.tr hf2)) H locs ls hW (lv_sub hl [3, 2, 0] rfl)
          · have c_79i := c_79
            replace c_79 : ¬ (md_dit xs k a).2.1 = 0 := fun zz9 => c_79 ((nI_eq (a := (md_dit xs k a).2.1) (b := 0) (by omega) (by omega)).mpr zz9)
            refine lv_iload_n hx hb d_D_readDraft_82 rfl (lv_at hl 0 rfl) ?_
            have ek : max k b = k := by omega
            obtain ⟨n1, rfl⟩ : ∃ n1, n = n1 + 1 := ⟨n - 1, by omega⟩
            rw [ek] at hR
            have hR1 : R = (md_dit xs k a) := by rw [hR]; exact md_df_no (by omega) c_79
            exact hp_reti S hK hW hr hlk d_D_readDraft_83 (⟨by rw [hR1], ⟨va_up rs1 3 d2, _, _, _, _, by rw [hR1]; exact hS2, fun j hj => (va_up_ne _ _ hj).trans (hoth j hj), fun z => absurd z (by rw [hR1]; exact c_79)⟩, hfr.tr (hf1.tr hf2)⟩)
      · have c_24i := c_24
        replace c_24 : ¬ b ≤ k := fun zz9 => c_24 ((nI_leI (a := b) (b := k) (by omega) (by omega)).mpr zz9)
        refine lv_goto (tgt := 84) hx hb d_D_readDraft_27 (by decide) ?_
        refine lv_iinc (v := (nI (k + 1))) (lv' := [(2, .int (nI (k + 1))), (0, .ref (ad 0)), (1, .int (nI b))]) hx hb d_D_readDraft_84 hl (k := 2) rfl ((nI_succ (k)).symm) (by decide) rfl (fun ls hl => ?_)
        refine lv_goto (tgt := 11) hx hb d_D_readDraft_87 (by decide) ?_
        exact ih (k + 1) b n a F rs1 wh te nu en (by omega) (by omega) hb0 (by omega) (by rw [show max (k + 1) b = max k b by omega]; exact hR) hS h1 h3 hoth hfr H locs ls hW (lv_sub hl [1, 2, 0] rfl)

/-! readDraft() -/
set_option maxHeartbeats 400000 in
set_option maxRecDepth 100000 in
theorem c_readDraft (l : Launch) (g : hp_G) (z0 N : Nat) (ad : Nat → Nat) (F : Nat → va_E) (hN : 87 ≤ N) (rs : Nat → List Int32) (kn op : Nat → Bool) (fp lm me dp wh te nu en : Int32) (hS : vSt g ad F rs kn op fp lm me dp wh te nu en) : hp_Mi l g z0 N ad y_D_readDraft ws_D_readDraft (rk 4) [.ref (ad 0)] F (fun v F' => v = nI (md_df (rs 1) (rs 1).length 0 []).2.1 ∧ (∃ (rs2 : Nat → List Int32) (wh te nu en : Int32), vSt g ad F' rs2 kn op (pf (md_df (rs 1) (rs 1).length 0 []).2.1 fp (nI (md_df (rs 1) (rs 1).length 0 []).2.2)) lm me dp wh te nu en ∧ (∀ j, j ≠ 3 → rs2 j = rs j) ∧ ((md_df (rs 1) (rs 1).length 0 []).2.1 = 0 → rs2 3 = (md_df (rs 1) (rs 1).length 0 []).1)) ∧ vFr F F') := by
  refine hp_enter (cc := cc_D_readDraft) (maxL := 4) (ret := (some .int)) (by decide) rfl (Nat.le_of_ble_eq_true rfl) ?_
  intro p e s m below meth c S hr hlk hnm hK hW ls hl
  have hl : lv_has ls 4 [(0, .ref (ad 0))] := hl
  obtain ⟨hx, hb, hml, hown, hts⟩ := id S
  have in_kD : ∀ w ∈ u_ws R_D T_D 9, w ∈ ws_D_readDraft := fun w h => List.mem_cons_of_mem _ (in0_D w h)
  refine lv_aload_n hx hb d_D_readDraft_0 rfl (lv_at hl 0 rfl) ?_
  refine hp_get S hK hW (0) (by omega) rfl hS.1 rfl in_kD 1 (by decide) (hts _ (List.mem_cons_of_mem _ tq_7)) rfl d_D_readDraft_1 ?_
  refine hp_gov hW (va_runV S (s_empty l g z0 N ad F hN rs kn op fp lm me dp wh te nu en hS 3 rowp_3) (cwV 0 hts (tb_V cd_R_empty tq_33 tq_34 tq_35 tq_3) rfl rfl rfl hd_R_empty (rk_ok (by omega) (by omega))) (hp_preV hK hW (by omega) rfl (hS.row rowp_3).obj rfl) rfl rfl hl.1 rfl (lv_room (Nat.le_of_ble_eq_true rfl)) d_D_readDraft_4 ⟨Nat.zero_le _, Nat.zero_le _⟩) (fun F_2 H locs hw hW => ?_)
  obtain ⟨hS1, hf1⟩ := hw
  refine lv_iconst (v := 0) hx hb d_D_readDraft_7 (by decide) ?_
  refine lv_istore_n (lv' := [(1, .int 0), (0, .ref (ad 0))]) hx hb d_D_readDraft_8 rfl hl (by decide) rfl (fun ls hl => ?_)
  refine lv_iconst (v := 0) hx hb d_D_readDraft_9 (by decide) ?_
  refine lv_istore_n (lv' := [(2, .int 0), (1, .int 0), (0, .ref (ad 0))]) hx hb d_D_readDraft_10 rfl hl (by decide) rfl (fun ls hl => ?_)
  have hlen := (hS.row rowp_1).len
  rw [cap_1] at hlen
  exact lp_readDraft l g z0 N ad F hN rs kn op fp lm me dp (rs 1) hlen _ S hr hlk hK ((rs 1).length + 1) 0 0 (rs 1).length [] F_2 (va_up rs 3 []) _ _ _ _ (by omega) (by omega) (by omega) (by omega) rfl hS1 (va_up_ne _ _ (by omega)) (va_up_self _ _ _) (fun j hj => va_up_ne _ _ hj) hf1 _ _ ls hW (lv_sub hl [2, 1, 0] rfl)

/-! define(k), no such entity -/
set_option maxHeartbeats 400000 in
set_option maxRecDepth 100000 in
theorem c_define_out (l : Launch) (g : hp_G) (z0 N : Nat) (ad : Nat → Nat) (F : Nat → va_E) (hN : 87 ≤ N) (rs : Nat → List Int32) (kn op : Nat → Bool) (fp lm me dp wh te nu en : Int32) (hS : vSt g ad F rs kn op fp lm me dp wh te nu en) (k : Int32) (hk : ¬ (0 ≤ k ∧ k < 26)) : hp_Mi l g z0 N ad y_D_define ws_D_define (rk 5) [.ref (ad 0), .int k] F (fun v F' => v = -10 ∧ F' = F) := by
  refine hp_enter (cc := cc_D_define) (maxL := 4) (ret := (some .int)) (by decide) rfl (Nat.le_of_ble_eq_true rfl) ?_
  intro p e s m below meth c S hr hlk hnm hK hW ls hl
  have hl : lv_has ls 4 [(0, .ref (ad 0)), (1, .int k)] := hl
  obtain ⟨hx, hb, hml, hown, hts⟩ := id S
  have in_kD : ∀ w ∈ u_ws R_D T_D 9, w ∈ ws_D_define := fun w h => List.mem_cons_of_mem _ (in0_D w h)
  refine lv_aload_n hx hb d_D_define_0 rfl (lv_at hl 0 rfl) ?_
  refine lv_iload_n hx hb d_D_define_1 rfl (lv_at hl 1 rfl) ?_
  refine hp_goq hW (va_runV S (c_entityOf l g z0 N ad F hN rs kn op fp lm me dp wh te nu en hS k) (cwV 1 hts (tb_V cd_D_entityOf tq_26 tq_28 tq_29 tq_27) rfl rfl rfl hd_D_entityOf (rk_ok (by omega) (by omega))) (hp_preV hK hW (by omega) rfl hS.1 rfl) rfl rfl hl.1 rfl (lv_room (Nat.le_of_ble_eq_true rfl)) d_D_define_2 ⟨Nat.zero_le _, Nat.zero_le _⟩) (fun r_1 F_2 H locs hw hW => ?_)
  obtain ⟨hv, hF⟩ := hw
  rw [hF] at hW
  rw [hv, show entA ad k = none from if_neg hk, va_rf_none]
  refine lv_astore_nN (lv' := [(2, .null), (0, .ref (ad 0)), (1, .int k)]) hx hb d_D_define_5 rfl hl (by decide) rfl (fun ls hl => ?_)
  refine lv_aload_nN hx hb d_D_define_6 rfl (lv_at hl 0 rfl) ?_
  refine lv_ifnonnullN hx hb d_D_define_7 ?_
  refine lv_bipush (v := (-10)) hx hb d_D_define_10 (by decide) ?_
  exact hp_reti S hK hW hr hlk d_D_define_12 (⟨rfl, rfl⟩)

/-! define(k) -/
set_option maxHeartbeats 400000 in
set_option maxRecDepth 100000 in
theorem c_define_in (l : Launch) (g : hp_G) (z0 N : Nat) (ad : Nat → Nat) (F : Nat → va_E) (hN : 87 ≤ N) (rs : Nat → List Int32) (kn op : Nat → Bool) (fp lm me dp wh te nu en : Int32) (hS : vSt g ad F rs kn op fp lm me dp wh te nu en) (i : Nat) (hi : i < 26) : hp_Mi l g z0 N ad y_D_define ws_D_define (rk 5) [.ref (ad 0), .int (nI i)] F (fun v F' => v = (if (md_df (rs 1) (rs 1).length 0 []).2.1 = 0 then if kn i = true then -9 else nI (md_df (rs 1) (rs 1).length 0 []).1.length else -nI (md_df (rs 1) (rs 1).length 0 []).2.1) ∧ (∃ (rs2 : Nat → List Int32) (wh te nu en : Int32), vSt g ad F' rs2 (if (md_df (rs 1) (rs 1).length 0 []).2.1 = 0 then va_up kn i true else kn) op (pf (md_df (rs 1) (rs 1).length 0 []).2.1 (-1) (nI (md_df (rs 1) (rs 1).length 0 []).2.2)) lm me dp wh te nu en ∧ rs2 1 = [] ∧ rs2 5 = rs 5 ∧ (∀ k, k ≠ i → rs2 (9 + 3 * k) = rs (9 + 3 * k)) ∧ rs2 (9 + 3 * i) = (if (md_df (rs 1) (rs 1).length 0 []).2.1 = 0 ∧ kn i = false then (md_df (rs 1) (rs 1).length 0 []).1 else rs (9 + 3 * i))) ∧ vFr F F') := by
  refine hp_enter (cc := cc_D_define) (maxL := 4) (ret := (some .int)) (by decide) rfl (Nat.le_of_ble_eq_true rfl) ?_
  intro p e s m below meth c S hr hlk hnm hK hW ls hl
  have hl : lv_has ls 4 [(0, .ref (ad 0)), (1, .int (nI i))] := hl
  obtain ⟨hx, hb, hml, hown, hts⟩ := id S
  have in_kD : ∀ w ∈ u_ws R_D T_D 9, w ∈ ws_D_define := fun w h => List.mem_cons_of_mem _ (in0_D w h)
  have in_kE : ∀ w ∈ u_ws R_E T_E 3, w ∈ ws_D_define := fun w h => List.mem_cons_of_mem _ (in0_E w h)
  refine lv_aload_n hx hb d_D_define_0 rfl (lv_at hl 0 rfl) ?_
  refine lv_iload_n hx hb d_D_define_1 rfl (lv_at hl 1 rfl) ?_
  refine hp_goq hW (va_runV S (c_entityOf l g z0 N ad F hN rs kn op fp lm me dp wh te nu en hS (nI i)) (cwV 1 hts (tb_V cd_D_entityOf tq_26 tq_28 tq_29 tq_27) rfl rfl rfl hd_D_entityOf (rk_ok (by omega) (by omega))) (hp_preV hK hW (by omega) rfl hS.1 rfl) rfl rfl hl.1 rfl (lv_room (Nat.le_of_ble_eq_true rfl)) d_D_define_2 ⟨Nat.zero_le _, Nat.zero_le _⟩) (fun r_1 F_2 H locs hw hW => ?_)
  obtain ⟨hv, hF⟩ := hw
  rw [hF] at hW
  rw [hv, entA_in hi, va_rf_some]
  refine lv_astore_n (lv' := [(2, .ref (ad (8 + 3 * i))), (0, .ref (ad 0)), (1, .int (nI i))]) hx hb d_D_define_5 rfl hl (by decide) rfl (fun ls hl => ?_)
  refine lv_aload_n hx hb d_D_define_6 rfl (lv_at hl 0 rfl) ?_
  refine lv_ifnonnull (tgt := 13) hx hb d_D_define_7 (by decide) ?_
  refine lv_aload_n hx hb d_D_define_13 rfl (lv_at hl 1 rfl) ?_
  refine lv_iconst (v := (-1)) hx hb d_D_define_14 (by decide) ?_
  refine hp_put S hK hW (0) (by omega) rfl hS.1 rfl in_kD tyok_D nm_D 5 (by decide) (hts _ (List.mem_cons_of_mem _ tq_19)) rfl rfl rfl (Nat.le_of_ble_eq_true rfl) d_D_define_15 (fun H locs hW => ?_)
  obtain ⟨F_3, eF_3⟩ : ∃ z, z = va_up F (0) (.inr (kD, [.ref (ad 1), .ref (ad 3), .ref (ad 5), .ref (ad 7), .ref (ad 86), .int (-1), .int lm, .int me, .int dp])) := ⟨_, rfl⟩
  replace hW : hp_W g z0 N ad F_3 s.heap H locs := by rw [eF_3]; exact hW
  have f_4 : F_3 (0) = .inr (kD, [.ref (ad 1), .ref (ad 3), .ref (ad 5), .ref (ad 7), .ref (ad 86), .int (-1), .int lm, .int me, .int dp]) := by rw [eF_3, va_up_self]
  have f_5 : F_3 (86) = .inr (kF, [.int wh, .int te, .int nu, .int en]) := by rw [eF_3, va_up_ne _ _ (by omega)]; exact hS.2.2.2.2
  have hS0 := hS.desk f_4 (fun x hx => by rw [eF_3, va_up_ne _ _ hx])
  have hf0 : vFr F F_3 := fun x hx => by rw [eF_3, va_up_ne _ _ (by omega)]
  refine lv_aload_n hx hb d_D_define_18 rfl (lv_at hl 1 rfl) ?_
  refine hp_goi hW (va_runV S (c_readDraft l g z0 N ad F_3 hN rs kn op ((-1)) lm me dp wh te nu en hS0) (cwV 0 hts (tb_V cd_D_readDraft tq_30 tq_31 tq_32 tq_27) rfl rfl rfl hd_D_readDraft (rk_ok (by omega) (by omega))) (hp_preV hK hW (by omega) rfl hS0.1 rfl) rfl rfl hl.1 rfl (lv_room (Nat.le_of_ble_eq_true rfl)) d_D_define_19 ⟨Nat.zero_le _, Nat.zero_le _⟩) (fun r_6 F_7 H locs hw hW => ?_)
  obtain ⟨hv1, ⟨rs2, wh2, te2, nu2, en2, hS1, ho1, hd1⟩, hf1⟩ := hw
  rw [hv1]
  refine lv_istore_n (lv' := [(3, .int (nI (md_df (rs 1) (rs 1).length 0 []).2.1)), (2, .ref (ad (8 + 3 * i))), (0, .ref (ad 0)), (1, .int (nI i))]) hx hb d_D_define_22 rfl hl (by decide) rfl (fun ls hl => ?_)
  refine lv_aload_n hx hb d_D_define_23 rfl (lv_at hl 2 rfl) ?_
  refine hp_get S hK hW (0) (by omega) rfl hS1.1 rfl in_kD 0 (by decide) (hts _ (List.mem_cons_of_mem _ tq_6)) rfl d_D_define_24 ?_
  refine hp_gov hW (va_runV S (s_empty l g z0 N ad F_7 hN rs2 kn op (pf (md_df (rs 1) (rs 1).length 0 []).2.1 (-1) (nI (md_df (rs 1) (rs 1).length 0 []).2.2)) lm me dp wh2 te2 nu2 en2 hS1 1 rowp_1) (cwV 0 hts (tb_V cd_R_empty tq_33 tq_34 tq_35 tq_3) rfl rfl rfl hd_R_empty (rk_ok (by omega) (by omega))) (hp_preV hK hW (by omega) rfl (hS1.row rowp_1).obj rfl) rfl rfl hl.1 rfl (lv_room (Nat.le_of_ble_eq_true rfl)) d_D_define_27 ⟨Nat.zero_le _, Nat.zero_le _⟩) (fun F_9 H locs hw hW => ?_)
  obtain ⟨hS2, hf2⟩ := hw
  have hRl := md_df_f (rs 1) (rs 1).length 0 []
  refine lv_iload_n hx hb d_D_define_30 rfl (lv_at hl 0 rfl) ?_
  refine lv_if_eq (tgt := 37) hx hb d_D_define_31 (by decide) (fun c_31 => ?_) (fun c_31 => ?_)
  · have c_31i := c_31
    replace c_31 : (md_df (rs 1) (rs 1).length 0 []).2.1 = 0 := (nI_eq (a := (md_df (rs 1) (rs 1).length 0 []).2.1) (b := 0) (by omega) (by omega)).mp c_31
    refine lv_aload_n hx hb d_D_define_37 rfl (lv_at hl 1 rfl) ?_
    refine hp_getN S hK hW (8 + 3 * i) (by omega) rfl (hS2.2.2.2.1 i hi) rfl in_kE 1 (by decide) (List.mem_of_getElem? (i := 1) rfl) rfl d_D_define_38 ?_
    refine lv_if_eq (tgt := 47) hx hb d_D_define_41 (by decide) (fun c_41 => ?_) (fun c_41 => ?_)
    · have c_41i := c_41
      refine lv_aload_n hx hb d_D_define_47 rfl (lv_at hl 1 rfl) ?_
      refine lv_aload_n hx hb d_D_define_48 rfl (lv_at hl 2 rfl) ?_
      refine hp_get S hK hW (0) (by omega) rfl hS2.1 rfl in_kD 1 (by decide) (hts _ (List.mem_cons_of_mem _ tq_7)) rfl d_D_define_49 ?_
      refine hp_gov hW (va_runV S (c_learn l g z0 N ad F_9 hN (va_up rs2 1 []) kn op (pf (md_df (rs 1) (rs 1).length 0 []).2.1 (-1) (nI (md_df (rs 1) (rs 1).length 0 []).2.2)) lm me dp wh2 te2 nu2 en2 hS2 i hi (by have := (hS2.row rowp_3).len; rw [cap_3] at this; exact this)) (cwV 1 hts (tb_V cd_E_learn tq_36 tq_37 tq_38 tq_12) rfl rfl rfl hd_E_learn (rk_ok (by omega) (by omega))) (hp_preV hK hW (by omega) rfl (hS2.2.2.2.1 i hi) rfl) rfl rfl hl.1 rfl (lv_room (Nat.le_of_ble_eq_true rfl)) d_D_define_52 ⟨Nat.zero_le _, Nat.zero_le _⟩) (fun F_11 H locs hw hW => ?_)
      obtain ⟨hS3, hf3⟩ := hw
      refine lv_aload_n hx hb d_D_define_55 rfl (lv_at hl 2 rfl) ?_
      refine hp_get S hK hW (0) (by omega) rfl hS3.1 rfl in_kD 1 (by decide) (hts _ (List.mem_cons_of_mem _ tq_7)) rfl d_D_define_56 ?_
      refine hp_goi hW (va_runV S (s_size l g z0 N ad F_11 hN (va_up (va_up rs2 1 []) (9 + 3 * i) ((va_up rs2 1 []) 3)) (va_up kn i true) op (pf (md_df (rs 1) (rs 1).length 0 []).2.1 (-1) (nI (md_df (rs 1) (rs 1).length 0 []).2.2)) lm me dp wh2 te2 nu2 en2 hS3 3 rowp_3) (cwV 0 hts (tb_V cd_R_size tq_20 tq_21 tq_22 tq_3) rfl rfl rfl hd_R_size (rk_ok (by omega) (by omega))) (hp_preV hK hW (by omega) rfl (hS3.row rowp_3).obj rfl) rfl rfl hl.1 rfl (lv_room (Nat.le_of_ble_eq_true rfl)) d_D_define_59 ⟨Nat.zero_le _, Nat.zero_le _⟩) (fun r_12 F_13 H locs hw hW => ?_)
      obtain ⟨hvq, hFq⟩ := hw
      rw [hFq] at hW
      rw [hvq]
      have e3 : ((va_up (va_up rs2 1 []) (9 + 3 * i) ((va_up rs2 1 []) 3)) 3) = (md_df (rs 1) (rs 1).length 0 []).1 := (va_up_ne _ _ (by omega)).trans ((va_up_ne _ _ (by omega)).trans (hd1 c_31))
      rw [e3]
      have h31 := c_31
      have hki : kn i = false := b2_0.mp c_41i
      exact hp_reti S hK hW hr hlk d_D_define_62 (by rw [if_pos h31, if_neg (by rw [hki]; exact fun z => by cases z), if_pos h31, if_pos ⟨h31, hki⟩]; exact ⟨rfl, ⟨_, _, _, _, _, hS3, by rw [va_up_ne _ _ (by omega)]; exact va_up_self _ _ _, (by rw [va_up_ne _ _ (by omega)]; rw [va_up_ne _ _ (by omega)]; exact ho1 5 (by omega)), (fun k hk => by rw [va_up_ne _ _ (by omega)]; rw [va_up_ne _ _ (by omega)]; exact ho1 _ (by omega)), by rw [va_up_self, va_up_ne _ _ (by omega)]; exact hd1 h31⟩, (((hf0.tr hf1).tr hf2).tr hf3)⟩)
    · have c_41i := c_41
      refine lv_bipush (v := (-9)) hx hb d_D_define_44 (by decide) ?_
      have h31 := c_31
      have hki : kn i = true := b2_n0.mp c_41i
      have hke : va_up kn i true = kn := by rw [← hki, va_up_eta]
      exact hp_reti S hK hW hr hlk d_D_define_46 (by rw [if_pos h31, if_pos hki, if_pos h31, hke, if_neg (fun z => by rw [hki] at z; cases z.2)]; exact ⟨rfl, ⟨_, _, _, _, _, hS2, va_up_self _ _ _, (by rw [va_up_ne _ _ (by omega)]; exact ho1 5 (by omega)), (fun k hk => by rw [va_up_ne _ _ (by omega)]; exact ho1 _ (by omega)), by rw [va_up_ne _ _ (by omega)]; exact ho1 _ (by omega)⟩, ((hf0.tr hf1).tr hf2)⟩)
  · have c_31i := c_31
    replace c_31 : ¬ (md_df (rs 1) (rs 1).length 0 []).2.1 = 0 := fun zz9 => c_31 ((nI_eq (a := (md_df (rs 1) (rs 1).length 0 []).2.1) (b := 0) (by omega) (by omega)).mpr zz9)
    refine lv_iload_n hx hb d_D_define_34 rfl (lv_at hl 0 rfl) ?_
    refine lv_ineg hx hb d_D_define_35 ?_
    have h31 := c_31
    exact hp_reti S hK hW hr hlk d_D_define_36 (by rw [if_neg h31, if_neg h31, if_neg (fun z => h31 z.1)]; exact ⟨rfl, ⟨_, _, _, _, _, hS2, va_up_self _ _ _, (by rw [va_up_ne _ _ (by omega)]; exact ho1 5 (by omega)), (fun k hk => by rw [va_up_ne _ _ (by omega)]; exact ho1 _ (by omega)), by rw [va_up_ne _ _ (by omega)]; exact ho1 _ (by omega)⟩, ((hf0.tr hf1).tr hf2)⟩)
end
section
/-! the recursion: readValue, takeReference, takeEntity -/
theorem pig : ∀ (n : Nat) (l : List Nat), l.Nodup → (∀ x ∈ l, x < n) → l.length ≤ n
  | 0, l, _, h => by
    cases l with
    | nil => exact Nat.le_refl _
    | cons a l => exact absurd (h a List.mem_cons_self) (Nat.not_lt_zero _)
  | n + 1, l, hd, h => by
    by_cases hm : n ∈ l
    · have h1 := pig n (l.erase n) (hd.erase n) (fun x hx => by
        have h2 := h x (List.mem_of_mem_erase hx)
        have h3 : x ≠ n := ((hd.mem_erase_iff).mp hx).1
        omega)
      rw [List.length_erase_of_mem hm] at h1
      omega
    · have h1 := pig n l hd (fun x hx => by
        have h2 := h x hx
        have h3 : x ≠ n := fun e => hm (e ▸ hx)
        omega)
      omega
def opS (stk : List Nat) : Nat → Bool := fun k => decide (k ∈ stk)
theorem opS_up {stk : List Nat} {k : Nat} : va_up (opS stk) k true = opS (k :: stk) := by
  funext j
  by_cases h : j = k
  · subst h
    rw [va_up_self]
    simp [opS]
  · rw [va_up_ne _ _ h]
    simp [opS, h]
theorem opS_dn {stk : List Nat} {k : Nat} (hk : k ∉ stk) : va_up (opS (k :: stk)) k false = opS stk := by
  funext j
  by_cases h : j = k
  · subst h
    rw [va_up_self]
    simp [opS, hk]
  · rw [va_up_ne _ _ h]
    simp [opS, h]
/-- behind the reading of a value: the fault, the state -/
def RP (g : hp_G) (ad : Nat → Nat) (kn : Nat → Bool) (rs : Nat → List Int32) (lim : Nat) (stk : List Nat) (fp : Int32) (F : Nat → va_E) (res : md_R) (v : Int32) (F' : Nat → va_E) : Prop :=
  v = nI res.2.1 ∧ (∃ (rs2 : Nat → List Int32) (wh te nu en : Int32), vSt g ad F' rs2 kn (opS stk) (pf res.2.1 fp (nI res.2.2)) (nI lim) (nI res.1.2.1) (nI res.1.2.2) wh te nu en ∧ rs2 5 = res.1.1 ∧ ∀ j, j ≠ 5 → rs2 j = rs j) ∧ vFr F F'
def subd (tx : Nat → Option (List Int32)) (lim d : Nat) (stk : List Nat) : Nat → List Int32 → md_S → Nat → md_R := fun k ys s h => md_rv tx lim d (k :: stk) h ys s
/-- what holds of the state when a value is read -/
def RI (g : hp_G) (ad : Nat → Nat) (kn : Nat → Bool) (rs : Nat → List Int32) (lim : Nat) (stk : List Nat) (s : md_S) (F : Nat → va_E) (rs1 : Nat → List Int32) (fp wh te nu en : Int32) : Prop :=
  stk.Nodup ∧ (∀ k ∈ stk, k < 26) ∧ vSt g ad F rs1 kn (opS stk) fp (nI lim) (nI s.2.1) (nI s.2.2) wh te nu en ∧ rs1 5 = s.1 ∧ (∀ j, j ≠ 5 → rs1 j = rs j) ∧ s.2.1 ≤ lim ∧ s.2.2 ≤ 27 ∧ lim ≤ 100000
def txS (kn : Nat → Bool) (rs : Nat → List Int32) : Nat → Option (List Int32) := fun k => if kn k = true then some (rs (9 + 3 * k)) else none
def RV (l : Launch) (g : hp_G) (z0 N : Nat) (ad : Nat → Nat) (kn : Nat → Bool) (rs : Nat → List Int32) (lim d : Nat) : Prop :=
  ∀ (stk : List Nat) (ou j : Nat) (s : md_S) (F : Nat → va_E) (rs1 : Nat → List Int32) (fp wh te nu en o3 : Int32), d + stk.length = 27 → rowp j → j ≠ 5 → ou < 1000 → o3 = (if stk.length = 0 then -1 else nI ou) → RI g ad kn rs lim stk s F rs1 fp wh te nu en →
    hp_Mi l g z0 N ad y_D_readValue ws_D_readValue (rk (3 * d + 1)) [.ref (ad 0), .ref (ad j), .int (nI stk.length), .int o3] F (RP g ad kn rs lim stk fp F (md_rv (txS kn rs) lim d stk ou (rs j) s))
def TE (l : Launch) (g : hp_G) (z0 N : Nat) (ad : Nat → Nat) (kn : Nat → Bool) (rs : Nat → List Int32) (lim d : Nat) : Prop :=
  ∀ (stk : List Nat) (k h : Nat) (s : md_S) (F : Nat → va_E) (rs1 : Nat → List Int32) (fp wh te nu en : Int32), d + 1 + stk.length = 27 → k < 26 → h < 1000 → RI g ad kn rs lim stk s F rs1 fp wh te nu en →
    hp_Mi l g z0 N ad y_D_takeEntity ws_D_takeEntity (rk (3 * d + 2)) [.ref (ad 0), .int (nI k), .int (nI stk.length), .int (nI h)] F (RP g ad kn rs lim stk fp F (md_en (txS kn rs) lim (subd (txS kn rs) lim d stk) stk k s h))
def TR (l : Launch) (g : hp_G) (z0 N : Nat) (ad : Nat → Nat) (kn : Nat → Bool) (rs : Nat → List Int32) (lim d : Nat) : Prop :=
  ∀ (stk : List Nat) (h : Nat) (s : md_S) (F : Nat → va_E) (rs1 : Nat → List Int32) (fp wh te nu en : Int32) (ent : Bool), d + 1 + stk.length = 27 → h < 1000 → te = b2 ent → (ent = true → ∃ k : Nat, k < 26 ∧ nu = nI k) → RI g ad kn rs lim stk s F rs1 fp wh te nu en →
    hp_Mi l g z0 N ad y_D_takeReference ws_D_takeReference (rk (3 * d + 3)) [.ref (ad 0), .int (nI stk.length), .int (nI h)] F (RP g ad kn rs lim stk fp F (md_wr (txS kn rs) lim (subd (txS kn rs) lim d stk) stk ent nu s h))
/-! numbers of a value's reading -/
/-- the fault is small, the meter within the limit, the depth small -/
def okR (lim : Nat) (r : md_R) : Prop := r.2.1 ≤ 8 ∧ r.1.2.1 ≤ lim ∧ r.1.2.2 ≤ 27
theorem md_ad_f (m : Nat) (a : List Int32) (c : Int32) : (md_ad m a c).2 ≤ 8 := by unfold md_ad; split <;> simp
theorem md_by_f (a : List Int32) (c : Int32) : (md_by a c).2 ≤ 8 := by
  unfold md_by
  split
  · simp
  · split
    · exact md_ad_f _ _ _
    · simp
theorem ok_en {tx : Nat → Option (List Int32)} {lim : Nat} {sub : Nat → List Int32 → md_S → Nat → md_R} {stk : List Nat} (hsub : ∀ k ys s h, k ∉ stk → s.2.1 ≤ lim → s.2.2 ≤ 27 → okR lim (sub k ys s h)) (hl : stk.length ≤ 26) {k : Nat} {s : md_S} {h : Nat} (h1 : s.2.1 ≤ lim) (h2 : s.2.2 ≤ 27) : okR lim (md_en tx lim sub stk k s h) := by
  unfold md_en
  split
  · exact ⟨by simp, h1, h2⟩
  · split
    · exact ⟨by simp, h1, h2⟩
    · rename_i hk
      split
      · exact ⟨by simp, h1, h2⟩
      · rename_i hl2
        exact hsub _ _ _ _ hk (by show s.2.1 + _ ≤ lim; omega) (by show max s.2.2 (stk.length + 1) ≤ 27; omega)
theorem ok_wr {tx : Nat → Option (List Int32)} {lim : Nat} {sub : Nat → List Int32 → md_S → Nat → md_R} {stk : List Nat} (hsub : ∀ k ys s h, k ∉ stk → s.2.1 ≤ lim → s.2.2 ≤ 27 → okR lim (sub k ys s h)) (hl : stk.length ≤ 26) {en : Bool} {nu : Int32} {s : md_S} {h : Nat} (h1 : s.2.1 ≤ lim) (h2 : s.2.2 ≤ 27) : okR lim (md_wr tx lim sub stk en nu s h) := by
  unfold md_wr
  split
  · exact ok_en hsub hl h1 h2
  · exact ⟨md_nu_f _ _ _, h1, h2⟩
theorem ok_it {tx : Nat → Option (List Int32)} {lim : Nat} {sub : Nat → List Int32 → md_S → Nat → md_R} {stk : List Nat} (hsub : ∀ k ys s h, k ∉ stk → s.2.1 ≤ lim → s.2.2 ≤ 27 → okR lim (sub k ys s h)) (hl : stk.length ≤ 26) {ou : Nat} {xs : List Int32} {i : Nat} {s : md_S} (h1 : s.2.1 ≤ lim) (h2 : s.2.2 ≤ 27) : okR lim (md_it tx lim sub stk ou xs i s) := by
  unfold md_it
  split
  · split
    · exact ok_wr hsub hl h1 h2
    · exact ⟨by show (if _ then 1 else 7) ≤ 8; split <;> omega, h1, h2⟩
  · exact ⟨md_by_f _ _, h1, h2⟩
theorem ok_lp {tx : Nat → Option (List Int32)} {lim : Nat} {sub : Nat → List Int32 → md_S → Nat → md_R} {stk : List Nat} (hsub : ∀ k ys s h, k ∉ stk → s.2.1 ≤ lim → s.2.2 ≤ 27 → okR lim (sub k ys s h)) (hl : stk.length ≤ 26) {ou : Nat} {xs : List Int32} : ∀ (n i : Nat) (s : md_S), s.2.1 ≤ lim → s.2.2 ≤ 27 → okR lim (md_lp tx lim sub stk ou xs n i s)
  | 0, _, s, h1, h2 => ⟨by simp [md_lp], h1, h2⟩
  | n + 1, i, s, h1, h2 => by
    have h3 := ok_it (tx := tx) hsub hl (ou := ou) (xs := xs) (i := i) h1 h2
    unfold md_lp
    split
    · split
      · exact ok_lp hsub hl n _ _ h3.2.1 h3.2.2
      · exact h3
    · exact ⟨by simp, h1, h2⟩
theorem ok_rv {tx : Nat → Option (List Int32)} {lim : Nat} : ∀ (d : Nat) (stk : List Nat) (ou : Nat) (xs : List Int32) (s : md_S), d + stk.length = 27 → s.2.1 ≤ lim → s.2.2 ≤ 27 → okR lim (md_rv tx lim d stk ou xs s)
  | 0, _, _, _, s, _, h1, h2 => ⟨by simp [md_rv], h1, h2⟩
  | d + 1, stk, ou, xs, s, hd, h1, h2 => by
    show okR lim (md_lp _ _ _ _ _ _ _ _ _)
    exact ok_lp (fun k ys s h _ a b => ok_rv d (k :: stk) h ys s (by rw [List.length_cons]; omega) a b) (by omega) _ _ _ h1 h2
theorem nu_k {c : Int32} (h1 : 97 ≤ c) (h2 : c ≤ 122) : ∃ k : Nat, k < 26 ∧ c - 97 = nI k := by
  rw [Int32.le_iff_toInt_le] at h1 h2
  have e1 : (97 : Int32).toInt = 97 := rfl
  have e2 : (122 : Int32).toInt = 122 := rfl
  have h0 : ¬ c < 0 := by
    rw [Int32.lt_iff_toInt_lt]
    have e0 : (0 : Int32).toInt = 0 := rfl
    omega
  obtain ⟨k, hk, e⟩ := nI_of h0
  subst e
  rw [nI_toInt hk] at h1 h2
  exact ⟨k - 97, by omega, pk_sub (b := 97) (by omega)⟩
theorem here_lt {stk : List Nat} {ou i : Nat} (h1 : ou < 1000) (h2 : i < 1000) : md_here stk ou i < 1000 := by unfold md_here; split <;> assumption
end
section
theorem mx_ok {a b : Nat} (ha : a < 2 ^ 31) (hb : b < 2 ^ 31) : (if nI a < nI b then nI b else nI a) = nI (max a b) := by
  split
  · rename_i h
    rw [nI_ltI ha hb] at h
    rw [Nat.max_eq_right (by omega)]
  · rename_i h
    rw [nI_ltI ha hb] at h
    rw [Nat.max_eq_left (by omega)]

set_option maxHeartbeats 400000 in
set_option maxRecDepth 100000 in
theorem te_of_rv (l : Launch) (g : hp_G) (z0 N : Nat) (ad : Nat → Nat) (hN : 87 ≤ N) (kn : Nat → Bool) (rs : Nat → List Int32) (lim d : Nat) (hRV : RV l g z0 N ad kn rs lim d) : TE l g z0 N ad kn rs lim d := by
  intro stk k h s F rs1 fp wh te nu en hd hk hh hI
  obtain ⟨hnd, hlt, hS, h5, hoth, hme, hdp, hlim⟩ := id hI
  have hstk := pig 26 stk hnd hlt
  refine hp_enter (cc := cc_D_takeEntity) (maxL := 6) (ret := (some .int)) (by decide) rfl (Nat.le_of_ble_eq_true rfl) ?_
  intro p e sM m below meth c S hr hlk hnm hK hW ls hl
  have hl : lv_has ls 6 [(0, .ref (ad 0)), (1, .int (nI k)), (2, .int (nI stk.length)), (3, .int (nI h))] := hl
  obtain ⟨hx, hb, hml, hown, hts⟩ := id S
  have in_kD : ∀ w ∈ u_ws R_D T_D 9, w ∈ ws_D_takeEntity := fun w h => List.mem_cons_of_mem _ (in0_D w h)
  have in_kE : ∀ w ∈ u_ws R_E T_E 3, w ∈ ws_D_takeEntity := fun w h => List.mem_cons_of_mem _ (in0_E w h)
  refine lv_aload_n hx hb d_D_takeEntity_0 rfl (lv_at hl 0 rfl) ?_
  refine lv_iload_n hx hb d_D_takeEntity_1 rfl (lv_at hl 1 rfl) ?_
  refine hp_goq hW (va_runV S (c_entityOf l g z0 N ad F hN rs1 kn (opS stk) fp (nI lim) (nI s.2.1) (nI s.2.2) wh te nu en hS (nI k)) (cwV 1 hts (tb_V cd_D_entityOf tq_26 tq_28 tq_29 tq_27) rfl rfl rfl hd_D_entityOf (rk_ok (by omega) (by omega))) (hp_preV hK hW (by omega) rfl hS.1 rfl) rfl rfl hl.1 rfl (lv_room (Nat.le_of_ble_eq_true rfl)) d_D_takeEntity_2 ⟨Nat.zero_le _, Nat.zero_le _⟩) (fun r_1 F_2 H locs hw hW => ?_)
  obtain ⟨hv, hF⟩ := hw
  rw [hF] at hW
  rw [hv, entA_in hk, va_rf_some]
  refine lv_astore (lv' := [(4, .ref (ad (8 + 3 * k))), (0, .ref (ad 0)), (1, .int (nI k)), (2, .int (nI stk.length)), (3, .int (nI h))]) hx hb d_D_takeEntity_5 hl (by decide) rfl (fun ls hl => ?_)
  refine lv_aload hx hb d_D_takeEntity_7 (lv_at hl 0 rfl) ?_
  refine lv_ifnull hx hb d_D_takeEntity_9 ?_
  refine lv_aload hx hb d_D_takeEntity_12 (lv_at hl 0 rfl) ?_
  refine hp_getN S hK hW (8 + 3 * k) (by omega) rfl (hS.2.2.2.1 k hk) rfl in_kE 1 (by decide) (List.mem_of_getElem? (i := 1) rfl) rfl d_D_takeEntity_14 ?_
  refine lv_if_ne (tgt := 27) hx hb d_D_takeEntity_17 (by decide) (fun c_17 => ?_) (fun c_17 => ?_)
  · have c_17i := c_17
    have htx : txS kn rs k = some (rs (9 + 3 * k)) := if_pos (b2_n0.mp c_17i)
    have hlk9 : (rs1 (9 + 3 * k)).length ≤ 100 := by have := (hS.row (rowp_e hk)).len; rw [cap_e] at this; exact this
    refine lv_aload hx hb d_D_takeEntity_27 (lv_at hl 0 rfl) ?_
    refine hp_getN S hK hW (8 + 3 * k) (by omega) rfl (hS.2.2.2.1 k hk) rfl in_kE 2 (by decide) (List.mem_of_getElem? (i := 2) rfl) rfl d_D_takeEntity_29 ?_
    refine lv_if_ne (tgt := 41) hx hb d_D_takeEntity_32 (by decide) (fun c_32 => ?_) (fun c_32 => ?_)
    · have c_32i := c_32
      refine lv_aload_n hx hb d_D_takeEntity_41 rfl (lv_at hl 1 rfl) ?_
      refine lv_iconst (v := 3) hx hb d_D_takeEntity_42 (by decide) ?_
      refine lv_iload_n hx hb d_D_takeEntity_43 rfl (lv_at hl 4 rfl) ?_
      refine hp_goi hW (va_runV S (c_fail l g z0 N ad F hN rs1 kn (opS stk) fp (nI lim) (nI s.2.1) (nI s.2.2) wh te nu en hS 3 (nI h)) (cwV 2 hts (tb_V cd_D_fail tq_56 tq_57 tq_58 tq_27) rfl rfl rfl hd_D_fail (rk_ok (by omega) (by omega))) (hp_preV hK hW (by omega) rfl hS.1 rfl) rfl rfl hl.1 rfl (lv_room (Nat.le_of_ble_eq_true rfl)) d_D_takeEntity_44 ⟨Nat.zero_le _, Nat.zero_le _⟩) (fun r_3 F_4 H locs hw hW => ?_)
      obtain ⟨hv1, hS1, hf1⟩ := hw
      rw [hv1]
      have hin : k ∈ stk := of_decide_eq_true (b2_n0.mp c_32i)
      have hX : (md_en (txS kn rs) lim (subd (txS kn rs) lim d stk) stk k s h) = (s, 3, h) := by unfold md_en; rw [htx]; exact if_pos hin
      exact hp_reti S hK hW hr hlk d_D_takeEntity_47 (by rw [hX]; exact ⟨rfl, ⟨rs1, _, _, _, _, hS1, h5, hoth⟩, hf1⟩)
    · have c_32i := c_32
      refine lv_iload_n hx hb d_D_takeEntity_35 rfl (lv_at hl 3 rfl) ?_
      refine lv_bipush (v := 26) hx hb d_D_takeEntity_36 (by decide) ?_
      refine lv_icmp_lt (tgt := 48) hx hb d_D_takeEntity_38 (by decide) (fun c_38 => ?_) (fun c_38 => ?_)
      · have c_38i := c_38
        replace c_38 : stk.length < 26 := (nI_ltI (a := stk.length) (b := 26) (by omega) (by omega)).mp c_38
        have hns : k ∉ stk := of_decide_eq_false (b2_0.mp c_32i)
        refine lv_aload hx hb d_D_takeEntity_48 (lv_at hl 0 rfl) ?_
        refine hp_getN S hK hW (8 + 3 * k) (by omega) rfl (hS.2.2.2.1 k hk) rfl in_kE 0 (by decide) (List.mem_of_getElem? (i := 0) rfl) rfl d_D_takeEntity_50 ?_
        refine hp_goi hW (va_runV S (s_size l g z0 N ad F hN rs1 kn (opS stk) fp (nI lim) (nI s.2.1) (nI s.2.2) wh te nu en hS (9 + 3 * k) (rowp_e hk)) (cwV 0 hts (tb_V cd_R_size tq_20 tq_21 tq_22 tq_3) rfl rfl rfl hd_R_size (rk_ok (by omega) (by omega))) (hp_preV hK hW (by omega) rfl (hS.row (rowp_e hk)).obj rfl) rfl rfl hl.1 rfl (lv_room (Nat.le_of_ble_eq_true rfl)) d_D_takeEntity_53 ⟨Nat.zero_le _, Nat.zero_le _⟩) (fun r_5 F_6 H locs hw hW => ?_)
        obtain ⟨hvq, hFq⟩ := hw
        rw [hFq] at hW
        rw [hvq]
        refine lv_aload_n hx hb d_D_takeEntity_56 rfl (lv_at hl 1 rfl) ?_
        refine hp_get S hK hW (0) (by omega) rfl hS.1 rfl in_kD 6 (by decide) (hts _ (List.mem_cons_of_mem _ tq_40)) rfl d_D_takeEntity_57 ?_
        refine lv_aload_n hx hb d_D_takeEntity_60 rfl (lv_at hl 1 rfl) ?_
        refine hp_get S hK hW (0) (by omega) rfl hS.1 rfl in_kD 7 (by decide) (hts _ (List.mem_cons_of_mem _ tq_41)) rfl d_D_takeEntity_61 ?_
        refine lv_isub hx hb d_D_takeEntity_64 ?_
        rw [show ((nI lim) - (nI s.2.1)) = (nI (lim - s.2.1)) from pk_sub (by omega)]
        refine lv_icmp_le (tgt := 76) hx hb d_D_takeEntity_65 (by decide) (fun c_65 => ?_) (fun c_65 => ?_)
        · have c_65i := c_65
          replace c_65 : (rs1 (9 + 3 * k)).length ≤ (lim - s.2.1) := (nI_leI (a := (rs1 (9 + 3 * k)).length) (b := (lim - s.2.1)) (by omega) (by omega)).mp c_65
          refine lv_aload_n hx hb d_D_takeEntity_76 rfl (lv_at hl 1 rfl) ?_
          refine lv_dup hx hb d_D_takeEntity_77 rfl ?_
          refine hp_get S hK hW (0) (by omega) rfl hS.1 rfl in_kD 7 (by decide) (hts _ (List.mem_cons_of_mem _ tq_41)) rfl d_D_takeEntity_78 ?_
          refine lv_aload hx hb d_D_takeEntity_81 (lv_at hl 0 rfl) ?_
          refine hp_getN S hK hW (8 + 3 * k) (by omega) rfl (hS.2.2.2.1 k hk) rfl in_kE 0 (by decide) (List.mem_of_getElem? (i := 0) rfl) rfl d_D_takeEntity_83 ?_
          refine hp_goi hW (va_runV S (s_size l g z0 N ad F hN rs1 kn (opS stk) fp (nI lim) (nI s.2.1) (nI s.2.2) wh te nu en hS (9 + 3 * k) (rowp_e hk)) (cwV 0 hts (tb_V cd_R_size tq_20 tq_21 tq_22 tq_3) rfl rfl rfl hd_R_size (rk_ok (by omega) (by omega))) (hp_preV hK hW (by omega) rfl (hS.row (rowp_e hk)).obj rfl) rfl rfl hl.1 rfl (lv_room (Nat.le_of_ble_eq_true rfl)) d_D_takeEntity_86 ⟨Nat.zero_le _, Nat.zero_le _⟩) (fun r_7 F_8 H locs hw hW => ?_)
          obtain ⟨hvq, hFq⟩ := hw
          rw [hFq] at hW
          rw [hvq]
          refine lv_iadd hx hb d_D_takeEntity_89 ?_
          rw [show ((nI s.2.1) + (nI (rs1 (9 + 3 * k)).length)) = (nI (s.2.1 + (rs1 (9 + 3 * k)).length)) from nI_add _ _]
          refine hp_put S hK hW (0) (by omega) rfl hS.1 rfl in_kD tyok_D nm_D 7 (by decide) (hts _ (List.mem_cons_of_mem _ tq_41)) rfl rfl rfl (Nat.le_of_ble_eq_true rfl) d_D_takeEntity_90 (fun H locs hW => ?_)
          obtain ⟨F_9, eF_9⟩ : ∃ z, z = va_up F (0) (.inr (kD, [.ref (ad 1), .ref (ad 3), .ref (ad 5), .ref (ad 7), .ref (ad 86), .int fp, .int (nI lim), .int (nI (s.2.1 + (rs1 (9 + 3 * k)).length)), .int (nI s.2.2)])) := ⟨_, rfl⟩
          replace hW : hp_W g z0 N ad F_9 sM.heap H locs := by rw [eF_9]; exact hW
          have f_10 : F_9 (0) = .inr (kD, [.ref (ad 1), .ref (ad 3), .ref (ad 5), .ref (ad 7), .ref (ad 86), .int fp, .int (nI lim), .int (nI (s.2.1 + (rs1 (9 + 3 * k)).length)), .int (nI s.2.2)]) := by rw [eF_9, va_up_self]
          have f_11 : F_9 (86) = .inr (kF, [.int wh, .int te, .int nu, .int en]) := by rw [eF_9, va_up_ne _ _ (by omega)]; exact hS.2.2.2.2
          have f_12 : F_9 (1) = .inr (kR, [.ref (ad (1 + 1)), .int (nI (rs1 1).length)]) := by rw [eF_9, va_up_ne _ _ (by omega)]; exact (hS.row rowp_1).obj
          have f_13 : F_9 (3) = .inr (kR, [.ref (ad (3 + 1)), .int (nI (rs1 3).length)]) := by rw [eF_9, va_up_ne _ _ (by omega)]; exact (hS.row rowp_3).obj
          have f_14 : F_9 (5) = .inr (kR, [.ref (ad (5 + 1)), .int (nI (rs1 5).length)]) := by rw [eF_9, va_up_ne _ _ (by omega)]; exact (hS.row rowp_5).obj
          have f_15 : F_9 (8 + 3 * k) = .inr (kE, [.ref (ad (9 + 3 * k)), .int (b2 (kn k)), .int (b2 ((opS stk) k))]) := by rw [eF_9, va_up_ne _ _ (by omega)]; exact (hS.2.2.2.1 k hk)
          have f_16 : F_9 (9 + 3 * k) = .inr (kR, [.ref (ad (9 + 3 * k + 1)), .int (nI ((rs1) (9 + 3 * k)).length)]) := by rw [eF_9, va_up_ne _ _ (by omega)]; exact (hS.row (rowp_e hk)).obj
          have hf1 : vFr F F_9 := fun x hx => by rw [eF_9, va_up_ne _ _ (by omega)]
          have hS1 := hS.desk f_10 (fun x hx => by rw [eF_9, va_up_ne _ _ hx])
          refine lv_aload_n hx hb d_D_takeEntity_93 rfl (lv_at hl 1 rfl) ?_
          refine lv_aload_n hx hb d_D_takeEntity_94 rfl (lv_at hl 1 rfl) ?_
          refine hp_get S hK hW (0) (by omega) rfl hS1.1 rfl in_kD 8 (by decide) (hts _ (List.mem_cons_of_mem _ tq_42)) rfl d_D_takeEntity_95 ?_
          refine lv_iload_n hx hb d_D_takeEntity_98 rfl (lv_at hl 3 rfl) ?_
          refine lv_iconst (v := 1) hx hb d_D_takeEntity_99 (by decide) ?_
          refine lv_iadd hx hb d_D_takeEntity_100 ?_
          rw [show ((nI stk.length) + 1) = (nI (stk.length + 1)) from (nI_succ _).symm]
          refine va_mmax hx hb (hml.trans hl.1.symm) hown (hts _ (List.mem_cons_of_mem _ tq_94)) (hts _ (List.mem_cons_of_mem _ tq_ms)) (hts _ (List.mem_cons_of_mem _ tq_mi)) (hts _ (List.mem_cons_of_mem _ tq_mc)) (by simp only [rk]; omega) (by simp only [rk]; show _ + 13 ≤ _; simp [Value.category]; omega) (Nat.zero_le _) (Nat.zero_le _) d_D_takeEntity_101 ?_
          rw [show (if ((nI s.2.2)) < (nI (stk.length + 1)) then (nI (stk.length + 1)) else ((nI s.2.2))) = nI (max s.2.2 (stk.length + 1)) from mx_ok (by omega) (by omega)]
          refine hp_put S hK hW (0) (by omega) rfl hS1.1 rfl in_kD tyok_D nm_D 8 (by decide) (hts _ (List.mem_cons_of_mem _ tq_42)) rfl rfl rfl (Nat.le_of_ble_eq_true rfl) d_D_takeEntity_104 (fun H locs hW => ?_)
          obtain ⟨F_17, eF_17⟩ : ∃ z, z = va_up F_9 (0) (.inr (kD, [.ref (ad 1), .ref (ad 3), .ref (ad 5), .ref (ad 7), .ref (ad 86), .int fp, .int (nI lim), .int ((nI (s.2.1 + (rs1 (9 + 3 * k)).length))), .int (nI (max s.2.2 (stk.length + 1)))])) := ⟨_, rfl⟩
          replace hW : hp_W g z0 N ad F_17 sM.heap H locs := by rw [eF_17]; exact hW
          have f_18 : F_17 (0) = .inr (kD, [.ref (ad 1), .ref (ad 3), .ref (ad 5), .ref (ad 7), .ref (ad 86), .int fp, .int (nI lim), .int ((nI (s.2.1 + (rs1 (9 + 3 * k)).length))), .int (nI (max s.2.2 (stk.length + 1)))]) := by rw [eF_17, va_up_self]
          have f_19 : F_17 (86) = .inr (kF, [.int wh, .int te, .int nu, .int en]) := by rw [eF_17, va_up_ne _ _ (by omega)]; exact hS1.2.2.2.2
          have f_20 : F_17 (1) = .inr (kR, [.ref (ad (1 + 1)), .int (nI (rs1 1).length)]) := by rw [eF_17, va_up_ne _ _ (by omega)]; exact (hS1.row rowp_1).obj
          have f_21 : F_17 (3) = .inr (kR, [.ref (ad (3 + 1)), .int (nI (rs1 3).length)]) := by rw [eF_17, va_up_ne _ _ (by omega)]; exact (hS1.row rowp_3).obj
          have f_22 : F_17 (5) = .inr (kR, [.ref (ad (5 + 1)), .int (nI (rs1 5).length)]) := by rw [eF_17, va_up_ne _ _ (by omega)]; exact (hS1.row rowp_5).obj
          have f_23 : F_17 (8 + 3 * k) = .inr (kE, [.ref (ad (9 + 3 * k)), .int (b2 (kn k)), .int (b2 ((opS stk) k))]) := by rw [eF_17, va_up_ne _ _ (by omega)]; exact (hS1.2.2.2.1 k hk)
          have f_24 : F_17 (9 + 3 * k) = .inr (kR, [.ref (ad (9 + 3 * k + 1)), .int (nI ((rs1) (9 + 3 * k)).length)]) := by rw [eF_17, va_up_ne _ _ (by omega)]; exact (hS1.row (rowp_e hk)).obj
          have hf2 : vFr F_9 F_17 := fun x hx => by rw [eF_17, va_up_ne _ _ (by omega)]
          have hS2 := hS1.desk f_18 (fun x hx => by rw [eF_17, va_up_ne _ _ hx])
          refine lv_aload hx hb d_D_takeEntity_107 (lv_at hl 0 rfl) ?_
          refine lv_iconst (v := 1) hx hb d_D_takeEntity_109 (by decide) ?_
          refine hp_putN S hK hW (8 + 3 * k) (by omega) rfl (hS2.2.2.2.1 k hk) rfl in_kE tyok_E nm_E 2 (by decide) (List.mem_of_getElem? (i := 2) rfl) rfl rfl rfl (Nat.le_of_ble_eq_true rfl) d_D_takeEntity_110 (fun H locs hW => ?_)
          obtain ⟨F_25, eF_25⟩ : ∃ z, z = va_up F_17 (8 + 3 * k) (.inr (kE, [.ref (ad (9 + 3 * k)), .int (b2 (kn k)), .int 1])) := ⟨_, rfl⟩
          replace hW : hp_W g z0 N ad F_25 sM.heap H locs := by rw [eF_25]; exact hW
          have f_26 : F_25 (0) = .inr (kD, [.ref (ad 1), .ref (ad 3), .ref (ad 5), .ref (ad 7), .ref (ad 86), .int fp, .int (nI lim), .int (((nI (s.2.1 + (rs1 (9 + 3 * k)).length)))), .int ((nI (max s.2.2 (stk.length + 1))))]) := by rw [eF_25, va_up_ne _ _ (by omega)]; exact hS2.1
          have f_27 : F_25 (86) = .inr (kF, [.int wh, .int te, .int nu, .int en]) := by rw [eF_25, va_up_ne _ _ (by omega)]; exact hS2.2.2.2.2
          have f_28 : F_25 (1) = .inr (kR, [.ref (ad (1 + 1)), .int (nI (rs1 1).length)]) := by rw [eF_25, va_up_ne _ _ (by omega)]; exact (hS2.row rowp_1).obj
          have f_29 : F_25 (3) = .inr (kR, [.ref (ad (3 + 1)), .int (nI (rs1 3).length)]) := by rw [eF_25, va_up_ne _ _ (by omega)]; exact (hS2.row rowp_3).obj
          have f_30 : F_25 (5) = .inr (kR, [.ref (ad (5 + 1)), .int (nI (rs1 5).length)]) := by rw [eF_25, va_up_ne _ _ (by omega)]; exact (hS2.row rowp_5).obj
          have f_31 : F_25 (8 + 3 * k) = .inr (kE, [.ref (ad (9 + 3 * k)), .int (b2 (kn k)), .int 1]) := by rw [eF_25, va_up_self]
          have f_32 : F_25 (9 + 3 * k) = .inr (kR, [.ref (ad (9 + 3 * k + 1)), .int (nI ((rs1) (9 + 3 * k)).length)]) := by rw [eF_25, va_up_ne _ _ (by omega)]; exact (hS2.row (rowp_e hk)).obj
          have hf3 : vFr F_17 F_25 := fun x hx => by rw [eF_25, va_up_ne _ _ (by omega)]
          have hS3 := hS2.setEnt (k := k) hk (u := kn k) (v := true) f_31 (fun x hx => by rw [eF_25, va_up_ne _ _ hx])
          rw [va_up_eta, opS_up] at hS3
          refine lv_aload_n hx hb d_D_takeEntity_113 rfl (lv_at hl 1 rfl) ?_
          refine lv_aload hx hb d_D_takeEntity_114 (lv_at hl 0 rfl) ?_
          refine hp_getN S hK hW (8 + 3 * k) (by omega) rfl (hS3.2.2.2.1 k hk) rfl in_kE 0 (by decide) (List.mem_of_getElem? (i := 0) rfl) rfl d_D_takeEntity_116 ?_
          refine lv_iload_n hx hb d_D_takeEntity_119 rfl (lv_at hl 3 rfl) ?_
          refine lv_iconst (v := 1) hx hb d_D_takeEntity_120 (by decide) ?_
          refine lv_iadd hx hb d_D_takeEntity_121 ?_
          rw [show ((nI stk.length) + 1) = (nI (k :: stk).length) from (nI_succ _).symm]
          refine lv_iload_n hx hb d_D_takeEntity_122 rfl (lv_at hl 4 rfl) ?_
          have hlen9 : (rs1 (9 + 3 * k)).length = (rs (9 + 3 * k)).length := by rw [hoth _ (by omega)]
          rw [hlen9] at hS3
          have hRI : RI g ad kn rs lim (k :: stk) (s.1, s.2.1 + (rs (9 + 3 * k)).length, max s.2.2 (stk.length + 1)) F_25 rs1 fp wh te nu en := ⟨List.nodup_cons.mpr ⟨hns, hnd⟩, fun x hx => by rcases List.mem_cons.mp hx with rfl | h2; exact hk; exact hlt x h2, hS3, h5, hoth, by show s.2.1 + _ ≤ lim; omega, by show max s.2.2 (stk.length + 1) ≤ 27; omega, hlim⟩
          refine hp_goi hW (va_runV S (hRV (k :: stk) h (9 + 3 * k) (s.1, s.2.1 + (rs (9 + 3 * k)).length, max s.2.2 (stk.length + 1)) F_25 rs1 fp wh te nu en (nI h) (by rw [List.length_cons]; omega) (rowp_e hk) (by omega) hh (by rw [if_neg (by rw [List.length_cons]; omega)]) hRI) (cwV 3 hts (tb_V cd_D_readValue tq_43 tq_44 tq_45 tq_27) rfl rfl rfl hd_D_readValue (rk_ok (by omega) (by omega))) (hp_preV hK hW (by omega) rfl hS3.1 rfl) rfl rfl hl.1 rfl (lv_room (Nat.le_of_ble_eq_true rfl)) d_D_takeEntity_123 ⟨Nat.zero_le _, Nat.zero_le _⟩) (fun r_33 F_34 H locs hw hW => ?_)
          obtain ⟨hv5, ⟨rs2, wh2, te2, nu2, en2, hS5, h52, ho2⟩, hf5⟩ := hw
          rw [hv5]
          refine lv_istore (lv' := [(5, .int (nI (md_rv (txS kn rs) lim d (k :: stk) h (rs (9 + 3 * k)) (s.1, s.2.1 + (rs (9 + 3 * k)).length, max s.2.2 (stk.length + 1))).2.1)), (4, .ref (ad (8 + 3 * k))), (0, .ref (ad 0)), (1, .int (nI k)), (2, .int (nI stk.length)), (3, .int (nI h))]) hx hb d_D_takeEntity_126 hl (by decide) rfl (fun ls hl => ?_)
          refine lv_aload hx hb d_D_takeEntity_128 (lv_at hl 1 rfl) ?_
          refine lv_iconst (v := 0) hx hb d_D_takeEntity_130 (by decide) ?_
          refine hp_putN S hK hW (8 + 3 * k) (by omega) rfl (hS5.2.2.2.1 k hk) rfl in_kE tyok_E nm_E 2 (by decide) (List.mem_of_getElem? (i := 2) rfl) rfl rfl rfl (Nat.le_of_ble_eq_true rfl) d_D_takeEntity_131 (fun H locs hW => ?_)
          obtain ⟨F_35, eF_35⟩ : ∃ z, z = va_up F_34 (8 + 3 * k) (.inr (kE, [.ref (ad (9 + 3 * k)), .int (b2 (kn k)), .int 0])) := ⟨_, rfl⟩
          replace hW : hp_W g z0 N ad F_35 sM.heap H locs := by rw [eF_35]; exact hW
          have f_36 : F_35 (0) = .inr (kD, [.ref (ad 1), .ref (ad 3), .ref (ad 5), .ref (ad 7), .ref (ad 86), .int (pf (md_rv (txS kn rs) lim d (k :: stk) h (rs (9 + 3 * k)) (s.1, s.2.1 + (rs (9 + 3 * k)).length, max s.2.2 (stk.length + 1))).2.1 fp (nI (md_rv (txS kn rs) lim d (k :: stk) h (rs (9 + 3 * k)) (s.1, s.2.1 + (rs (9 + 3 * k)).length, max s.2.2 (stk.length + 1))).2.2)), .int (nI lim), .int (nI (md_rv (txS kn rs) lim d (k :: stk) h (rs (9 + 3 * k)) (s.1, s.2.1 + (rs (9 + 3 * k)).length, max s.2.2 (stk.length + 1))).1.2.1), .int (nI (md_rv (txS kn rs) lim d (k :: stk) h (rs (9 + 3 * k)) (s.1, s.2.1 + (rs (9 + 3 * k)).length, max s.2.2 (stk.length + 1))).1.2.2)]) := by rw [eF_35, va_up_ne _ _ (by omega)]; exact hS5.1
          have f_37 : F_35 (86) = .inr (kF, [.int wh2, .int te2, .int nu2, .int en2]) := by rw [eF_35, va_up_ne _ _ (by omega)]; exact hS5.2.2.2.2
          have f_38 : F_35 (1) = .inr (kR, [.ref (ad (1 + 1)), .int (nI (rs2 1).length)]) := by rw [eF_35, va_up_ne _ _ (by omega)]; exact (hS5.row rowp_1).obj
          have f_39 : F_35 (3) = .inr (kR, [.ref (ad (3 + 1)), .int (nI (rs2 3).length)]) := by rw [eF_35, va_up_ne _ _ (by omega)]; exact (hS5.row rowp_3).obj
          have f_40 : F_35 (5) = .inr (kR, [.ref (ad (5 + 1)), .int (nI (rs2 5).length)]) := by rw [eF_35, va_up_ne _ _ (by omega)]; exact (hS5.row rowp_5).obj
          have f_41 : F_35 (8 + 3 * k) = .inr (kE, [.ref (ad (9 + 3 * k)), .int (b2 (kn k)), .int 0]) := by rw [eF_35, va_up_self]
          have hf6 : vFr F_34 F_35 := fun x hx => by rw [eF_35, va_up_ne _ _ (by omega)]
          have hS6 := hS5.setEnt (k := k) hk (u := kn k) (v := false) f_41 (fun x hx => by rw [eF_35, va_up_ne _ _ hx])
          rw [va_up_eta, opS_dn hns] at hS6
          refine lv_iload hx hb d_D_takeEntity_134 (lv_at hl 0 rfl) ?_
          have hX : (md_en (txS kn rs) lim (subd (txS kn rs) lim d stk) stk k s h) = (md_rv (txS kn rs) lim d (k :: stk) h (rs (9 + 3 * k)) (s.1, s.2.1 + (rs (9 + 3 * k)).length, max s.2.2 (stk.length + 1))) := by unfold md_en; rw [htx]; exact (if_neg hns).trans (if_neg (by rw [← hoth (9 + 3 * k) (by omega)]; omega))
          exact hp_reti S hK hW hr hlk d_D_takeEntity_136 (by rw [hX]; exact ⟨rfl, ⟨rs2, _, _, _, _, hS6, h52, ho2⟩, ((((hf1.tr hf2).tr hf3).tr hf5).tr hf6)⟩)
        · have c_65i := c_65
          replace c_65 : ¬ (rs1 (9 + 3 * k)).length ≤ (lim - s.2.1) := fun zz9 => c_65 ((nI_leI (a := (rs1 (9 + 3 * k)).length) (b := (lim - s.2.1)) (by omega) (by omega)).mpr zz9)
          refine lv_aload_n hx hb d_D_takeEntity_68 rfl (lv_at hl 1 rfl) ?_
          refine lv_bipush (v := 6) hx hb d_D_takeEntity_69 (by decide) ?_
          refine lv_iload_n hx hb d_D_takeEntity_71 rfl (lv_at hl 4 rfl) ?_
          refine hp_goi hW (va_runV S (c_fail l g z0 N ad F hN rs1 kn (opS stk) fp (nI lim) (nI s.2.1) (nI s.2.2) wh te nu en hS 6 (nI h)) (cwV 2 hts (tb_V cd_D_fail tq_56 tq_57 tq_58 tq_27) rfl rfl rfl hd_D_fail (rk_ok (by omega) (by omega))) (hp_preV hK hW (by omega) rfl hS.1 rfl) rfl rfl hl.1 rfl (lv_room (Nat.le_of_ble_eq_true rfl)) d_D_takeEntity_72 ⟨Nat.zero_le _, Nat.zero_le _⟩) (fun r_42 F_43 H locs hw hW => ?_)
          obtain ⟨hv1, hS1, hf1⟩ := hw
          rw [hv1]
          have hX : (md_en (txS kn rs) lim (subd (txS kn rs) lim d stk) stk k s h) = (s, 6, h) := by unfold md_en; rw [htx]; exact (if_neg hns).trans (if_pos (by rw [← hoth (9 + 3 * k) (by omega)]; omega))
          exact hp_reti S hK hW hr hlk d_D_takeEntity_75 (by rw [hX]; exact ⟨rfl, ⟨rs1, _, _, _, _, hS1, h5, hoth⟩, hf1⟩)
      · have c_38i := c_38
        replace c_38 : ¬ stk.length < 26 := fun zz9 => c_38 ((nI_ltI (a := stk.length) (b := 26) (by omega) (by omega)).mpr zz9)
        refine lv_aload_n hx hb d_D_takeEntity_41 rfl (lv_at hl 1 rfl) ?_
        refine lv_iconst (v := 3) hx hb d_D_takeEntity_42 (by decide) ?_
        refine lv_iload_n hx hb d_D_takeEntity_43 rfl (lv_at hl 4 rfl) ?_
        refine hp_goi hW (va_runV S (c_fail l g z0 N ad F hN rs1 kn (opS stk) fp (nI lim) (nI s.2.1) (nI s.2.2) wh te nu en hS 3 (nI h)) (cwV 2 hts (tb_V cd_D_fail tq_56 tq_57 tq_58 tq_27) rfl rfl rfl hd_D_fail (rk_ok (by omega) (by omega))) (hp_preV hK hW (by omega) rfl hS.1 rfl) rfl rfl hl.1 rfl (lv_room (Nat.le_of_ble_eq_true rfl)) d_D_takeEntity_44 ⟨Nat.zero_le _, Nat.zero_le _⟩) (fun r_44 F_45 H locs hw hW => ?_)
        obtain ⟨hv1, hS1, hf1⟩ := hw
        rw [hv1]
        have hin : k ∈ stk := Classical.byContradiction (fun hn => by have h1 := pig 26 (k :: stk) (List.nodup_cons.mpr ⟨hn, hnd⟩) (fun x hx => by rcases List.mem_cons.mp hx with rfl | h2; exact hk; exact hlt x h2); rw [List.length_cons] at h1; omega)
        have hX : (md_en (txS kn rs) lim (subd (txS kn rs) lim d stk) stk k s h) = (s, 3, h) := by unfold md_en; rw [htx]; exact if_pos hin
        exact hp_reti S hK hW hr hlk d_D_takeEntity_47 (by rw [hX]; exact ⟨rfl, ⟨rs1, _, _, _, _, hS1, h5, hoth⟩, hf1⟩)
  · have c_17i := c_17
    refine lv_aload_n hx hb d_D_takeEntity_20 rfl (lv_at hl 1 rfl) ?_
    refine lv_iconst (v := 2) hx hb d_D_takeEntity_21 (by decide) ?_
    refine lv_iload_n hx hb d_D_takeEntity_22 rfl (lv_at hl 4 rfl) ?_
    refine hp_goi hW (va_runV S (c_fail l g z0 N ad F hN rs1 kn (opS stk) fp (nI lim) (nI s.2.1) (nI s.2.2) wh te nu en hS 2 (nI h)) (cwV 2 hts (tb_V cd_D_fail tq_56 tq_57 tq_58 tq_27) rfl rfl rfl hd_D_fail (rk_ok (by omega) (by omega))) (hp_preV hK hW (by omega) rfl hS.1 rfl) rfl rfl hl.1 rfl (lv_room (Nat.le_of_ble_eq_true rfl)) d_D_takeEntity_23 ⟨Nat.zero_le _, Nat.zero_le _⟩) (fun r_46 F_47 H locs hw hW => ?_)
    obtain ⟨hv1, hS1, hf1⟩ := hw
    rw [hv1]
    have hX : (md_en (txS kn rs) lim (subd (txS kn rs) lim d stk) stk k s h) = (s, 2, h) := by unfold md_en; rw [(show txS kn rs k = none from if_neg (by rw [b2_0.mp c_17i]; exact fun z => by cases z))]
    exact hp_reti S hK hW hr hlk d_D_takeEntity_26 (by rw [hX]; exact ⟨rfl, ⟨rs1, _, _, _, _, hS1, h5, hoth⟩, hf1⟩)

set_option maxHeartbeats 400000 in
set_option maxRecDepth 100000 in
theorem tr_of_te (l : Launch) (g : hp_G) (z0 N : Nat) (ad : Nat → Nat) (hN : 87 ≤ N) (kn : Nat → Bool) (rs : Nat → List Int32) (lim d : Nat) (hTE : TE l g z0 N ad kn rs lim d) : TR l g z0 N ad kn rs lim d := by
  intro stk h s F rs1 fp wh te nu en ent hd hh hte hent hI
  subst hte
  obtain ⟨hnd, hlt, hS, h5, hoth, hme, hdp, hlim⟩ := id hI
  have hstk := pig 26 stk hnd hlt
  refine hp_enter (cc := cc_D_takeReference) (maxL := 3) (ret := (some .int)) (by decide) rfl (Nat.le_of_ble_eq_true rfl) ?_
  intro p e sM m below meth c S hr hlk hnm hK hW ls hl
  have hl : lv_has ls 3 [(0, .ref (ad 0)), (1, .int (nI stk.length)), (2, .int (nI h))] := hl
  obtain ⟨hx, hb, hml, hown, hts⟩ := id S
  have in_kD : ∀ w ∈ u_ws R_D T_D 9, w ∈ ws_D_takeReference := fun w h => List.mem_cons_of_mem _ (in0_D w h)
  have in_kF : ∀ w ∈ u_ws R_F T_F 4, w ∈ ws_D_takeReference := fun w h => List.mem_cons_of_mem _ (in0_F w h)
  refine lv_aload_n hx hb d_D_takeReference_0 rfl (lv_at hl 0 rfl) ?_
  refine hp_get S hK hW (0) (by omega) rfl hS.1 rfl in_kD 4 (by decide) (hts _ (List.mem_cons_of_mem _ tq_18)) rfl d_D_takeReference_1 ?_
  refine hp_getN S hK hW (86) (by omega) rfl hS.2.2.2.2 rfl in_kF 1 (by decide) (List.mem_of_getElem? (i := 4) rfl) rfl d_D_takeReference_4 ?_
  refine lv_if_eq (tgt := 26) hx hb d_D_takeReference_7 (by decide) (fun c_7 => ?_) (fun c_7 => ?_)
  · have c_7i := c_7
    refine lv_aload_n hx hb d_D_takeReference_26 rfl (lv_at hl 0 rfl) ?_
    refine lv_aload_n hx hb d_D_takeReference_27 rfl (lv_at hl 0 rfl) ?_
    refine hp_get S hK hW (0) (by omega) rfl hS.1 rfl in_kD 2 (by decide) (hts _ (List.mem_cons_of_mem _ tq_8)) rfl d_D_takeReference_28 ?_
    refine lv_iload_n hx hb d_D_takeReference_31 rfl (lv_at hl 2 rfl) ?_
    refine hp_goi hW (va_runV S (c_addByNumber l g z0 N ad F hN rs1 kn (opS stk) fp (nI lim) (nI s.2.1) (nI s.2.2) wh (b2 ent) nu en hS 5 rowp_5 (nI h)) (cwV 2 hts (tb_V cd_D_addByNumber tq_79 tq_80 tq_81 tq_27) rfl rfl rfl hd_D_addByNumber (rk_ok (by omega) (by omega))) (hp_preV hK hW (by omega) rfl hS.1 rfl) rfl rfl hl.1 rfl (lv_room (Nat.le_of_ble_eq_true rfl)) d_D_takeReference_32 ⟨Nat.zero_le _, Nat.zero_le _⟩) (fun r_1 F_2 H locs hw hW => ?_)
    obtain ⟨hv1, hS1, hf1⟩ := hw
    rw [hv1]
    have hX : md_wr (txS kn rs) lim (subd (txS kn rs) lim d stk) stk ent nu s h = (((md_nu 300 s.1 nu).1, s.2), (md_nu 300 s.1 nu).2, h) := if_neg (by rw [b2_0.mp c_7i]; exact fun z => by cases z)
    rw [h5] at hS1
    exact hp_reti S hK hW hr hlk d_D_takeReference_35 (by rw [hX, h5]; exact ⟨rfl, ⟨_, _, _, _, _, hS1, va_up_self _ _ _, fun j hj => (va_up_ne _ _ hj).trans (hoth j hj)⟩, hf1⟩)
  · have c_7i := c_7
    refine lv_aload_n hx hb d_D_takeReference_10 rfl (lv_at hl 0 rfl) ?_
    refine lv_aload_n hx hb d_D_takeReference_11 rfl (lv_at hl 0 rfl) ?_
    refine hp_get S hK hW (0) (by omega) rfl hS.1 rfl in_kD 4 (by decide) (hts _ (List.mem_cons_of_mem _ tq_18)) rfl d_D_takeReference_12 ?_
    refine hp_getN S hK hW (86) (by omega) rfl hS.2.2.2.2 rfl in_kF 2 (by decide) (List.mem_of_getElem? (i := 5) rfl) rfl d_D_takeReference_15 ?_
    refine lv_iload_n hx hb d_D_takeReference_18 rfl (lv_at hl 1 rfl) ?_
    refine lv_iload_n hx hb d_D_takeReference_19 rfl (lv_at hl 2 rfl) ?_
    obtain ⟨k, hk, ek⟩ := hent (b2_n0.mp c_7i)
    subst ek
    refine hp_goi hW (va_runV S (hTE stk k h s F rs1 fp wh (b2 ent) (nI k) en hd hk hh hI) (cwV 3 hts (tb_V cd_D_takeEntity tq_91 tq_92 tq_93 tq_27) rfl rfl rfl hd_D_takeEntity (rk_ok (by omega) (by omega))) (hp_preV hK hW (by omega) rfl hS.1 rfl) rfl rfl hl.1 rfl (lv_room (Nat.le_of_ble_eq_true rfl)) d_D_takeReference_20 ⟨Nat.zero_le _, Nat.zero_le _⟩) (fun r_3 F_4 H locs hw hW => ?_)
    refine lv_goto (tgt := 35) hx hb d_D_takeReference_23 (by decide) ?_
    have hX : md_wr (txS kn rs) lim (subd (txS kn rs) lim d stk) stk ent (nI k) s h = md_en (txS kn rs) lim (subd (txS kn rs) lim d stk) stk k s h := by unfold md_wr; rw [if_pos (b2_n0.mp c_7i), nI_clamp (by omega)]
    exact hp_reti S hK hW hr hlk d_D_takeReference_35 (by rw [hX]; exact hw)

/-! readValue: its loop -/
set_option maxHeartbeats 400000 in
set_option maxRecDepth 100000 in
theorem lp_readValue {p : Program} {e : Env} {sM : State} {m : MethodId} {args : Array Value} {below : List Frame} {meth : Method} {c : Code} (l : Launch) (g : hp_G) (z0 N : Nat) (ad : Nat → Nat)  (hN : 87 ≤ N) (kn : Nat → Bool) (rs : Nat → List Int32) (lim d : Nat) (hTR : TR l g z0 N ad kn rs lim d) (stk : List Nat) (ou j0 : Nat) (hj0 : rowp j0) (hj5 : j0 ≠ 5) (hou : ou < 1000) (o3 : Int32) (ho3 : o3 = (if stk.length = 0 then -1 else nI ou)) (hd : d + 1 + stk.length = 27) (xs : List Int32) (hxs0 : rs j0 = xs) (hxl : xs.length ≤ 300) (R : md_R) (Fz : Nat → va_E) (fz : Int32) (S : CallFix p m c cc_D_readValue 8 sM args ws_D_readValue R_D) (hr : meth.sig.returnType = (some .int)) (hlk : meth.locks = false) (hK : hp_K g sM) : ∀ (j : Nat) (k b n : Nat) (s : md_S) (F : Nat → va_E) (rs1 : Nat → List Int32) (wh te nu en : Int32), k ≤ xs.length → xs.length + 1 ≤ k + j → b ≤ 400 → xs.length ≤ max k b + n → R = md_lp (txS kn rs) lim (subd (txS kn rs) lim d stk) stk ou xs n (max k b) s → RI g ad kn rs lim stk s F rs1 fz wh te nu en → vFr Fz F → ∀ (H : Heap) (locs : List Loc) (ls : Array Slot), hp_W g z0 N ad F sM.heap H locs → lv_has ls 8 [(0, .ref (ad 0)), (1, .ref (ad j0)), (2, .int (nI stk.length)), (3, .int o3), (4, .int (nI b)), (5, .int (nI k))] → W p l e (rk (3 * (d + 1) + 1)) sM m args below meth c H locs 0 0 (MQ below (va_Qi (RP g ad kn rs lim stk fz Fz R) (hp_B g z0 N ad) (hp_A z0)) args sM 0 0 (hp_A z0)) (F0 m 6 ls []) := by
  obtain ⟨hx, hb, hml, hown, hts⟩ := id S
  have in_kD : ∀ w ∈ u_ws R_D T_D 9, w ∈ ws_D_readValue := fun w h => List.mem_cons_of_mem _ (in0_D w h)
  have in_kF : ∀ w ∈ u_ws R_F T_F 4, w ∈ ws_D_readValue := fun w h => List.mem_cons_of_mem _ (in0_F w h)
  intro j
  induction j with
  | zero =>
    intro k b n s F rs1 wh te nu en hk hj hb0 hn hR hI hfr H locs ls hW hl
    exact absurd hj (by omega)
  | succ j ih =>
    intro k b n s F rs1 wh te nu en hk hj hb0 hn hR hI hfr H locs ls hW hl
    obtain ⟨hnd, hlt, hS, h5, hoth, hme, hdp, hlim⟩ := id hI
    have hxs : rs1 j0 = xs := (hoth j0 hj5).trans hxs0
    have hjl := rowp_lt hj0
    refine lv_iload hx hb d_D_readValue_6 (lv_at hl 5 rfl) ?_
    refine lv_aload_n hx hb d_D_readValue_8 rfl (lv_at hl 1 rfl) ?_
    refine hp_goi hW (va_runV S (s_size l g z0 N ad F hN rs1 kn (opS stk) fz (nI lim) (nI s.2.1) (nI s.2.2) wh te nu en hS j0 hj0) (cwV 0 hts (tb_V cd_R_size tq_20 tq_21 tq_22 tq_3) rfl rfl rfl hd_R_size (rk_ok (by omega) (by omega))) (hp_preV hK hW (by omega) rfl (hS.row hj0).obj rfl) rfl rfl hl.1 rfl (lv_room (Nat.le_of_ble_eq_true rfl)) d_D_readValue_9 ⟨Nat.zero_le _, Nat.zero_le _⟩) (fun r_1 F_2 H locs hw hW => ?_)
    obtain ⟨hvq, hFq⟩ := hw
    rw [hFq] at hW
    rw [hvq]
    rw [hxs]
    refine lv_icmp_ge (tgt := 127) hx hb d_D_readValue_12 (by decide) (fun c_12 => ?_) (fun c_12 => ?_)
    · have c_12i := c_12
      replace c_12 : xs.length ≤ k := (nI_leI (a := xs.length) (b := k) (by omega) (by omega)).mp c_12
      refine lv_iconst (v := 0) hx hb d_D_readValue_127 (by decide) ?_
      have hR1 : R = (s, 0, 0) := by rw [hR]; exact md_lp_end (by omega)
      exact hp_reti S hK hW hr hlk d_D_readValue_128 (⟨by rw [hR1]; rfl, ⟨rs1, _, _, _, _, by rw [hR1]; exact hS, by rw [hR1]; exact h5, hoth⟩, hfr⟩)
    · have c_12i := c_12
      replace c_12 : ¬ xs.length ≤ k := fun zz9 => c_12 ((nI_leI (a := xs.length) (b := k) (by omega) (by omega)).mpr zz9)
      refine lv_iload hx hb d_D_readValue_15 (lv_at hl 5 rfl) ?_
      refine lv_iload hx hb d_D_readValue_17 (lv_at hl 4 rfl) ?_
      refine lv_icmp_ge (tgt := 25) hx hb d_D_readValue_19 (by decide) (fun c_19 => ?_) (fun c_19 => ?_)
      · have c_19i := c_19
        replace c_19 : b ≤ k := (nI_leI (a := b) (b := k) (by omega) (by omega)).mp c_19
        refine lv_iload_n hx hb d_D_readValue_25 rfl (lv_at hl 2 rfl) ?_
        refine lv_if_ne (tgt := 34) hx hb d_D_readValue_26 (by decide) (fun c_26 => ?_) (fun c_26 => ?_)
        · have c_26i := c_26
          replace c_26 : ¬ stk.length = 0 := fun zz9 => c_26 ((nI_eq (a := stk.length) (b := 0) (by omega) (by omega)).mpr zz9)
          refine lv_iload_n hx hb d_D_readValue_34 rfl (lv_at hl 3 rfl) ?_
          rw [show o3 = nI (md_here stk ou k) from by rw [ho3]; unfold md_here; rw [if_neg c_26, if_neg c_26]]
          refine lv_istore (lv' := [(6, .int (nI (md_here stk ou k))), (0, .ref (ad 0)), (1, .ref (ad j0)), (2, .int (nI stk.length)), (3, .int o3), (4, .int (nI b)), (5, .int (nI k))]) hx hb d_D_readValue_35 hl (by decide) rfl (fun ls hl => ?_)
          refine lv_aload_n hx hb d_D_readValue_37 rfl (lv_at hl 2 rfl) ?_
          refine lv_iload hx hb d_D_readValue_38 (lv_at hl 6 rfl) ?_
          refine hp_goi hW (va_runV S (s_at l g z0 N ad F hN rs1 kn (opS stk) fz (nI lim) (nI s.2.1) (nI s.2.2) wh te nu en hS j0 hj0 k (by omega)) (cwV 1 hts (tb_V cd_R_at tq_59 tq_60 tq_61 tq_3) rfl rfl rfl hd_R_at (rk_ok (by omega) (by omega))) (hp_preV hK hW (by omega) rfl (hS.row hj0).obj rfl) rfl rfl hl.1 rfl (lv_room (Nat.le_of_ble_eq_true rfl)) d_D_readValue_40 ⟨Nat.zero_le _, Nat.zero_le _⟩) (fun r_3 F_4 H locs hw hW => ?_)
          obtain ⟨hvq, hFq⟩ := hw
          rw [hFq] at hW
          rw [hvq]
          rw [hxs]
          refine lv_bipush (v := 38) hx hb d_D_readValue_43 (by decide) ?_
          refine lv_icmp_ne (tgt := 99) hx hb d_D_readValue_45 (by decide) (fun c_45 => ?_) (fun c_45 => ?_)
          · have c_45i := c_45
            have h38 := c_45i
            refine lv_aload_n hx hb d_D_readValue_99 rfl (lv_at hl 1 rfl) ?_
            refine lv_aload_n hx hb d_D_readValue_100 rfl (lv_at hl 2 rfl) ?_
            refine lv_iload hx hb d_D_readValue_101 (lv_at hl 6 rfl) ?_
            refine hp_goi hW (va_runV S (s_at l g z0 N ad F hN rs1 kn (opS stk) fz (nI lim) (nI s.2.1) (nI s.2.2) wh te nu en hS j0 hj0 k (by omega)) (cwV 1 hts (tb_V cd_R_at tq_59 tq_60 tq_61 tq_3) rfl rfl rfl hd_R_at (rk_ok (by omega) (by omega))) (hp_preV hK hW (by omega) rfl (hS.row hj0).obj rfl) rfl rfl hl.1 rfl (lv_room (Nat.le_of_ble_eq_true rfl)) d_D_readValue_103 ⟨Nat.zero_le _, Nat.zero_le _⟩) (fun r_5 F_6 H locs hw hW => ?_)
            obtain ⟨hvq, hFq⟩ := hw
            rw [hFq] at hW
            rw [hvq]
            rw [hxs]
            refine lv_iload hx hb d_D_readValue_106 (lv_at hl 0 rfl) ?_
            refine hp_goi hW (va_runV S (c_takeByte l g z0 N ad F hN rs1 kn (opS stk) fz (nI lim) (nI s.2.1) (nI s.2.2) wh te nu en hS (md_at xs k) (nI (md_here stk ou k))) (cwV 2 hts (tb_V cd_D_takeByte tq_88 tq_89 tq_90 tq_27) rfl rfl rfl hd_D_takeByte (rk_ok (by omega) (by omega))) (hp_preV hK hW (by omega) rfl hS.1 rfl) rfl rfl hl.1 rfl (lv_room (Nat.le_of_ble_eq_true rfl)) d_D_readValue_108 ⟨Nat.zero_le _, Nat.zero_le _⟩) (fun r_7 F_8 H locs hw hW => ?_)
            obtain ⟨hv2, hS2, hf2⟩ := hw
            rw [h5] at hv2 hS2
            have hIT : (md_it (txS kn rs) lim (subd (txS kn rs) lim d stk) stk ou xs k s) = (((md_by s.1 (md_at xs k)).1, s.2), (md_by s.1 (md_at xs k)).2, (md_here stk ou k)) := if_neg h38
            replace hv2 : r_7 = nI (md_it (txS kn rs) lim (subd (txS kn rs) lim d stk) stk ou xs k s).2.1 := by rw [hIT]; exact hv2
            obtain ⟨rs2, wh2, te2, nu2, en2, hS2, h52, ho2⟩ : ∃ (rs2 : Nat → List Int32) (wh te nu en : Int32), vSt g ad F_8 rs2 kn (opS stk) (pf (md_it (txS kn rs) lim (subd (txS kn rs) lim d stk) stk ou xs k s).2.1 fz (nI (md_it (txS kn rs) lim (subd (txS kn rs) lim d stk) stk ou xs k s).2.2)) (nI lim) (nI (md_it (txS kn rs) lim (subd (txS kn rs) lim d stk) stk ou xs k s).1.2.1) (nI (md_it (txS kn rs) lim (subd (txS kn rs) lim d stk) stk ou xs k s).1.2.2) wh te nu en ∧ rs2 5 = (md_it (txS kn rs) lim (subd (txS kn rs) lim d stk) stk ou xs k s).1.1 ∧ ∀ j, j ≠ 5 → rs2 j = rs j := ⟨_, _, _, _, _, by rw [hIT]; exact hS2, by rw [hIT]; exact va_up_self _ _ _, fun j hj => (va_up_ne _ _ hj).trans (hoth j hj)⟩
            rw [hv2]
            refine lv_istore (lv' := [(7, .int (nI (md_it (txS kn rs) lim (subd (txS kn rs) lim d stk) stk ou xs k s).2.1)), (6, .int (nI (md_here stk ou k))), (0, .ref (ad 0)), (1, .ref (ad j0)), (2, .int (nI stk.length)), (3, .int o3), (4, .int (nI b)), (5, .int (nI k))]) hx hb d_D_readValue_111 hl (by decide) rfl (fun ls hl => ?_)
            have hok := ok_it (tx := (txS kn rs)) (lim := lim) (sub := (subd (txS kn rs) lim d stk)) (stk := stk) (ou := ou) (xs := xs) (i := k) (s := s) (fun k ys s h _ a b => ok_rv d (k :: stk) h ys s (by rw [List.length_cons]; omega) a b) (by omega) hme hdp
            have hok1 := hok.1
            refine lv_iload hx hb d_D_readValue_113 (lv_at hl 0 rfl) ?_
            refine lv_if_eq (tgt := 121) hx hb d_D_readValue_115 (by decide) (fun c_115 => ?_) (fun c_115 => ?_)
            · have c_115i := c_115
              replace c_115 : (md_it (txS kn rs) lim (subd (txS kn rs) lim d stk) stk ou xs k s).2.1 = 0 := (nI_eq (a := (md_it (txS kn rs) lim (subd (txS kn rs) lim d stk) stk ou xs k s).2.1) (b := 0) (by omega) (by omega)).mp c_115
              refine lv_iinc (v := (nI (k + 1))) (lv' := [(5, .int (nI (k + 1))), (7, .int (nI (md_it (txS kn rs) lim (subd (txS kn rs) lim d stk) stk ou xs k s).2.1)), (6, .int (nI (md_here stk ou k))), (0, .ref (ad 0)), (1, .ref (ad j0)), (2, .int (nI stk.length)), (3, .int o3), (4, .int (nI b))]) hx hb d_D_readValue_121 hl (k := 7) rfl ((nI_succ (k)).symm) (by decide) rfl (fun ls hl => ?_)
              refine lv_goto (tgt := 6) hx hb d_D_readValue_124 (by decide) ?_
              have ek : max k b = k := by omega
              have hnx : md_nx xs k = k + 1 := if_neg h38
              have enx : max (k + 1) (b) = md_nx xs k := by rw [hnx]; omega
              obtain ⟨n1, rfl⟩ : ∃ n1, n = n1 + 1 := ⟨n - 1, by omega⟩
              rw [ek] at hR
              have hR2 : R = md_lp (txS kn rs) lim (subd (txS kn rs) lim d stk) stk ou xs n1 (max (k + 1) (b)) (md_it (txS kn rs) lim (subd (txS kn rs) lim d stk) stk ou xs k s).1 := by rw [enx, hR]; exact md_lp_go (by omega) c_115
              rw [c_115, pf_0 rfl] at hS2
              exact ih (k + 1) (b) n1 (md_it (txS kn rs) lim (subd (txS kn rs) lim d stk) stk ou xs k s).1 F_8 rs2 _ _ _ _ (by omega) (by omega) (by omega) (by have := md_nx_ge xs k; rw [enx]; omega) hR2 ⟨hnd, hlt, hS2, h52, ho2, hok.2.1, hok.2.2, hlim⟩ (hfr.tr hf2) H locs ls hW (lv_sub hl [3, 4, 5, 6, 7, 0] rfl)
            · have c_115i := c_115
              replace c_115 : ¬ (md_it (txS kn rs) lim (subd (txS kn rs) lim d stk) stk ou xs k s).2.1 = 0 := fun zz9 => c_115 ((nI_eq (a := (md_it (txS kn rs) lim (subd (txS kn rs) lim d stk) stk ou xs k s).2.1) (b := 0) (by omega) (by omega)).mpr zz9)
              refine lv_iload hx hb d_D_readValue_118 (lv_at hl 0 rfl) ?_
              have ek : max k b = k := by omega
              obtain ⟨n1, rfl⟩ : ∃ n1, n = n1 + 1 := ⟨n - 1, by omega⟩
              rw [ek] at hR
              have hR1 : R = (md_it (txS kn rs) lim (subd (txS kn rs) lim d stk) stk ou xs k s) := by rw [hR]; exact md_lp_no (by omega) c_115
              exact hp_reti S hK hW hr hlk d_D_readValue_120 (⟨by rw [hR1], ⟨rs2, _, _, _, _, by rw [hR1]; exact hS2, by rw [hR1]; exact h52, ho2⟩, hfr.tr hf2⟩)
          · have c_45i := c_45
            have h38 := c_45i
            refine lv_aload_n hx hb d_D_readValue_48 rfl (lv_at hl 1 rfl) ?_
            refine hp_get S hK hW (0) (by omega) rfl hS.1 rfl in_kD 4 (by decide) (hts _ (List.mem_cons_of_mem _ tq_18)) rfl d_D_readValue_49 ?_
            refine lv_aload_n hx hb d_D_readValue_52 rfl (lv_at hl 2 rfl) ?_
            refine lv_iload hx hb d_D_readValue_53 (lv_at hl 6 rfl) ?_
            refine hp_gov hW (va_runV S (s_read l g z0 N ad F hN rs1 kn (opS stk) fz (nI lim) (nI s.2.1) (nI s.2.2) wh te nu en hS j0 hj0 k (by omega)) (cwV 2 hts (tb_V cd_F_read tq_62 tq_63 tq_64 tq_16) rfl rfl rfl hd_F_read (rk_ok (by omega) (by omega))) (hp_preV hK hW (by omega) rfl hS.2.2.2.2 rfl) rfl rfl hl.1 rfl (lv_room (Nat.le_of_ble_eq_true rfl)) d_D_readValue_55 ⟨Nat.zero_le _, Nat.zero_le _⟩) (fun F_10 H locs hw hW => ?_)
            obtain ⟨nu1, hS1, hnu1, hf1⟩ := hw
            rw [hxs] at hS1 hnu1
            have hre := md_ref_end xs k
            refine lv_aload_n hx hb d_D_readValue_58 rfl (lv_at hl 1 rfl) ?_
            refine hp_get S hK hW (0) (by omega) rfl hS1.1 rfl in_kD 4 (by decide) (hts _ (List.mem_cons_of_mem _ tq_18)) rfl d_D_readValue_59 ?_
            refine hp_getN S hK hW (86) (by omega) rfl hS1.2.2.2.2 rfl in_kF 3 (by decide) (List.mem_of_getElem? (i := 6) rfl) rfl d_D_readValue_62 ?_
            refine lv_istore (lv' := [(4, .int (nI (md_ref xs k).2.2.2)), (6, .int (nI (md_here stk ou k))), (0, .ref (ad 0)), (1, .ref (ad j0)), (2, .int (nI stk.length)), (3, .int o3), (5, .int (nI k))]) hx hb d_D_readValue_65 hl (by decide) rfl (fun ls hl => ?_)
            refine lv_aload_n hx hb d_D_readValue_67 rfl (lv_at hl 2 rfl) ?_
            refine hp_get S hK hW (0) (by omega) rfl hS1.1 rfl in_kD 4 (by decide) (hts _ (List.mem_cons_of_mem _ tq_18)) rfl d_D_readValue_68 ?_
            refine hp_getN S hK hW (86) (by omega) rfl hS1.2.2.2.2 rfl in_kF 0 (by decide) (List.mem_of_getElem? (i := 3) rfl) rfl d_D_readValue_71 ?_
            refine lv_if_eq (tgt := 87) hx hb d_D_readValue_74 (by decide) (fun c_74 => ?_) (fun c_74 => ?_)
            · have c_74i := c_74
              refine lv_aload_n hx hb d_D_readValue_87 rfl (lv_at hl 2 rfl) ?_
              refine lv_aload_n hx hb d_D_readValue_88 rfl (lv_at hl 3 rfl) ?_
              refine lv_iload_n hx hb d_D_readValue_89 rfl (lv_at hl 4 rfl) ?_
              refine lv_iload_n hx hb d_D_readValue_90 rfl (lv_at hl 5 rfl) ?_
              refine hp_goi hW (va_runV S (c_failBroken l g z0 N ad F_10 hN rs1 kn (opS stk) fz (nI lim) (nI s.2.1) (nI s.2.2) (b2 (md_ref xs k).1) (b2 (md_ref xs k).2.1) nu1 (nI (md_ref xs k).2.2.2) hS1 j0 hj0 stk.length (md_ref xs k).2.2.2 (by omega) (by omega) rfl (by rw [hxs]; omega) o3) (cwV 3 hts (tb_V cd_D_failBroken tq_85 tq_86 tq_87 tq_27) rfl rfl rfl hd_D_failBroken (rk_ok (by omega) (by omega))) (hp_preV hK hW (by omega) rfl hS1.1 rfl) rfl rfl hl.1 rfl (lv_room (Nat.le_of_ble_eq_true rfl)) d_D_readValue_91 ⟨Nat.zero_le _, Nat.zero_le _⟩) (fun r_11 F_12 H locs hw hW => ?_)
              obtain ⟨hv2, hS2, hf2⟩ := hw
              rw [hxs] at hv2
              have hIT : (md_it (txS kn rs) lim (subd (txS kn rs) lim d stk) stk ou xs k s) = (s, if stk.length = 0 ∨ (md_ref xs k).2.2.2 < xs.length then 1 else 7, md_here stk ou (md_ref xs k).2.2.2) := by unfold md_it; rw [if_pos h38, if_neg (by rw [b2_0.mp c_74i]; exact fun z => by cases z)]
              replace hv2 : r_11 = nI (md_it (txS kn rs) lim (subd (txS kn rs) lim d stk) stk ou xs k s).2.1 := by rw [hIT]; exact hv2
              have hne : ¬ (md_it (txS kn rs) lim (subd (txS kn rs) lim d stk) stk ou xs k s).2.1 = 0 := by rw [hIT]; show ¬ (if _ then 1 else 7) = 0; split <;> omega
              obtain ⟨rs2, wh2, te2, nu2, en2, hS2, h52, ho2⟩ : ∃ (rs2 : Nat → List Int32) (wh te nu en : Int32), vSt g ad F_12 rs2 kn (opS stk) (pf (md_it (txS kn rs) lim (subd (txS kn rs) lim d stk) stk ou xs k s).2.1 fz (nI (md_it (txS kn rs) lim (subd (txS kn rs) lim d stk) stk ou xs k s).2.2)) (nI lim) (nI (md_it (txS kn rs) lim (subd (txS kn rs) lim d stk) stk ou xs k s).1.2.1) (nI (md_it (txS kn rs) lim (subd (txS kn rs) lim d stk) stk ou xs k s).1.2.2) wh te nu en ∧ rs2 5 = (md_it (txS kn rs) lim (subd (txS kn rs) lim d stk) stk ou xs k s).1.1 ∧ ∀ j, j ≠ 5 → rs2 j = rs j := ⟨rs1, _, _, _, _, by rw [pf_n hne, hIT]; show vSt g ad _ rs1 kn (opS stk) (nI (md_here stk ou _)) _ _ _ _ _ _ _; rw [show nI (md_here stk ou (md_ref xs k).2.2.2) = (if stk.length = 0 then nI (md_ref xs k).2.2.2 else o3) by rw [ho3]; unfold md_here; split <;> rfl]; exact hS2, by rw [hIT]; exact h5, hoth⟩
              rw [hv2]
              refine lv_istore (lv' := [(7, .int (nI (md_it (txS kn rs) lim (subd (txS kn rs) lim d stk) stk ou xs k s).2.1)), (4, .int (nI (md_ref xs k).2.2.2)), (6, .int (nI (md_here stk ou k))), (0, .ref (ad 0)), (1, .ref (ad j0)), (2, .int (nI stk.length)), (3, .int o3), (5, .int (nI k))]) hx hb d_D_readValue_94 hl (by decide) rfl (fun ls hl => ?_)
              refine lv_goto (tgt := 113) hx hb d_D_readValue_96 (by decide) ?_
              have hok := ok_it (tx := (txS kn rs)) (lim := lim) (sub := (subd (txS kn rs) lim d stk)) (stk := stk) (ou := ou) (xs := xs) (i := k) (s := s) (fun k ys s h _ a b => ok_rv d (k :: stk) h ys s (by rw [List.length_cons]; omega) a b) (by omega) hme hdp
              have hok1 := hok.1
              refine lv_iload hx hb d_D_readValue_113 (lv_at hl 0 rfl) ?_
              refine lv_if_eq (tgt := 121) hx hb d_D_readValue_115 (by decide) (fun c_115 => ?_) (fun c_115 => ?_)
              · have c_115i := c_115
                replace c_115 : (md_it (txS kn rs) lim (subd (txS kn rs) lim d stk) stk ou xs k s).2.1 = 0 := (nI_eq (a := (md_it (txS kn rs) lim (subd (txS kn rs) lim d stk) stk ou xs k s).2.1) (b := 0) (by omega) (by omega)).mp c_115
                refine lv_iinc (v := (nI (k + 1))) (lv' := [(5, .int (nI (k + 1))), (7, .int (nI (md_it (txS kn rs) lim (subd (txS kn rs) lim d stk) stk ou xs k s).2.1)), (4, .int (nI (md_ref xs k).2.2.2)), (6, .int (nI (md_here stk ou k))), (0, .ref (ad 0)), (1, .ref (ad j0)), (2, .int (nI stk.length)), (3, .int o3)]) hx hb d_D_readValue_121 hl (k := 7) rfl ((nI_succ (k)).symm) (by decide) rfl (fun ls hl => ?_)
                refine lv_goto (tgt := 6) hx hb d_D_readValue_124 (by decide) ?_
                have ek : max k b = k := by omega
                have hnx : md_nx xs k = (md_ref xs k).2.2.2 := if_pos h38
                have enx : max (k + 1) ((md_ref xs k).2.2.2) = md_nx xs k := by rw [hnx]; omega
                obtain ⟨n1, rfl⟩ : ∃ n1, n = n1 + 1 := ⟨n - 1, by omega⟩
                rw [ek] at hR
                have hR2 : R = md_lp (txS kn rs) lim (subd (txS kn rs) lim d stk) stk ou xs n1 (max (k + 1) ((md_ref xs k).2.2.2)) (md_it (txS kn rs) lim (subd (txS kn rs) lim d stk) stk ou xs k s).1 := by rw [enx, hR]; exact md_lp_go (by omega) c_115
                rw [c_115, pf_0 rfl] at hS2
                exact ih (k + 1) ((md_ref xs k).2.2.2) n1 (md_it (txS kn rs) lim (subd (txS kn rs) lim d stk) stk ou xs k s).1 F_12 rs2 _ _ _ _ (by omega) (by omega) (by omega) (by have := md_nx_ge xs k; rw [enx]; omega) hR2 ⟨hnd, hlt, hS2, h52, ho2, hok.2.1, hok.2.2, hlim⟩ (hfr.tr (hf1.tr hf2)) H locs ls hW (lv_sub hl [4, 5, 6, 7, 2, 0] rfl)
              · have c_115i := c_115
                replace c_115 : ¬ (md_it (txS kn rs) lim (subd (txS kn rs) lim d stk) stk ou xs k s).2.1 = 0 := fun zz9 => c_115 ((nI_eq (a := (md_it (txS kn rs) lim (subd (txS kn rs) lim d stk) stk ou xs k s).2.1) (b := 0) (by omega) (by omega)).mpr zz9)
                refine lv_iload hx hb d_D_readValue_118 (lv_at hl 0 rfl) ?_
                have ek : max k b = k := by omega
                obtain ⟨n1, rfl⟩ : ∃ n1, n = n1 + 1 := ⟨n - 1, by omega⟩
                rw [ek] at hR
                have hR1 : R = (md_it (txS kn rs) lim (subd (txS kn rs) lim d stk) stk ou xs k s) := by rw [hR]; exact md_lp_no (by omega) c_115
                exact hp_reti S hK hW hr hlk d_D_readValue_120 (⟨by rw [hR1], ⟨rs2, _, _, _, _, by rw [hR1]; exact hS2, by rw [hR1]; exact h52, ho2⟩, hfr.tr (hf1.tr hf2)⟩)
            · have c_74i := c_74
              refine lv_aload_n hx hb d_D_readValue_77 rfl (lv_at hl 2 rfl) ?_
              refine lv_iload_n hx hb d_D_readValue_78 rfl (lv_at hl 4 rfl) ?_
              refine lv_iload hx hb d_D_readValue_79 (lv_at hl 1 rfl) ?_
              have hI1 : RI g ad kn rs lim stk s F_10 rs1 fz (b2 (md_ref xs k).1) (b2 (md_ref xs k).2.1) nu1 (nI (md_ref xs k).2.2.2) := ⟨hnd, hlt, hS1, h5, hoth, hme, hdp, hlim⟩
              have hwt := b2_n0.mp c_74i
              refine hp_goi hW (va_runV S (hTR stk (md_here stk ou k) s F_10 rs1 fz _ _ nu1 _ (md_ref xs k).2.1 (by omega) (here_lt hou (by omega)) rfl (fun z => by have h9 := md_ref_ent hwt z; obtain ⟨kk, hkk, ekk⟩ := nu_k h9.1.1 h9.1.2; exact ⟨kk, hkk, by rw [hnu1 hwt, h9.2.1, ekk]⟩) hI1) (cwV 2 hts (tb_V cd_D_takeReference tq_82 tq_83 tq_84 tq_27) rfl rfl rfl hd_D_takeReference (rk_ok (by omega) (by omega))) (hp_preV hK hW (by omega) rfl hS1.1 rfl) rfl rfl hl.1 rfl (lv_room (Nat.le_of_ble_eq_true rfl)) d_D_readValue_81 ⟨Nat.zero_le _, Nat.zero_le _⟩) (fun r_13 F_14 H locs hw hW => ?_)
              have hIT : (md_it (txS kn rs) lim (subd (txS kn rs) lim d stk) stk ou xs k s) = md_wr (txS kn rs) lim (subd (txS kn rs) lim d stk) stk (md_ref xs k).2.1 nu1 s (md_here stk ou k) := by unfold md_it; rw [if_pos h38, if_pos hwt, hnu1 hwt]
              rw [← hIT] at hw
              obtain ⟨hv2, ⟨rs2, wh2, te2, nu2, en2, hS2, h52, ho2⟩, hf2⟩ := hw
              rw [hv2]
              refine lv_goto (tgt := 94) hx hb d_D_readValue_84 (by decide) ?_
              refine lv_istore (lv' := [(7, .int (nI (md_it (txS kn rs) lim (subd (txS kn rs) lim d stk) stk ou xs k s).2.1)), (4, .int (nI (md_ref xs k).2.2.2)), (6, .int (nI (md_here stk ou k))), (0, .ref (ad 0)), (1, .ref (ad j0)), (2, .int (nI stk.length)), (3, .int o3), (5, .int (nI k))]) hx hb d_D_readValue_94 hl (by decide) rfl (fun ls hl => ?_)
              refine lv_goto (tgt := 113) hx hb d_D_readValue_96 (by decide) ?_
              have hok := ok_it (tx := (txS kn rs)) (lim := lim) (sub := (subd (txS kn rs) lim d stk)) (stk := stk) (ou := ou) (xs := xs) (i := k) (s := s) (fun k ys s h _ a b => ok_rv d (k :: stk) h ys s (by rw [List.length_cons]; omega) a b) (by omega) hme hdp
              have hok1 := hok.1
              refine lv_iload hx hb d_D_readValue_113 (lv_at hl 0 rfl) ?_
              refine lv_if_eq (tgt := 121) hx hb d_D_readValue_115 (by decide) (fun c_115 => ?_) (fun c_115 => ?_)
              · have c_115i := c_115
                replace c_115 : (md_it (txS kn rs) lim (subd (txS kn rs) lim d stk) stk ou xs k s).2.1 = 0 := (nI_eq (a := (md_it (txS kn rs) lim (subd (txS kn rs) lim d stk) stk ou xs k s).2.1) (b := 0) (by omega) (by omega)).mp c_115
                refine lv_iinc (v := (nI (k + 1))) (lv' := [(5, .int (nI (k + 1))), (7, .int (nI (md_it (txS kn rs) lim (subd (txS kn rs) lim d stk) stk ou xs k s).2.1)), (4, .int (nI (md_ref xs k).2.2.2)), (6, .int (nI (md_here stk ou k))), (0, .ref (ad 0)), (1, .ref (ad j0)), (2, .int (nI stk.length)), (3, .int o3)]) hx hb d_D_readValue_121 hl (k := 7) rfl ((nI_succ (k)).symm) (by decide) rfl (fun ls hl => ?_)
                refine lv_goto (tgt := 6) hx hb d_D_readValue_124 (by decide) ?_
                have ek : max k b = k := by omega
                have hnx : md_nx xs k = (md_ref xs k).2.2.2 := if_pos h38
                have enx : max (k + 1) ((md_ref xs k).2.2.2) = md_nx xs k := by rw [hnx]; omega
                obtain ⟨n1, rfl⟩ : ∃ n1, n = n1 + 1 := ⟨n - 1, by omega⟩
                rw [ek] at hR
                have hR2 : R = md_lp (txS kn rs) lim (subd (txS kn rs) lim d stk) stk ou xs n1 (max (k + 1) ((md_ref xs k).2.2.2)) (md_it (txS kn rs) lim (subd (txS kn rs) lim d stk) stk ou xs k s).1 := by rw [enx, hR]; exact md_lp_go (by omega) c_115
                rw [c_115, pf_0 rfl] at hS2
                exact ih (k + 1) ((md_ref xs k).2.2.2) n1 (md_it (txS kn rs) lim (subd (txS kn rs) lim d stk) stk ou xs k s).1 F_14 rs2 _ _ _ _ (by omega) (by omega) (by omega) (by have := md_nx_ge xs k; rw [enx]; omega) hR2 ⟨hnd, hlt, hS2, h52, ho2, hok.2.1, hok.2.2, hlim⟩ (hfr.tr (hf1.tr hf2)) H locs ls hW (lv_sub hl [4, 5, 6, 7, 2, 0] rfl)
              · have c_115i := c_115
                replace c_115 : ¬ (md_it (txS kn rs) lim (subd (txS kn rs) lim d stk) stk ou xs k s).2.1 = 0 := fun zz9 => c_115 ((nI_eq (a := (md_it (txS kn rs) lim (subd (txS kn rs) lim d stk) stk ou xs k s).2.1) (b := 0) (by omega) (by omega)).mpr zz9)
                refine lv_iload hx hb d_D_readValue_118 (lv_at hl 0 rfl) ?_
                have ek : max k b = k := by omega
                obtain ⟨n1, rfl⟩ : ∃ n1, n = n1 + 1 := ⟨n - 1, by omega⟩
                rw [ek] at hR
                have hR1 : R = (md_it (txS kn rs) lim (subd (txS kn rs) lim d stk) stk ou xs k s) := by rw [hR]; exact md_lp_no (by omega) c_115
                exact hp_reti S hK hW hr hlk d_D_readValue_120 (⟨by rw [hR1], ⟨rs2, _, _, _, _, by rw [hR1]; exact hS2, by rw [hR1]; exact h52, ho2⟩, hfr.tr (hf1.tr hf2)⟩)
        · have c_26i := c_26
          replace c_26 : stk.length = 0 := (nI_eq (a := stk.length) (b := 0) (by omega) (by omega)).mp c_26
          refine lv_iload hx hb d_D_readValue_29 (lv_at hl 5 rfl) ?_
          refine lv_goto (tgt := 35) hx hb d_D_readValue_31 (by decide) ?_
          rw [show (nI k) = nI (md_here stk ou k) from by unfold md_here; rw [if_pos c_26]]
          refine lv_istore (lv' := [(6, .int (nI (md_here stk ou k))), (0, .ref (ad 0)), (1, .ref (ad j0)), (2, .int (nI stk.length)), (3, .int o3), (4, .int (nI b)), (5, .int (nI k))]) hx hb d_D_readValue_35 hl (by decide) rfl (fun ls hl => ?_)
          refine lv_aload_n hx hb d_D_readValue_37 rfl (lv_at hl 2 rfl) ?_
          refine lv_iload hx hb d_D_readValue_38 (lv_at hl 6 rfl) ?_
          refine hp_goi hW (va_runV S (s_at l g z0 N ad F hN rs1 kn (opS stk) fz (nI lim) (nI s.2.1) (nI s.2.2) wh te nu en hS j0 hj0 k (by omega)) (cwV 1 hts (tb_V cd_R_at tq_59 tq_60 tq_61 tq_3) rfl rfl rfl hd_R_at (rk_ok (by omega) (by omega))) (hp_preV hK hW (by omega) rfl (hS.row hj0).obj rfl) rfl rfl hl.1 rfl (lv_room (Nat.le_of_ble_eq_true rfl)) d_D_readValue_40 ⟨Nat.zero_le _, Nat.zero_le _⟩) (fun r_15 F_16 H locs hw hW => ?_)
          obtain ⟨hvq, hFq⟩ := hw
          rw [hFq] at hW
          rw [hvq]
          rw [hxs]
          refine lv_bipush (v := 38) hx hb d_D_readValue_43 (by decide) ?_
          refine lv_icmp_ne (tgt := 99) hx hb d_D_readValue_45 (by decide) (fun c_45 => ?_) (fun c_45 => ?_)
          · have c_45i := c_45
            have h38 := c_45i
            refine lv_aload_n hx hb d_D_readValue_99 rfl (lv_at hl 1 rfl) ?_
            refine lv_aload_n hx hb d_D_readValue_100 rfl (lv_at hl 2 rfl) ?_
            refine lv_iload hx hb d_D_readValue_101 (lv_at hl 6 rfl) ?_
            refine hp_goi hW (va_runV S (s_at l g z0 N ad F hN rs1 kn (opS stk) fz (nI lim) (nI s.2.1) (nI s.2.2) wh te nu en hS j0 hj0 k (by omega)) (cwV 1 hts (tb_V cd_R_at tq_59 tq_60 tq_61 tq_3) rfl rfl rfl hd_R_at (rk_ok (by omega) (by omega))) (hp_preV hK hW (by omega) rfl (hS.row hj0).obj rfl) rfl rfl hl.1 rfl (lv_room (Nat.le_of_ble_eq_true rfl)) d_D_readValue_103 ⟨Nat.zero_le _, Nat.zero_le _⟩) (fun r_17 F_18 H locs hw hW => ?_)
            obtain ⟨hvq, hFq⟩ := hw
            rw [hFq] at hW
            rw [hvq]
            rw [hxs]
            refine lv_iload hx hb d_D_readValue_106 (lv_at hl 0 rfl) ?_
            refine hp_goi hW (va_runV S (c_takeByte l g z0 N ad F hN rs1 kn (opS stk) fz (nI lim) (nI s.2.1) (nI s.2.2) wh te nu en hS (md_at xs k) (nI (md_here stk ou k))) (cwV 2 hts (tb_V cd_D_takeByte tq_88 tq_89 tq_90 tq_27) rfl rfl rfl hd_D_takeByte (rk_ok (by omega) (by omega))) (hp_preV hK hW (by omega) rfl hS.1 rfl) rfl rfl hl.1 rfl (lv_room (Nat.le_of_ble_eq_true rfl)) d_D_readValue_108 ⟨Nat.zero_le _, Nat.zero_le _⟩) (fun r_19 F_20 H locs hw hW => ?_)
            obtain ⟨hv2, hS2, hf2⟩ := hw
            rw [h5] at hv2 hS2
            have hIT : (md_it (txS kn rs) lim (subd (txS kn rs) lim d stk) stk ou xs k s) = (((md_by s.1 (md_at xs k)).1, s.2), (md_by s.1 (md_at xs k)).2, (md_here stk ou k)) := if_neg h38
            replace hv2 : r_19 = nI (md_it (txS kn rs) lim (subd (txS kn rs) lim d stk) stk ou xs k s).2.1 := by rw [hIT]; exact hv2
            obtain ⟨rs2, wh2, te2, nu2, en2, hS2, h52, ho2⟩ : ∃ (rs2 : Nat → List Int32) (wh te nu en : Int32), vSt g ad F_20 rs2 kn (opS stk) (pf (md_it (txS kn rs) lim (subd (txS kn rs) lim d stk) stk ou xs k s).2.1 fz (nI (md_it (txS kn rs) lim (subd (txS kn rs) lim d stk) stk ou xs k s).2.2)) (nI lim) (nI (md_it (txS kn rs) lim (subd (txS kn rs) lim d stk) stk ou xs k s).1.2.1) (nI (md_it (txS kn rs) lim (subd (txS kn rs) lim d stk) stk ou xs k s).1.2.2) wh te nu en ∧ rs2 5 = (md_it (txS kn rs) lim (subd (txS kn rs) lim d stk) stk ou xs k s).1.1 ∧ ∀ j, j ≠ 5 → rs2 j = rs j := ⟨_, _, _, _, _, by rw [hIT]; exact hS2, by rw [hIT]; exact va_up_self _ _ _, fun j hj => (va_up_ne _ _ hj).trans (hoth j hj)⟩
            rw [hv2]
            refine lv_istore (lv' := [(7, .int (nI (md_it (txS kn rs) lim (subd (txS kn rs) lim d stk) stk ou xs k s).2.1)), (6, .int (nI (md_here stk ou k))), (0, .ref (ad 0)), (1, .ref (ad j0)), (2, .int (nI stk.length)), (3, .int o3), (4, .int (nI b)), (5, .int (nI k))]) hx hb d_D_readValue_111 hl (by decide) rfl (fun ls hl => ?_)
            have hok := ok_it (tx := (txS kn rs)) (lim := lim) (sub := (subd (txS kn rs) lim d stk)) (stk := stk) (ou := ou) (xs := xs) (i := k) (s := s) (fun k ys s h _ a b => ok_rv d (k :: stk) h ys s (by rw [List.length_cons]; omega) a b) (by omega) hme hdp
            have hok1 := hok.1
            refine lv_iload hx hb d_D_readValue_113 (lv_at hl 0 rfl) ?_
            refine lv_if_eq (tgt := 121) hx hb d_D_readValue_115 (by decide) (fun c_115 => ?_) (fun c_115 => ?_)
            · have c_115i := c_115
              replace c_115 : (md_it (txS kn rs) lim (subd (txS kn rs) lim d stk) stk ou xs k s).2.1 = 0 := (nI_eq (a := (md_it (txS kn rs) lim (subd (txS kn rs) lim d stk) stk ou xs k s).2.1) (b := 0) (by omega) (by omega)).mp c_115
              refine lv_iinc (v := (nI (k + 1))) (lv' := [(5, .int (nI (k + 1))), (7, .int (nI (md_it (txS kn rs) lim (subd (txS kn rs) lim d stk) stk ou xs k s).2.1)), (6, .int (nI (md_here stk ou k))), (0, .ref (ad 0)), (1, .ref (ad j0)), (2, .int (nI stk.length)), (3, .int o3), (4, .int (nI b))]) hx hb d_D_readValue_121 hl (k := 7) rfl ((nI_succ (k)).symm) (by decide) rfl (fun ls hl => ?_)
              refine lv_goto (tgt := 6) hx hb d_D_readValue_124 (by decide) ?_
              have ek : max k b = k := by omega
              have hnx : md_nx xs k = k + 1 := if_neg h38
              have enx : max (k + 1) (b) = md_nx xs k := by rw [hnx]; omega
              obtain ⟨n1, rfl⟩ : ∃ n1, n = n1 + 1 := ⟨n - 1, by omega⟩
              rw [ek] at hR
              have hR2 : R = md_lp (txS kn rs) lim (subd (txS kn rs) lim d stk) stk ou xs n1 (max (k + 1) (b)) (md_it (txS kn rs) lim (subd (txS kn rs) lim d stk) stk ou xs k s).1 := by rw [enx, hR]; exact md_lp_go (by omega) c_115
              rw [c_115, pf_0 rfl] at hS2
              exact ih (k + 1) (b) n1 (md_it (txS kn rs) lim (subd (txS kn rs) lim d stk) stk ou xs k s).1 F_20 rs2 _ _ _ _ (by omega) (by omega) (by omega) (by have := md_nx_ge xs k; rw [enx]; omega) hR2 ⟨hnd, hlt, hS2, h52, ho2, hok.2.1, hok.2.2, hlim⟩ (hfr.tr hf2) H locs ls hW (lv_sub hl [3, 4, 5, 6, 7, 0] rfl)
            · have c_115i := c_115
              replace c_115 : ¬ (md_it (txS kn rs) lim (subd (txS kn rs) lim d stk) stk ou xs k s).2.1 = 0 := fun zz9 => c_115 ((nI_eq (a := (md_it (txS kn rs) lim (subd (txS kn rs) lim d stk) stk ou xs k s).2.1) (b := 0) (by omega) (by omega)).mpr zz9)
              refine lv_iload hx hb d_D_readValue_118 (lv_at hl 0 rfl) ?_
              have ek : max k b = k := by omega
              obtain ⟨n1, rfl⟩ : ∃ n1, n = n1 + 1 := ⟨n - 1, by omega⟩
              rw [ek] at hR
              have hR1 : R = (md_it (txS kn rs) lim (subd (txS kn rs) lim d stk) stk ou xs k s) := by rw [hR]; exact md_lp_no (by omega) c_115
              exact hp_reti S hK hW hr hlk d_D_readValue_120 (⟨by rw [hR1], ⟨rs2, _, _, _, _, by rw [hR1]; exact hS2, by rw [hR1]; exact h52, ho2⟩, hfr.tr hf2⟩)
          · have c_45i := c_45
            have h38 := c_45i
            refine lv_aload_n hx hb d_D_readValue_48 rfl (lv_at hl 1 rfl) ?_
            refine hp_get S hK hW (0) (by omega) rfl hS.1 rfl in_kD 4 (by decide) (hts _ (List.mem_cons_of_mem _ tq_18)) rfl d_D_readValue_49 ?_
            refine lv_aload_n hx hb d_D_readValue_52 rfl (lv_at hl 2 rfl) ?_
            refine lv_iload hx hb d_D_readValue_53 (lv_at hl 6 rfl) ?_
            refine hp_gov hW (va_runV S (s_read l g z0 N ad F hN rs1 kn (opS stk) fz (nI lim) (nI s.2.1) (nI s.2.2) wh te nu en hS j0 hj0 k (by omega)) (cwV 2 hts (tb_V cd_F_read tq_62 tq_63 tq_64 tq_16) rfl rfl rfl hd_F_read (rk_ok (by omega) (by omega))) (hp_preV hK hW (by omega) rfl hS.2.2.2.2 rfl) rfl rfl hl.1 rfl (lv_room (Nat.le_of_ble_eq_true rfl)) d_D_readValue_55 ⟨Nat.zero_le _, Nat.zero_le _⟩) (fun F_22 H locs hw hW => ?_)
            obtain ⟨nu1, hS1, hnu1, hf1⟩ := hw
            rw [hxs] at hS1 hnu1
            have hre := md_ref_end xs k
            refine lv_aload_n hx hb d_D_readValue_58 rfl (lv_at hl 1 rfl) ?_
            refine hp_get S hK hW (0) (by omega) rfl hS1.1 rfl in_kD 4 (by decide) (hts _ (List.mem_cons_of_mem _ tq_18)) rfl d_D_readValue_59 ?_
            refine hp_getN S hK hW (86) (by omega) rfl hS1.2.2.2.2 rfl in_kF 3 (by decide) (List.mem_of_getElem? (i := 6) rfl) rfl d_D_readValue_62 ?_
            refine lv_istore (lv' := [(4, .int (nI (md_ref xs k).2.2.2)), (6, .int (nI (md_here stk ou k))), (0, .ref (ad 0)), (1, .ref (ad j0)), (2, .int (nI stk.length)), (3, .int o3), (5, .int (nI k))]) hx hb d_D_readValue_65 hl (by decide) rfl (fun ls hl => ?_)
            refine lv_aload_n hx hb d_D_readValue_67 rfl (lv_at hl 2 rfl) ?_
            refine hp_get S hK hW (0) (by omega) rfl hS1.1 rfl in_kD 4 (by decide) (hts _ (List.mem_cons_of_mem _ tq_18)) rfl d_D_readValue_68 ?_
            refine hp_getN S hK hW (86) (by omega) rfl hS1.2.2.2.2 rfl in_kF 0 (by decide) (List.mem_of_getElem? (i := 3) rfl) rfl d_D_readValue_71 ?_
            refine lv_if_eq (tgt := 87) hx hb d_D_readValue_74 (by decide) (fun c_74 => ?_) (fun c_74 => ?_)
            · have c_74i := c_74
              refine lv_aload_n hx hb d_D_readValue_87 rfl (lv_at hl 2 rfl) ?_
              refine lv_aload_n hx hb d_D_readValue_88 rfl (lv_at hl 3 rfl) ?_
              refine lv_iload_n hx hb d_D_readValue_89 rfl (lv_at hl 4 rfl) ?_
              refine lv_iload_n hx hb d_D_readValue_90 rfl (lv_at hl 5 rfl) ?_
              refine hp_goi hW (va_runV S (c_failBroken l g z0 N ad F_22 hN rs1 kn (opS stk) fz (nI lim) (nI s.2.1) (nI s.2.2) (b2 (md_ref xs k).1) (b2 (md_ref xs k).2.1) nu1 (nI (md_ref xs k).2.2.2) hS1 j0 hj0 stk.length (md_ref xs k).2.2.2 (by omega) (by omega) rfl (by rw [hxs]; omega) o3) (cwV 3 hts (tb_V cd_D_failBroken tq_85 tq_86 tq_87 tq_27) rfl rfl rfl hd_D_failBroken (rk_ok (by omega) (by omega))) (hp_preV hK hW (by omega) rfl hS1.1 rfl) rfl rfl hl.1 rfl (lv_room (Nat.le_of_ble_eq_true rfl)) d_D_readValue_91 ⟨Nat.zero_le _, Nat.zero_le _⟩) (fun r_23 F_24 H locs hw hW => ?_)
              obtain ⟨hv2, hS2, hf2⟩ := hw
              rw [hxs] at hv2
              have hIT : (md_it (txS kn rs) lim (subd (txS kn rs) lim d stk) stk ou xs k s) = (s, if stk.length = 0 ∨ (md_ref xs k).2.2.2 < xs.length then 1 else 7, md_here stk ou (md_ref xs k).2.2.2) := by unfold md_it; rw [if_pos h38, if_neg (by rw [b2_0.mp c_74i]; exact fun z => by cases z)]
              replace hv2 : r_23 = nI (md_it (txS kn rs) lim (subd (txS kn rs) lim d stk) stk ou xs k s).2.1 := by rw [hIT]; exact hv2
              have hne : ¬ (md_it (txS kn rs) lim (subd (txS kn rs) lim d stk) stk ou xs k s).2.1 = 0 := by rw [hIT]; show ¬ (if _ then 1 else 7) = 0; split <;> omega
              obtain ⟨rs2, wh2, te2, nu2, en2, hS2, h52, ho2⟩ : ∃ (rs2 : Nat → List Int32) (wh te nu en : Int32), vSt g ad F_24 rs2 kn (opS stk) (pf (md_it (txS kn rs) lim (subd (txS kn rs) lim d stk) stk ou xs k s).2.1 fz (nI (md_it (txS kn rs) lim (subd (txS kn rs) lim d stk) stk ou xs k s).2.2)) (nI lim) (nI (md_it (txS kn rs) lim (subd (txS kn rs) lim d stk) stk ou xs k s).1.2.1) (nI (md_it (txS kn rs) lim (subd (txS kn rs) lim d stk) stk ou xs k s).1.2.2) wh te nu en ∧ rs2 5 = (md_it (txS kn rs) lim (subd (txS kn rs) lim d stk) stk ou xs k s).1.1 ∧ ∀ j, j ≠ 5 → rs2 j = rs j := ⟨rs1, _, _, _, _, by rw [pf_n hne, hIT]; show vSt g ad _ rs1 kn (opS stk) (nI (md_here stk ou _)) _ _ _ _ _ _ _; rw [show nI (md_here stk ou (md_ref xs k).2.2.2) = (if stk.length = 0 then nI (md_ref xs k).2.2.2 else o3) by rw [ho3]; unfold md_here; split <;> rfl]; exact hS2, by rw [hIT]; exact h5, hoth⟩
              rw [hv2]
              refine lv_istore (lv' := [(7, .int (nI (md_it (txS kn rs) lim (subd (txS kn rs) lim d stk) stk ou xs k s).2.1)), (4, .int (nI (md_ref xs k).2.2.2)), (6, .int (nI (md_here stk ou k))), (0, .ref (ad 0)), (1, .ref (ad j0)), (2, .int (nI stk.length)), (3, .int o3), (5, .int (nI k))]) hx hb d_D_readValue_94 hl (by decide) rfl (fun ls hl => ?_)
              refine lv_goto (tgt := 113) hx hb d_D_readValue_96 (by decide) ?_
              have hok := ok_it (tx := (txS kn rs)) (lim := lim) (sub := (subd (txS kn rs) lim d stk)) (stk := stk) (ou := ou) (xs := xs) (i := k) (s := s) (fun k ys s h _ a b => ok_rv d (k :: stk) h ys s (by rw [List.length_cons]; omega) a b) (by omega) hme hdp
              have hok1 := hok.1
              refine lv_iload hx hb d_D_readValue_113 (lv_at hl 0 rfl) ?_
              refine lv_if_eq (tgt := 121) hx hb d_D_readValue_115 (by decide) (fun c_115 => ?_) (fun c_115 => ?_)
              · have c_115i := c_115
                replace c_115 : (md_it (txS kn rs) lim (subd (txS kn rs) lim d stk) stk ou xs k s).2.1 = 0 := (nI_eq (a := (md_it (txS kn rs) lim (subd (txS kn rs) lim d stk) stk ou xs k s).2.1) (b := 0) (by omega) (by omega)).mp c_115
                refine lv_iinc (v := (nI (k + 1))) (lv' := [(5, .int (nI (k + 1))), (7, .int (nI (md_it (txS kn rs) lim (subd (txS kn rs) lim d stk) stk ou xs k s).2.1)), (4, .int (nI (md_ref xs k).2.2.2)), (6, .int (nI (md_here stk ou k))), (0, .ref (ad 0)), (1, .ref (ad j0)), (2, .int (nI stk.length)), (3, .int o3)]) hx hb d_D_readValue_121 hl (k := 7) rfl ((nI_succ (k)).symm) (by decide) rfl (fun ls hl => ?_)
                refine lv_goto (tgt := 6) hx hb d_D_readValue_124 (by decide) ?_
                have ek : max k b = k := by omega
                have hnx : md_nx xs k = (md_ref xs k).2.2.2 := if_pos h38
                have enx : max (k + 1) ((md_ref xs k).2.2.2) = md_nx xs k := by rw [hnx]; omega
                obtain ⟨n1, rfl⟩ : ∃ n1, n = n1 + 1 := ⟨n - 1, by omega⟩
                rw [ek] at hR
                have hR2 : R = md_lp (txS kn rs) lim (subd (txS kn rs) lim d stk) stk ou xs n1 (max (k + 1) ((md_ref xs k).2.2.2)) (md_it (txS kn rs) lim (subd (txS kn rs) lim d stk) stk ou xs k s).1 := by rw [enx, hR]; exact md_lp_go (by omega) c_115
                rw [c_115, pf_0 rfl] at hS2
                exact ih (k + 1) ((md_ref xs k).2.2.2) n1 (md_it (txS kn rs) lim (subd (txS kn rs) lim d stk) stk ou xs k s).1 F_24 rs2 _ _ _ _ (by omega) (by omega) (by omega) (by have := md_nx_ge xs k; rw [enx]; omega) hR2 ⟨hnd, hlt, hS2, h52, ho2, hok.2.1, hok.2.2, hlim⟩ (hfr.tr (hf1.tr hf2)) H locs ls hW (lv_sub hl [4, 5, 6, 7, 2, 0] rfl)
              · have c_115i := c_115
                replace c_115 : ¬ (md_it (txS kn rs) lim (subd (txS kn rs) lim d stk) stk ou xs k s).2.1 = 0 := fun zz9 => c_115 ((nI_eq (a := (md_it (txS kn rs) lim (subd (txS kn rs) lim d stk) stk ou xs k s).2.1) (b := 0) (by omega) (by omega)).mpr zz9)
                refine lv_iload hx hb d_D_readValue_118 (lv_at hl 0 rfl) ?_
                have ek : max k b = k := by omega
                obtain ⟨n1, rfl⟩ : ∃ n1, n = n1 + 1 := ⟨n - 1, by omega⟩
                rw [ek] at hR
                have hR1 : R = (md_it (txS kn rs) lim (subd (txS kn rs) lim d stk) stk ou xs k s) := by rw [hR]; exact md_lp_no (by omega) c_115
                exact hp_reti S hK hW hr hlk d_D_readValue_120 (⟨by rw [hR1], ⟨rs2, _, _, _, _, by rw [hR1]; exact hS2, by rw [hR1]; exact h52, ho2⟩, hfr.tr (hf1.tr hf2)⟩)
            · have c_74i := c_74
              refine lv_aload_n hx hb d_D_readValue_77 rfl (lv_at hl 2 rfl) ?_
              refine lv_iload_n hx hb d_D_readValue_78 rfl (lv_at hl 4 rfl) ?_
              refine lv_iload hx hb d_D_readValue_79 (lv_at hl 1 rfl) ?_
              have hI1 : RI g ad kn rs lim stk s F_22 rs1 fz (b2 (md_ref xs k).1) (b2 (md_ref xs k).2.1) nu1 (nI (md_ref xs k).2.2.2) := ⟨hnd, hlt, hS1, h5, hoth, hme, hdp, hlim⟩
              have hwt := b2_n0.mp c_74i
              refine hp_goi hW (va_runV S (hTR stk (md_here stk ou k) s F_22 rs1 fz _ _ nu1 _ (md_ref xs k).2.1 (by omega) (here_lt hou (by omega)) rfl (fun z => by have h9 := md_ref_ent hwt z; obtain ⟨kk, hkk, ekk⟩ := nu_k h9.1.1 h9.1.2; exact ⟨kk, hkk, by rw [hnu1 hwt, h9.2.1, ekk]⟩) hI1) (cwV 2 hts (tb_V cd_D_takeReference tq_82 tq_83 tq_84 tq_27) rfl rfl rfl hd_D_takeReference (rk_ok (by omega) (by omega))) (hp_preV hK hW (by omega) rfl hS1.1 rfl) rfl rfl hl.1 rfl (lv_room (Nat.le_of_ble_eq_true rfl)) d_D_readValue_81 ⟨Nat.zero_le _, Nat.zero_le _⟩) (fun r_25 F_26 H locs hw hW => ?_)
              have hIT : (md_it (txS kn rs) lim (subd (txS kn rs) lim d stk) stk ou xs k s) = md_wr (txS kn rs) lim (subd (txS kn rs) lim d stk) stk (md_ref xs k).2.1 nu1 s (md_here stk ou k) := by unfold md_it; rw [if_pos h38, if_pos hwt, hnu1 hwt]
              rw [← hIT] at hw
              obtain ⟨hv2, ⟨rs2, wh2, te2, nu2, en2, hS2, h52, ho2⟩, hf2⟩ := hw
              rw [hv2]
              refine lv_goto (tgt := 94) hx hb d_D_readValue_84 (by decide) ?_
              refine lv_istore (lv' := [(7, .int (nI (md_it (txS kn rs) lim (subd (txS kn rs) lim d stk) stk ou xs k s).2.1)), (4, .int (nI (md_ref xs k).2.2.2)), (6, .int (nI (md_here stk ou k))), (0, .ref (ad 0)), (1, .ref (ad j0)), (2, .int (nI stk.length)), (3, .int o3), (5, .int (nI k))]) hx hb d_D_readValue_94 hl (by decide) rfl (fun ls hl => ?_)
              refine lv_goto (tgt := 113) hx hb d_D_readValue_96 (by decide) ?_
              have hok := ok_it (tx := (txS kn rs)) (lim := lim) (sub := (subd (txS kn rs) lim d stk)) (stk := stk) (ou := ou) (xs := xs) (i := k) (s := s) (fun k ys s h _ a b => ok_rv d (k :: stk) h ys s (by rw [List.length_cons]; omega) a b) (by omega) hme hdp
              have hok1 := hok.1
              refine lv_iload hx hb d_D_readValue_113 (lv_at hl 0 rfl) ?_
              refine lv_if_eq (tgt := 121) hx hb d_D_readValue_115 (by decide) (fun c_115 => ?_) (fun c_115 => ?_)
              · have c_115i := c_115
                replace c_115 : (md_it (txS kn rs) lim (subd (txS kn rs) lim d stk) stk ou xs k s).2.1 = 0 := (nI_eq (a := (md_it (txS kn rs) lim (subd (txS kn rs) lim d stk) stk ou xs k s).2.1) (b := 0) (by omega) (by omega)).mp c_115
                refine lv_iinc (v := (nI (k + 1))) (lv' := [(5, .int (nI (k + 1))), (7, .int (nI (md_it (txS kn rs) lim (subd (txS kn rs) lim d stk) stk ou xs k s).2.1)), (4, .int (nI (md_ref xs k).2.2.2)), (6, .int (nI (md_here stk ou k))), (0, .ref (ad 0)), (1, .ref (ad j0)), (2, .int (nI stk.length)), (3, .int o3)]) hx hb d_D_readValue_121 hl (k := 7) rfl ((nI_succ (k)).symm) (by decide) rfl (fun ls hl => ?_)
                refine lv_goto (tgt := 6) hx hb d_D_readValue_124 (by decide) ?_
                have ek : max k b = k := by omega
                have hnx : md_nx xs k = (md_ref xs k).2.2.2 := if_pos h38
                have enx : max (k + 1) ((md_ref xs k).2.2.2) = md_nx xs k := by rw [hnx]; omega
                obtain ⟨n1, rfl⟩ : ∃ n1, n = n1 + 1 := ⟨n - 1, by omega⟩
                rw [ek] at hR
                have hR2 : R = md_lp (txS kn rs) lim (subd (txS kn rs) lim d stk) stk ou xs n1 (max (k + 1) ((md_ref xs k).2.2.2)) (md_it (txS kn rs) lim (subd (txS kn rs) lim d stk) stk ou xs k s).1 := by rw [enx, hR]; exact md_lp_go (by omega) c_115
                rw [c_115, pf_0 rfl] at hS2
                exact ih (k + 1) ((md_ref xs k).2.2.2) n1 (md_it (txS kn rs) lim (subd (txS kn rs) lim d stk) stk ou xs k s).1 F_26 rs2 _ _ _ _ (by omega) (by omega) (by omega) (by have := md_nx_ge xs k; rw [enx]; omega) hR2 ⟨hnd, hlt, hS2, h52, ho2, hok.2.1, hok.2.2, hlim⟩ (hfr.tr (hf1.tr hf2)) H locs ls hW (lv_sub hl [4, 5, 6, 7, 2, 0] rfl)
              · have c_115i := c_115
                replace c_115 : ¬ (md_it (txS kn rs) lim (subd (txS kn rs) lim d stk) stk ou xs k s).2.1 = 0 := fun zz9 => c_115 ((nI_eq (a := (md_it (txS kn rs) lim (subd (txS kn rs) lim d stk) stk ou xs k s).2.1) (b := 0) (by omega) (by omega)).mpr zz9)
                refine lv_iload hx hb d_D_readValue_118 (lv_at hl 0 rfl) ?_
                have ek : max k b = k := by omega
                obtain ⟨n1, rfl⟩ : ∃ n1, n = n1 + 1 := ⟨n - 1, by omega⟩
                rw [ek] at hR
                have hR1 : R = (md_it (txS kn rs) lim (subd (txS kn rs) lim d stk) stk ou xs k s) := by rw [hR]; exact md_lp_no (by omega) c_115
                exact hp_reti S hK hW hr hlk d_D_readValue_120 (⟨by rw [hR1], ⟨rs2, _, _, _, _, by rw [hR1]; exact hS2, by rw [hR1]; exact h52, ho2⟩, hfr.tr (hf1.tr hf2)⟩)
      · have c_19i := c_19
        replace c_19 : ¬ b ≤ k := fun zz9 => c_19 ((nI_leI (a := b) (b := k) (by omega) (by omega)).mpr zz9)
        refine lv_goto (tgt := 121) hx hb d_D_readValue_22 (by decide) ?_
        refine lv_iinc (v := (nI (k + 1))) (lv' := [(5, .int (nI (k + 1))), (0, .ref (ad 0)), (1, .ref (ad j0)), (2, .int (nI stk.length)), (3, .int o3), (4, .int (nI b))]) hx hb d_D_readValue_121 hl (k := 5) rfl ((nI_succ (k)).symm) (by decide) rfl (fun ls hl => ?_)
        refine lv_goto (tgt := 6) hx hb d_D_readValue_124 (by decide) ?_
        exact ih (k + 1) b n s F rs1 wh te nu en (by omega) (by omega) hb0 (by omega) (by rw [show max (k + 1) b = max k b by omega]; exact hR) hI hfr H locs ls hW (lv_sub hl [1, 2, 3, 4, 5, 0] rfl)

/-! readValue(row, depth, outer), over takeReference's contract -/
set_option maxHeartbeats 400000 in
set_option maxRecDepth 100000 in
theorem rv_of_tr (l : Launch) (g : hp_G) (z0 N : Nat) (ad : Nat → Nat) (hN : 87 ≤ N) (kn : Nat → Bool) (rs : Nat → List Int32) (lim d : Nat) (hTR : TR l g z0 N ad kn rs lim d) : RV l g z0 N ad kn rs lim (d + 1) := by
  intro stk ou j s F rs1 fp wh te nu en o3 hd hj hj5 hou ho3 hI
  obtain ⟨hnd, hlt, hS, h5, hoth, hme, hdp, hlim⟩ := id hI
  have hxl : (rs j).length ≤ 300 := by
    have h1 := (hS.row hj).len
    rw [hoth j hj5] at h1
    have := cap_le j
    omega
  refine hp_enter (cc := cc_D_readValue) (maxL := 8) (ret := (some .int)) (by decide) rfl (Nat.le_of_ble_eq_true rfl) ?_
  intro p e sM m below meth c S hr hlk hnm hK hW ls hl
  have hl : lv_has ls 8 [(0, .ref (ad 0)), (1, .ref (ad j)), (2, .int (nI stk.length)), (3, .int o3)] := hl
  obtain ⟨hx, hb, hml, hown, hts⟩ := id S
  refine lv_iconst (v := 0) hx hb d_D_readValue_0 (by decide) ?_
  refine lv_istore (lv' := [(4, .int 0), (0, .ref (ad 0)), (1, .ref (ad j)), (2, .int (nI stk.length)), (3, .int o3)]) hx hb d_D_readValue_1 hl (by decide) rfl (fun ls hl => ?_)
  refine lv_iconst (v := 0) hx hb d_D_readValue_3 (by decide) ?_
  refine lv_istore (lv' := [(5, .int 0), (4, .int 0), (0, .ref (ad 0)), (1, .ref (ad j)), (2, .int (nI stk.length)), (3, .int o3)]) hx hb d_D_readValue_4 hl (by decide) rfl (fun ls hl => ?_)
  exact lp_readValue l g z0 N ad hN kn rs lim d hTR stk ou j hj hj5 hou o3 ho3 hd (rs j) rfl hxl _ F fp S hr hlk hK ((rs j).length + 1) 0 0 (rs j).length s F rs1 wh te nu en (by omega) (by omega) (by omega) (by omega) rfl hI vFr.rf _ _ ls hW (lv_sub hl [2, 3, 4, 5, 1, 0] rfl)

theorem rv_all (l : Launch) (g : hp_G) (z0 N : Nat) (ad : Nat → Nat) (hN : 87 ≤ N) (kn : Nat → Bool) (rs : Nat → List Int32) (lim : Nat) : ∀ d, RV l g z0 N ad kn rs lim d
  | 0 => by
    intro stk ou j s F rs1 fp wh te nu en o3 hd hj hj5 hou ho3 hI
    have h1 := pig 26 stk hI.1 hI.2.1
    omega
  | d + 1 => rv_of_tr l g z0 N ad hN kn rs lim d (tr_of_te l g z0 N ad hN kn rs lim d (te_of_rv l g z0 N ad hN kn rs lim d (rv_all l g z0 N ad hN kn rs lim d)))
end
section
/-! value(mode, limit), refused -/
set_option maxHeartbeats 400000 in
set_option maxRecDepth 100000 in
theorem c_value_out (l : Launch) (g : hp_G) (z0 N : Nat) (ad : Nat → Nat) (F : Nat → va_E) (hN : 87 ≤ N) (rs : Nat → List Int32) (kn op : Nat → Bool) (fp lm me dp wh te nu en : Int32) (hS : vSt g ad F rs kn op fp lm me dp wh te nu en) (mo li : Int32) (hno : mo < 0 ∨ 1 < mo ∨ li < 0 ∨ 100000 < li) : hp_Mi l g z0 N ad y_D_value ws_D_value (rk 83) [.ref (ad 0), .int mo, .int li] F (fun v F' => v = -10 ∧ F' = F) := by
  refine hp_enter (cc := cc_D_value) (maxL := 4) (ret := (some .int)) (by decide) rfl (Nat.le_of_ble_eq_true rfl) ?_
  intro p e s m below meth c S hr hlk hnm hK hW ls hl
  have hl : lv_has ls 4 [(0, .ref (ad 0)), (1, .int mo), (2, .int li)] := hl
  obtain ⟨hx, hb, hml, hown, hts⟩ := id S
  have in_kD : ∀ w ∈ u_ws R_D T_D 9, w ∈ ws_D_value := fun w h => List.mem_cons_of_mem _ (in0_D w h)
  refine lv_iload_n hx hb d_D_value_0 rfl (lv_at hl 1 rfl) ?_
  refine lv_if_lt (tgt := 19) hx hb d_D_value_1 (by decide) (fun c_1 => ?_) (fun c_1 => ?_)
  · have c_1i := c_1
    have c_1j := Int32.not_le.mpr c_1
    refine lv_bipush (v := (-10)) hx hb d_D_value_19 (by decide) ?_
    exact hp_reti S hK hW hr hlk d_D_value_21 (⟨rfl, rfl⟩)
  · have c_1i := c_1
    have c_1j := Int32.not_lt.mp c_1
    refine lv_iload_n hx hb d_D_value_4 rfl (lv_at hl 1 rfl) ?_
    refine lv_iconst (v := 1) hx hb d_D_value_5 (by decide) ?_
    refine lv_icmp_gt (tgt := 19) hx hb d_D_value_6 (by decide) (fun c_6 => ?_) (fun c_6 => ?_)
    · have c_6i := c_6
      have c_6j := Int32.not_le.mpr c_6
      refine lv_bipush (v := (-10)) hx hb d_D_value_19 (by decide) ?_
      exact hp_reti S hK hW hr hlk d_D_value_21 (⟨rfl, rfl⟩)
    · have c_6i := c_6
      have c_6j := Int32.not_lt.mp c_6
      refine lv_iload_n hx hb d_D_value_9 rfl (lv_at hl 2 rfl) ?_
      refine lv_if_lt (tgt := 19) hx hb d_D_value_10 (by decide) (fun c_10 => ?_) (fun c_10 => ?_)
      · have c_10i := c_10
        have c_10j := Int32.not_le.mpr c_10
        refine lv_bipush (v := (-10)) hx hb d_D_value_19 (by decide) ?_
        exact hp_reti S hK hW hr hlk d_D_value_21 (⟨rfl, rfl⟩)
      · have c_10i := c_10
        have c_10j := Int32.not_lt.mp c_10
        refine lv_iload_n hx hb d_D_value_13 rfl (lv_at hl 2 rfl) ?_
        refine lv_ldc (v := 100000) hx hb hown (hts _ (List.mem_cons_of_mem _ tq_39)) d_D_value_14 ?_
        refine lv_icmp_le (tgt := 22) hx hb d_D_value_16 (by decide) (fun c_16 => ?_) (fun c_16 => ?_)
        · have c_16i := c_16
          have c_16j := Int32.not_lt.mpr c_16
          exact absurd hno (by rintro (h | h | h | h); exact c_1i h; exact c_6i h; exact c_10i h; exact absurd c_16i (Int32.not_le.mpr h))
        · have c_16i := c_16
          have c_16j := Int32.not_le.mp c_16
          refine lv_bipush (v := (-10)) hx hb d_D_value_19 (by decide) ?_
          exact hp_reti S hK hW hr hlk d_D_value_21 (⟨rfl, rfl⟩)

/-! value(mode, limit) -/
set_option maxHeartbeats 400000 in
set_option maxRecDepth 100000 in
theorem c_value_in (l : Launch) (g : hp_G) (z0 N : Nat) (ad : Nat → Nat) (F : Nat → va_E) (hN : 87 ≤ N) (rs : Nat → List Int32) (kn op : Nat → Bool) (fp lm me dp wh te nu en : Int32) (hS : vSt g ad F rs kn op fp lm me dp wh te nu en) (hop : op = opS []) (m0 lim : Nat) (hm0 : m0 ≤ 1) (hlim : lim ≤ 100000) : hp_Mi l g z0 N ad y_D_value ws_D_value (rk 83) [.ref (ad 0), .int (nI m0), .int (nI lim)] F (fun v F' => v = (if (md_rv (txS kn rs) lim 27 [] 0 (rs 1) ([], 0, 0)).2.1 = 0 then nI (if m0 = 1 then md_sq (md_rv (txS kn rs) lim 27 [] 0 (rs 1) ([], 0, 0)).1.1 else (md_rv (txS kn rs) lim 27 [] 0 (rs 1) ([], 0, 0)).1.1).length else -nI (md_rv (txS kn rs) lim 27 [] 0 (rs 1) ([], 0, 0)).2.1) ∧ (∃ (rs2 : Nat → List Int32) (wh te nu en : Int32), vSt g ad F' rs2 kn (opS []) (pf (md_rv (txS kn rs) lim 27 [] 0 (rs 1) ([], 0, 0)).2.1 (-1) (nI (md_rv (txS kn rs) lim 27 [] 0 (rs 1) ([], 0, 0)).2.2)) (nI lim) (nI (md_rv (txS kn rs) lim 27 [] 0 (rs 1) ([], 0, 0)).1.2.1) (nI (md_rv (txS kn rs) lim 27 [] 0 (rs 1) ([], 0, 0)).1.2.2) wh te nu en ∧ rs2 1 = [] ∧ rs2 5 = (if (md_rv (txS kn rs) lim 27 [] 0 (rs 1) ([], 0, 0)).2.1 = 0 then if m0 = 1 then md_sq (md_rv (txS kn rs) lim 27 [] 0 (rs 1) ([], 0, 0)).1.1 else (md_rv (txS kn rs) lim 27 [] 0 (rs 1) ([], 0, 0)).1.1 else []) ∧ ∀ k, rs2 (9 + 3 * k) = rs (9 + 3 * k)) ∧ vFr F F') := by
  subst hop
  refine hp_enter (cc := cc_D_value) (maxL := 4) (ret := (some .int)) (by decide) rfl (Nat.le_of_ble_eq_true rfl) ?_
  intro p e s m below meth c S hr hlk hnm hK hW ls hl
  have hl : lv_has ls 4 [(0, .ref (ad 0)), (1, .int (nI m0)), (2, .int (nI lim))] := hl
  obtain ⟨hx, hb, hml, hown, hts⟩ := id S
  have in_kD : ∀ w ∈ u_ws R_D T_D 9, w ∈ ws_D_value := fun w h => List.mem_cons_of_mem _ (in0_D w h)
  refine lv_iload_n hx hb d_D_value_0 rfl (lv_at hl 1 rfl) ?_
  refine lv_if_lt (tgt := 19) hx hb d_D_value_1 (by decide) (fun c_1 => absurd c_1 (show ¬ (((nI m0) : Int32) < 0) from nI_pos (by omega))) (fun c_1 => ?_)
  refine lv_iload_n hx hb d_D_value_4 rfl (lv_at hl 1 rfl) ?_
  refine lv_iconst (v := 1) hx hb d_D_value_5 (by decide) ?_
  refine lv_icmp_gt (tgt := 19) hx hb d_D_value_6 (by decide) (fun c_6 => absurd c_6 (show ¬ (1 < ((nI m0) : Int32)) from nI_nlt (a := 1) hm0 (by omega))) (fun c_6 => ?_)
  refine lv_iload_n hx hb d_D_value_9 rfl (lv_at hl 2 rfl) ?_
  refine lv_if_lt (tgt := 19) hx hb d_D_value_10 (by decide) (fun c_10 => absurd c_10 (show ¬ (((nI lim) : Int32) < 0) from nI_pos (by omega))) (fun c_10 => ?_)
  refine lv_iload_n hx hb d_D_value_13 rfl (lv_at hl 2 rfl) ?_
  refine lv_ldc (v := 100000) hx hb hown (hts _ (List.mem_cons_of_mem _ tq_39)) d_D_value_14 ?_
  refine lv_icmp_le (tgt := 22) hx hb d_D_value_16 (by decide) (fun c_16 => ?_) (fun c_16 => absurd (show ((nI lim) : Int32) ≤ 100000 from nI_le (b := 100000) hlim (by omega)) c_16)
  refine lv_aload_n hx hb d_D_value_22 rfl (lv_at hl 0 rfl) ?_
  refine lv_iconst (v := (-1)) hx hb d_D_value_23 (by decide) ?_
  refine hp_put S hK hW (0) (by omega) rfl hS.1 rfl in_kD tyok_D nm_D 5 (by decide) (hts _ (List.mem_cons_of_mem _ tq_19)) rfl rfl rfl (Nat.le_of_ble_eq_true rfl) d_D_value_24 (fun H locs hW => ?_)
  obtain ⟨F_1, eF_1⟩ : ∃ z, z = va_up F (0) (.inr (kD, [.ref (ad 1), .ref (ad 3), .ref (ad 5), .ref (ad 7), .ref (ad 86), .int (-1), .int lm, .int me, .int dp])) := ⟨_, rfl⟩
  replace hW : hp_W g z0 N ad F_1 s.heap H locs := by rw [eF_1]; exact hW
  have f_2 : F_1 (0) = .inr (kD, [.ref (ad 1), .ref (ad 3), .ref (ad 5), .ref (ad 7), .ref (ad 86), .int (-1), .int lm, .int me, .int dp]) := by rw [eF_1, va_up_self]
  have f_3 : F_1 (86) = .inr (kF, [.int wh, .int te, .int nu, .int en]) := by rw [eF_1, va_up_ne _ _ (by omega)]; exact hS.2.2.2.2
  have f_4 : F_1 (1) = .inr (kR, [.ref (ad (1 + 1)), .int (nI (rs 1).length)]) := by rw [eF_1, va_up_ne _ _ (by omega)]; exact (hS.row rowp_1).obj
  have f_5 : F_1 (3) = .inr (kR, [.ref (ad (3 + 1)), .int (nI (rs 3).length)]) := by rw [eF_1, va_up_ne _ _ (by omega)]; exact (hS.row rowp_3).obj
  have f_6 : F_1 (5) = .inr (kR, [.ref (ad (5 + 1)), .int (nI (rs 5).length)]) := by rw [eF_1, va_up_ne _ _ (by omega)]; exact (hS.row rowp_5).obj
  have hf1 : vFr F F_1 := fun x hx => by rw [eF_1, va_up_ne _ _ (by omega)]
  have hS1 := hS.desk f_2 (fun x hx => by rw [eF_1, va_up_ne _ _ hx])
  refine lv_aload_n hx hb d_D_value_27 rfl (lv_at hl 0 rfl) ?_
  refine lv_iload_n hx hb d_D_value_28 rfl (lv_at hl 2 rfl) ?_
  refine hp_put S hK hW (0) (by omega) rfl hS1.1 rfl in_kD tyok_D nm_D 6 (by decide) (hts _ (List.mem_cons_of_mem _ tq_40)) rfl rfl rfl (Nat.le_of_ble_eq_true rfl) d_D_value_29 (fun H locs hW => ?_)
  obtain ⟨F_7, eF_7⟩ : ∃ z, z = va_up F_1 (0) (.inr (kD, [.ref (ad 1), .ref (ad 3), .ref (ad 5), .ref (ad 7), .ref (ad 86), .int ((-1)), .int (nI lim), .int me, .int dp])) := ⟨_, rfl⟩
  replace hW : hp_W g z0 N ad F_7 s.heap H locs := by rw [eF_7]; exact hW
  have f_8 : F_7 (0) = .inr (kD, [.ref (ad 1), .ref (ad 3), .ref (ad 5), .ref (ad 7), .ref (ad 86), .int ((-1)), .int (nI lim), .int me, .int dp]) := by rw [eF_7, va_up_self]
  have f_9 : F_7 (86) = .inr (kF, [.int wh, .int te, .int nu, .int en]) := by rw [eF_7, va_up_ne _ _ (by omega)]; exact hS1.2.2.2.2
  have f_10 : F_7 (1) = .inr (kR, [.ref (ad (1 + 1)), .int (nI (rs 1).length)]) := by rw [eF_7, va_up_ne _ _ (by omega)]; exact (hS1.row rowp_1).obj
  have f_11 : F_7 (3) = .inr (kR, [.ref (ad (3 + 1)), .int (nI (rs 3).length)]) := by rw [eF_7, va_up_ne _ _ (by omega)]; exact (hS1.row rowp_3).obj
  have f_12 : F_7 (5) = .inr (kR, [.ref (ad (5 + 1)), .int (nI (rs 5).length)]) := by rw [eF_7, va_up_ne _ _ (by omega)]; exact (hS1.row rowp_5).obj
  have hf2 : vFr F_1 F_7 := fun x hx => by rw [eF_7, va_up_ne _ _ (by omega)]
  have hS2 := hS1.desk f_8 (fun x hx => by rw [eF_7, va_up_ne _ _ hx])
  refine lv_aload_n hx hb d_D_value_32 rfl (lv_at hl 0 rfl) ?_
  refine lv_iconst (v := 0) hx hb d_D_value_33 (by decide) ?_
  refine hp_put S hK hW (0) (by omega) rfl hS2.1 rfl in_kD tyok_D nm_D 7 (by decide) (hts _ (List.mem_cons_of_mem _ tq_41)) rfl rfl rfl (Nat.le_of_ble_eq_true rfl) d_D_value_34 (fun H locs hW => ?_)
  obtain ⟨F_13, eF_13⟩ : ∃ z, z = va_up F_7 (0) (.inr (kD, [.ref (ad 1), .ref (ad 3), .ref (ad 5), .ref (ad 7), .ref (ad 86), .int (((-1))), .int ((nI lim)), .int 0, .int dp])) := ⟨_, rfl⟩
  replace hW : hp_W g z0 N ad F_13 s.heap H locs := by rw [eF_13]; exact hW
  have f_14 : F_13 (0) = .inr (kD, [.ref (ad 1), .ref (ad 3), .ref (ad 5), .ref (ad 7), .ref (ad 86), .int (((-1))), .int ((nI lim)), .int 0, .int dp]) := by rw [eF_13, va_up_self]
  have f_15 : F_13 (86) = .inr (kF, [.int wh, .int te, .int nu, .int en]) := by rw [eF_13, va_up_ne _ _ (by omega)]; exact hS2.2.2.2.2
  have f_16 : F_13 (1) = .inr (kR, [.ref (ad (1 + 1)), .int (nI (rs 1).length)]) := by rw [eF_13, va_up_ne _ _ (by omega)]; exact (hS2.row rowp_1).obj
  have f_17 : F_13 (3) = .inr (kR, [.ref (ad (3 + 1)), .int (nI (rs 3).length)]) := by rw [eF_13, va_up_ne _ _ (by omega)]; exact (hS2.row rowp_3).obj
  have f_18 : F_13 (5) = .inr (kR, [.ref (ad (5 + 1)), .int (nI (rs 5).length)]) := by rw [eF_13, va_up_ne _ _ (by omega)]; exact (hS2.row rowp_5).obj
  have hf3 : vFr F_7 F_13 := fun x hx => by rw [eF_13, va_up_ne _ _ (by omega)]
  have hS3 := hS2.desk f_14 (fun x hx => by rw [eF_13, va_up_ne _ _ hx])
  refine lv_aload_n hx hb d_D_value_37 rfl (lv_at hl 0 rfl) ?_
  refine lv_iconst (v := 0) hx hb d_D_value_38 (by decide) ?_
  refine hp_put S hK hW (0) (by omega) rfl hS3.1 rfl in_kD tyok_D nm_D 8 (by decide) (hts _ (List.mem_cons_of_mem _ tq_42)) rfl rfl rfl (Nat.le_of_ble_eq_true rfl) d_D_value_39 (fun H locs hW => ?_)
  obtain ⟨F_19, eF_19⟩ : ∃ z, z = va_up F_13 (0) (.inr (kD, [.ref (ad 1), .ref (ad 3), .ref (ad 5), .ref (ad 7), .ref (ad 86), .int ((((-1)))), .int (((nI lim))), .int 0, .int 0])) := ⟨_, rfl⟩
  replace hW : hp_W g z0 N ad F_19 s.heap H locs := by rw [eF_19]; exact hW
  have f_20 : F_19 (0) = .inr (kD, [.ref (ad 1), .ref (ad 3), .ref (ad 5), .ref (ad 7), .ref (ad 86), .int ((((-1)))), .int (((nI lim))), .int 0, .int 0]) := by rw [eF_19, va_up_self]
  have f_21 : F_19 (86) = .inr (kF, [.int wh, .int te, .int nu, .int en]) := by rw [eF_19, va_up_ne _ _ (by omega)]; exact hS3.2.2.2.2
  have f_22 : F_19 (1) = .inr (kR, [.ref (ad (1 + 1)), .int (nI (rs 1).length)]) := by rw [eF_19, va_up_ne _ _ (by omega)]; exact (hS3.row rowp_1).obj
  have f_23 : F_19 (3) = .inr (kR, [.ref (ad (3 + 1)), .int (nI (rs 3).length)]) := by rw [eF_19, va_up_ne _ _ (by omega)]; exact (hS3.row rowp_3).obj
  have f_24 : F_19 (5) = .inr (kR, [.ref (ad (5 + 1)), .int (nI (rs 5).length)]) := by rw [eF_19, va_up_ne _ _ (by omega)]; exact (hS3.row rowp_5).obj
  have hf4 : vFr F_13 F_19 := fun x hx => by rw [eF_19, va_up_ne _ _ (by omega)]
  have hS4 := hS3.desk f_20 (fun x hx => by rw [eF_19, va_up_ne _ _ hx])
  refine lv_aload_n hx hb d_D_value_42 rfl (lv_at hl 0 rfl) ?_
  refine hp_get S hK hW (0) (by omega) rfl hS4.1 rfl in_kD 2 (by decide) (hts _ (List.mem_cons_of_mem _ tq_8)) rfl d_D_value_43 ?_
  refine hp_gov hW (va_runV S (s_empty l g z0 N ad F_19 hN rs kn (opS []) (((((-1))))) ((((nI lim)))) 0 0 wh te nu en hS4 5 rowp_5) (cwV 0 hts (tb_V cd_R_empty tq_33 tq_34 tq_35 tq_3) rfl rfl rfl hd_R_empty (rk_ok (by omega) (by omega))) (hp_preV hK hW (by omega) rfl (hS4.row rowp_5).obj rfl) rfl rfl hl.1 rfl (lv_room (Nat.le_of_ble_eq_true rfl)) d_D_value_46 ⟨Nat.zero_le _, Nat.zero_le _⟩) (fun F_26 H locs hw hW => ?_)
  obtain ⟨hS5, hf5⟩ := hw
  refine lv_aload_n hx hb d_D_value_49 rfl (lv_at hl 0 rfl) ?_
  refine lv_aload_n hx hb d_D_value_50 rfl (lv_at hl 0 rfl) ?_
  refine hp_get S hK hW (0) (by omega) rfl hS5.1 rfl in_kD 0 (by decide) (hts _ (List.mem_cons_of_mem _ tq_6)) rfl d_D_value_51 ?_
  refine lv_iconst (v := 0) hx hb d_D_value_54 (by decide) ?_
  refine lv_iconst (v := (-1)) hx hb d_D_value_55 (by decide) ?_
  have hI : RI g ad kn rs lim [] ([], 0, 0) F_26 (va_up rs 5 []) (-1) wh te nu en := ⟨List.nodup_nil, fun x hx => absurd hx List.not_mem_nil, hS5, va_up_self _ _ _, fun j hj => va_up_ne _ _ hj, Nat.zero_le _, Nat.zero_le _, hlim⟩
  refine hp_goi hW (va_runV S (rv_all l g z0 N ad hN kn rs lim 27 [] 0 1 ([], 0, 0) F_26 (va_up rs 5 []) (-1) wh te nu en (-1) rfl rowp_1 (by omega) (by omega) rfl hI) (cwV 3 hts (tb_V cd_D_readValue tq_43 tq_44 tq_45 tq_27) rfl rfl rfl hd_D_readValue (rk_ok (by omega) (by omega))) (hp_preV hK hW (by omega) rfl hS5.1 rfl) rfl rfl hl.1 rfl (lv_room (Nat.le_of_ble_eq_true rfl)) d_D_value_56 ⟨Nat.zero_le _, Nat.zero_le _⟩) (fun r_27 F_28 H locs hw hW => ?_)
  obtain ⟨hv, ⟨rs2, wh2, te2, nu2, en2, hS6, h52, ho2⟩, hf6⟩ := hw
  rw [hv]
  have hok := ok_rv (tx := txS kn rs) (lim := lim) 27 [] 0 (rs 1) ([], 0, 0) rfl (Nat.zero_le _) (Nat.zero_le _)
  have hok1 := hok.1
  refine lv_istore_n (lv' := [(3, .int (nI (md_rv (txS kn rs) lim 27 [] 0 (rs 1) ([], 0, 0)).2.1)), (0, .ref (ad 0)), (1, .int (nI m0)), (2, .int (nI lim))]) hx hb d_D_value_59 rfl hl (by decide) rfl (fun ls hl => ?_)
  refine lv_aload_n hx hb d_D_value_60 rfl (lv_at hl 1 rfl) ?_
  refine hp_get S hK hW (0) (by omega) rfl hS6.1 rfl in_kD 0 (by decide) (hts _ (List.mem_cons_of_mem _ tq_6)) rfl d_D_value_61 ?_
  refine hp_gov hW (va_runV S (s_empty l g z0 N ad F_28 hN rs2 kn (opS []) (pf (md_rv (txS kn rs) lim 27 [] 0 (rs 1) ([], 0, 0)).2.1 (-1) (nI (md_rv (txS kn rs) lim 27 [] 0 (rs 1) ([], 0, 0)).2.2)) (nI lim) (nI (md_rv (txS kn rs) lim 27 [] 0 (rs 1) ([], 0, 0)).1.2.1) (nI (md_rv (txS kn rs) lim 27 [] 0 (rs 1) ([], 0, 0)).1.2.2) wh2 te2 nu2 en2 hS6 1 rowp_1) (cwV 0 hts (tb_V cd_R_empty tq_33 tq_34 tq_35 tq_3) rfl rfl rfl hd_R_empty (rk_ok (by omega) (by omega))) (hp_preV hK hW (by omega) rfl (hS6.row rowp_1).obj rfl) rfl rfl hl.1 rfl (lv_room (Nat.le_of_ble_eq_true rfl)) d_D_value_64 ⟨Nat.zero_le _, Nat.zero_le _⟩) (fun F_30 H locs hw hW => ?_)
  obtain ⟨hS7, hf7⟩ := hw
  refine lv_iload_n hx hb d_D_value_67 rfl (lv_at hl 0 rfl) ?_
  refine lv_if_eq (tgt := 81) hx hb d_D_value_68 (by decide) (fun c_68 => ?_) (fun c_68 => ?_)
  · have c_68i := c_68
    replace c_68 : (md_rv (txS kn rs) lim 27 [] 0 (rs 1) ([], 0, 0)).2.1 = 0 := (nI_eq (a := (md_rv (txS kn rs) lim 27 [] 0 (rs 1) ([], 0, 0)).2.1) (b := 0) (by omega) (by omega)).mp c_68
    refine lv_iload_n hx hb d_D_value_81 rfl (lv_at hl 2 rfl) ?_
    refine lv_iconst (v := 1) hx hb d_D_value_82 (by decide) ?_
    refine lv_icmp_ne (tgt := 93) hx hb d_D_value_83 (by decide) (fun c_83 => ?_) (fun c_83 => ?_)
    · have c_83i := c_83
      replace c_83 : ¬ m0 = 1 := fun zz9 => c_83 ((nI_eq (a := m0) (b := 1) (by omega) (by omega)).mpr zz9)
      refine lv_aload_n hx hb d_D_value_93 rfl (lv_at hl 1 rfl) ?_
      refine hp_get S hK hW (0) (by omega) rfl hS7.1 rfl in_kD 2 (by decide) (hts _ (List.mem_cons_of_mem _ tq_8)) rfl d_D_value_94 ?_
      refine hp_goi hW (va_runV S (s_size l g z0 N ad F_30 hN (va_up (rs2) 1 []) kn (opS []) (pf (md_rv (txS kn rs) lim 27 [] 0 (rs 1) ([], 0, 0)).2.1 (-1) (nI (md_rv (txS kn rs) lim 27 [] 0 (rs 1) ([], 0, 0)).2.2)) (nI lim) (nI (md_rv (txS kn rs) lim 27 [] 0 (rs 1) ([], 0, 0)).1.2.1) (nI (md_rv (txS kn rs) lim 27 [] 0 (rs 1) ([], 0, 0)).1.2.2) wh2 te2 nu2 en2 hS7 5 rowp_5) (cwV 0 hts (tb_V cd_R_size tq_20 tq_21 tq_22 tq_3) rfl rfl rfl hd_R_size (rk_ok (by omega) (by omega))) (hp_preV hK hW (by omega) rfl (hS7.row rowp_5).obj rfl) rfl rfl hl.1 rfl (lv_room (Nat.le_of_ble_eq_true rfl)) d_D_value_97 ⟨Nat.zero_le _, Nat.zero_le _⟩) (fun r_31 F_32 H locs hw hW => ?_)
      obtain ⟨hvq, hFq⟩ := hw
      rw [hFq] at hW
      rw [hvq]
      have h68 := c_68
      have hm1 : ¬ m0 = 1 := c_83
      have e5 : (va_up rs2 1 []) 5 = (md_rv (txS kn rs) lim 27 [] 0 (rs 1) ([], 0, 0)).1.1 := (va_up_ne _ _ (by omega)).trans h52
      exact hp_reti S hK hW hr hlk d_D_value_100 (by rw [if_pos h68, if_pos h68, if_neg hm1]; exact ⟨by rw [e5], ⟨_, _, _, _, _, hS7, va_up_self _ _ _, e5, fun k => by rw [va_up_ne _ _ (by omega)]; exact ho2 _ (by omega)⟩, ((((((hf1.tr hf2).tr hf3).tr hf4).tr hf5).tr hf6).tr hf7)⟩)
    · have c_83i := c_83
      replace c_83 : m0 = 1 := (nI_eq (a := m0) (b := 1) (by omega) (by omega)).mp c_83
      refine lv_aload_n hx hb d_D_value_86 rfl (lv_at hl 1 rfl) ?_
      refine hp_get S hK hW (0) (by omega) rfl hS7.1 rfl in_kD 2 (by decide) (hts _ (List.mem_cons_of_mem _ tq_8)) rfl d_D_value_87 ?_
      refine hp_gov hW (va_runV S (s_squeeze l g z0 N ad F_30 hN (va_up (rs2) 1 []) kn (opS []) (pf (md_rv (txS kn rs) lim 27 [] 0 (rs 1) ([], 0, 0)).2.1 (-1) (nI (md_rv (txS kn rs) lim 27 [] 0 (rs 1) ([], 0, 0)).2.2)) (nI lim) (nI (md_rv (txS kn rs) lim 27 [] 0 (rs 1) ([], 0, 0)).1.2.1) (nI (md_rv (txS kn rs) lim 27 [] 0 (rs 1) ([], 0, 0)).1.2.2) wh2 te2 nu2 en2 hS7 5 rowp_5) (cwV 0 hts (tb_V cd_R_squeeze tq_46 tq_47 tq_48 tq_3) rfl rfl rfl hd_R_squeeze (rk_ok (by omega) (by omega))) (hp_preV hK hW (by omega) rfl (hS7.row rowp_5).obj rfl) rfl rfl hl.1 rfl (lv_room (Nat.le_of_ble_eq_true rfl)) d_D_value_90 ⟨Nat.zero_le _, Nat.zero_le _⟩) (fun F_34 H locs hw hW => ?_)
      obtain ⟨hS8, hf8⟩ := hw
      refine lv_aload_n hx hb d_D_value_93 rfl (lv_at hl 1 rfl) ?_
      refine hp_get S hK hW (0) (by omega) rfl hS8.1 rfl in_kD 2 (by decide) (hts _ (List.mem_cons_of_mem _ tq_8)) rfl d_D_value_94 ?_
      refine hp_goi hW (va_runV S (s_size l g z0 N ad F_34 hN (va_up (va_up (rs2) 1 []) 5 (md_sq ((va_up (rs2) 1 []) 5))) kn (opS []) (pf (md_rv (txS kn rs) lim 27 [] 0 (rs 1) ([], 0, 0)).2.1 (-1) (nI (md_rv (txS kn rs) lim 27 [] 0 (rs 1) ([], 0, 0)).2.2)) (nI lim) (nI (md_rv (txS kn rs) lim 27 [] 0 (rs 1) ([], 0, 0)).1.2.1) (nI (md_rv (txS kn rs) lim 27 [] 0 (rs 1) ([], 0, 0)).1.2.2) wh2 te2 nu2 en2 hS8 5 rowp_5) (cwV 0 hts (tb_V cd_R_size tq_20 tq_21 tq_22 tq_3) rfl rfl rfl hd_R_size (rk_ok (by omega) (by omega))) (hp_preV hK hW (by omega) rfl (hS8.row rowp_5).obj rfl) rfl rfl hl.1 rfl (lv_room (Nat.le_of_ble_eq_true rfl)) d_D_value_97 ⟨Nat.zero_le _, Nat.zero_le _⟩) (fun r_35 F_36 H locs hw hW => ?_)
      obtain ⟨hvq, hFq⟩ := hw
      rw [hFq] at hW
      rw [hvq]
      have h68 := c_68
      have hm1 : m0 = 1 := c_83
      have e5 : (va_up (va_up rs2 1 []) 5 (md_sq ((va_up rs2 1 []) 5))) 5 = md_sq (md_rv (txS kn rs) lim 27 [] 0 (rs 1) ([], 0, 0)).1.1 := by rw [va_up_self, va_up_ne _ _ (by omega), h52]
      exact hp_reti S hK hW hr hlk d_D_value_100 (by rw [if_pos h68, if_pos h68, if_pos hm1]; exact ⟨by rw [e5], ⟨_, _, _, _, _, hS8, by rw [va_up_ne _ _ (by omega)]; exact va_up_self _ _ _, e5, fun k => by rw [va_up_ne _ _ (by omega), va_up_ne _ _ (by omega)]; exact ho2 _ (by omega)⟩, (((((((hf1.tr hf2).tr hf3).tr hf4).tr hf5).tr hf6).tr hf7).tr hf8)⟩)
  · have c_68i := c_68
    replace c_68 : ¬ (md_rv (txS kn rs) lim 27 [] 0 (rs 1) ([], 0, 0)).2.1 = 0 := fun zz9 => c_68 ((nI_eq (a := (md_rv (txS kn rs) lim 27 [] 0 (rs 1) ([], 0, 0)).2.1) (b := 0) (by omega) (by omega)).mpr zz9)
    refine lv_aload_n hx hb d_D_value_71 rfl (lv_at hl 1 rfl) ?_
    refine hp_get S hK hW (0) (by omega) rfl hS7.1 rfl in_kD 2 (by decide) (hts _ (List.mem_cons_of_mem _ tq_8)) rfl d_D_value_72 ?_
    refine hp_gov hW (va_runV S (s_empty l g z0 N ad F_30 hN (va_up (rs2) 1 []) kn (opS []) (pf (md_rv (txS kn rs) lim 27 [] 0 (rs 1) ([], 0, 0)).2.1 (-1) (nI (md_rv (txS kn rs) lim 27 [] 0 (rs 1) ([], 0, 0)).2.2)) (nI lim) (nI (md_rv (txS kn rs) lim 27 [] 0 (rs 1) ([], 0, 0)).1.2.1) (nI (md_rv (txS kn rs) lim 27 [] 0 (rs 1) ([], 0, 0)).1.2.2) wh2 te2 nu2 en2 hS7 5 rowp_5) (cwV 0 hts (tb_V cd_R_empty tq_33 tq_34 tq_35 tq_3) rfl rfl rfl hd_R_empty (rk_ok (by omega) (by omega))) (hp_preV hK hW (by omega) rfl (hS7.row rowp_5).obj rfl) rfl rfl hl.1 rfl (lv_room (Nat.le_of_ble_eq_true rfl)) d_D_value_75 ⟨Nat.zero_le _, Nat.zero_le _⟩) (fun F_38 H locs hw hW => ?_)
    obtain ⟨hS8, hf8⟩ := hw
    refine lv_iload_n hx hb d_D_value_78 rfl (lv_at hl 0 rfl) ?_
    refine lv_ineg hx hb d_D_value_79 ?_
    have h68 := c_68
    exact hp_reti S hK hW hr hlk d_D_value_80 (by rw [if_neg h68, if_neg h68]; exact ⟨rfl, ⟨_, _, _, _, _, hS8, by rw [va_up_ne _ _ (by omega)]; exact va_up_self _ _ _, va_up_self _ _ _, fun k => by rw [va_up_ne _ _ (by omega), va_up_ne _ _ (by omega)]; exact ho2 _ (by omega)⟩, (((((((hf1.tr hf2).tr hf3).tr hf4).tr hf5).tr hf6).tr hf7).tr hf8)⟩)
end
section
/-! pictures of the reference's cells. Places: 87 the object, 88 tape, 89 has, 90 size, 91 texts, 92 value, 93 entity, 94 at, 95 made -/
abbrev mF (ad : Nat → Nat) (tc bt vs fp me dp de fa ou ki nu be mk : Int32) : List Value := [.int tc, .ref (ad 88), .int bt, .ref (ad 89), .ref (ad 90), .ref (ad 91), .ref (ad 92), .int vs, .int fp, .int me, .int dp, .int de, .ref (ad 93), .ref (ad 94), .int fa, .int ou, .int ki, .int nu, .int be, .ref (ad 95), .int mk]
def mSt (g : hp_G) (ad : Nat → Nat) (F : Nat → va_E) (tc bt vs fp me dp de fa ou ki nu be mk : Int32) (tp hs sz tx vl ey ap md : Nat → Int32) : Prop :=
  F 87 = .inr (kM, mF ad tc bt vs fp me dp de fa ou ki nu be mk) ∧ F 88 = .inl (g.2 0, 200, .inl tp) ∧ F 89 = .inl (g.2 2, 26, .inl hs) ∧ F 90 = .inl (g.2 0, 26, .inl sz) ∧ F 91 = .inl (g.2 0, 2600, .inl tx) ∧ F 92 = .inl (g.2 0, 301, .inl vl) ∧ F 93 = .inl (g.2 0, 28, .inl ey) ∧ F 94 = .inl (g.2 0, 28, .inl ap) ∧ F 95 = .inl (g.2 0, 204, .inl md)
/-- a list in an array from place o on -/
def mL (f : Nat → Int32) (o : Nat) (xs : List Int32) : Prop := ∀ i, i < xs.length → f (o + i) = md_at xs i
theorem mL_nil (f : Nat → Int32) (o : Nat) : mL f o [] := fun i h => absurd h (Nat.not_lt_zero _)
theorem mL_push {f : Nat → Int32} {xs : List Int32} {c : Int32} (h : mL f 0 xs) : mL (upd f xs.length c) 0 (xs ++ [c]) := fun i hi => by
  rw [Nat.zero_add]
  exact md_push (fun i hi => by have := h i hi; rwa [Nat.zero_add] at this) i hi
/-- which texts there are -/
def mT (kn : Nat → Bool) (rt : Nat → List Int32) (hs sz tx : Nat → Int32) : Prop := ∀ k, k < 26 → hs k = b2 (kn k) ∧ (kn k = true → sz k = nI (rt k).length ∧ (rt k).length ≤ 100 ∧ mL tx (100 * k) (rt k))
/-- what is open, the last one first -/
def mK (kn : Nat → Bool) (ey : Nat → Int32) (stk : List Nat) : Prop := stk.length ≤ 26 ∧ (∀ i, i < stk.length → ey (stk.length - i) = nI (stk.getD i 0)) ∧ ∀ k ∈ stk, k < 26 ∧ kn k = true
/-- the whole reference -/
def mS (g : hp_G) (ad : Nat → Nat) (F : Nat → va_E) (tape : List Int32) (kn : Nat → Bool) (rt : Nat → List Int32) (la mm : List Int32) (stk : List Nat) (ap : Nat → Int32) (tc fp me dp fa ou ki nu be : Int32) : Prop :=
  ∃ tp hs sz tx vl ey md : Nat → Int32, mSt g ad F tc (nI tape.length) (nI la.length) fp me dp (nI stk.length) fa ou ki nu be (nI mm.length) tp hs sz tx vl ey ap md ∧ (tape.length ≤ 200 ∧ mL tp 0 tape) ∧ mT kn rt hs sz tx ∧ (la.length ≤ 300 ∧ mL vl 0 la) ∧ mK kn ey stk ∧ mm.length ≤ 100 ∧ mL md 0 mm
/-- what is not the reference's stays -/
def mFr (F F' : Nat → va_E) : Prop := ∀ x, x < 87 → F' x = F x
theorem mFr.rf {F : Nat → va_E} : mFr F F := fun _ _ => rfl
theorem mFr.tr {F F1 F2 : Nat → va_E} (h1 : mFr F F1) (h2 : mFr F1 F2) : mFr F F2 := fun x hx => (h2 x hx).trans (h1 x hx)
/-- the row that is being read -/
def mC (tape : List Int32) (rt : Nat → List Int32) (stk : List Nat) : List Int32 := match stk with
  | [] => tape
  | k :: _ => rt k
/-- the fault of a reference, and its place -/
def lkf (t n : Nat) (X : Bool × Bool × Int32 × Nat) : Nat := if X.1 = true then if X.2.1 = true ∨ md_ch X.2.2.1 = true then 0 else 5 else if t = 0 ∨ X.2.2.2 < n then 1 else 7
def lkp (p : Nat) (X : Bool × Bool × Int32 × Nat) : Nat := if X.1 = true then p else X.2.2.2
/-- behind look(p), that found X -/
def LK (g : hp_G) (ad : Nat → Nat) (Fz : Nat → va_E) (tape : List Int32) (kn : Nat → Bool) (rt : Nat → List Int32) (la mm : List Int32) (stk : List Nat) (ap : Nat → Int32) (tc fp me dp ou : Int32) (p : Nat) (X : Bool × Bool × Int32 × Nat) (F' : Nat → va_E) : Prop :=
  ∃ ki nu be : Int32, mS g ad F' tape kn rt la mm stk ap tc (pf (lkf stk.length (mC tape rt stk).length X) fp (if stk.length = 0 then nI (lkp p X) else ou)) me dp (nI (lkf stk.length (mC tape rt stk).length X)) ou ki nu be ∧ (X.1 = true → be = nI X.2.2.2 ∧ nu = X.2.2.1 ∧ ki = (if X.2.1 = true then 1 else 2)) ∧ mFr Fz F'
theorem mS.cl {g : hp_G} {ad : Nat → Nat} {F : Nat → va_E} {tape : List Int32} {kn : Nat → Bool} {rt : Nat → List Int32} {la mm : List Int32} {stk : List Nat} {ap : Nat → Int32} {tc fp me dp fa ou ki nu be : Int32} (h : mS g ad F tape kn rt la mm stk ap tc fp me dp fa ou ki nu be) : (mC tape rt stk).length ≤ 200 := by
  obtain ⟨tp, hs, sz, tx, vl, ey, md, hR, ⟨htl, htp⟩, hT, ⟨hll, hvl⟩, hKs, hml0, hmd⟩ := h
  cases stk with
  | nil => exact htl
  | cons k st1 =>
    have hk := hKs.2.2 k List.mem_cons_self
    have := ((hT k hk.1).2 hk.2).2.1
    show (rt k).length ≤ 200
    omega
theorem mS.sl {g : hp_G} {ad : Nat → Nat} {F : Nat → va_E} {tape : List Int32} {kn : Nat → Bool} {rt : Nat → List Int32} {la mm : List Int32} {stk : List Nat} {ap : Nat → Int32} {tc fp me dp fa ou ki nu be : Int32} (h : mS g ad F tape kn rt la mm stk ap tc fp me dp fa ou ki nu be) : stk.length ≤ 26 := by
  obtain ⟨tp, hs, sz, tx, vl, ey, md, hR, hA, hT, hB, hKs, hC⟩ := h
  exact hKs.1
theorem mK_push {kn : Nat → Bool} {ey : Nat → Int32} {stk : List Nat} {k : Nat} (h : mK kn ey stk) (hk : k < 26) (hkn : kn k = true) (hl : stk.length + 1 ≤ 26) : mK kn (upd ey (stk.length + 1) (nI k)) (k :: stk) := by
  refine ⟨by rw [List.length_cons]; exact hl, fun i hi => ?_, fun z hz => ?_⟩
  · rw [List.length_cons] at hi ⊢
    cases i with
    | zero =>
      rw [Nat.sub_zero, pk_us]
      rfl
    | succ i =>
      rw [pk_un (by omega), show stk.length + 1 - (i + 1) = stk.length - i by omega]
      exact h.2.1 i (by omega)
  · rcases List.mem_cons.mp hz with rfl | h2
    · exact ⟨hk, hkn⟩
    · exact h.2.2 z h2
theorem mK_pop {kn : Nat → Bool} {ey : Nat → Int32} {stk : List Nat} {k : Nat} (h : mK kn ey (k :: stk)) : mK kn ey stk := by
  refine ⟨by have := h.1; rw [List.length_cons] at this; omega, fun i hi => ?_, fun z hz => h.2.2 z (List.mem_cons_of_mem _ hz)⟩
  have h1 := h.2.1 (i + 1) (by rw [List.length_cons]; omega)
  rw [List.length_cons, show stk.length + 1 - (i + 1) = stk.length - i by omega] at h1
  exact h1
def txR (kn : Nat → Bool) (rt : Nat → List Int32) : Nat → Option (List Int32) := fun k => if kn k = true then some (rt k) else none
/-- why an entity isn't put in -/
def opf (kn : Nat → Bool) (stk : List Nat) (k n me0 lim : Nat) : Nat := if kn k = false then 2 else if k ∈ stk then 3 else if lim < me0 + n then 6 else 0
theorem lkf_le (t n : Nat) (X : Bool × Bool × Int32 × Nat) : lkf t n X ≤ 8 := by
  unfold lkf
  split
  · split <;> omega
  · split <;> omega
theorem lkf_5 {t n q : Nat} {nu : Int32} (h : md_ch nu = false) : lkf t n (true, false, nu, q) = 5 := by
  unfold lkf
  rw [if_pos rfl]
  exact if_neg (fun z => by
    rcases z with z | z
    · cases z
    · rw [h] at z
      cases z)
end
section
/-! the reference: isCharacter -/
set_option maxHeartbeats 400000 in
set_option maxRecDepth 100000 in
theorem m_isCharacter (l : Launch) (g : hp_G) (z0 N : Nat) (ad : Nat → Nat) (F : Nat → va_E) (x : Int32) : hp_Mi l g z0 N ad y_M_isCharacter ws_M_isCharacter (rk 0) [.int x] F (fun v F' => v = b2 (md_ch x) ∧ F' = F) := by
  refine hp_enter (cc := cc_M_isCharacter) (maxL := 1) (ret := (some .boolean)) (by decide) rfl (Nat.le_of_ble_eq_true rfl) ?_
  intro p e s m below meth c S hr hlk hnm hK hW ls hl
  have hl : lv_has ls 1 [(0, .int x)] := hl
  obtain ⟨hx, hb, hml, hown, hts⟩ := id S
  refine lv_iload_n hx hb d_M_isCharacter_0 rfl (lv_at hl 0 rfl) ?_
  refine lv_bipush (v := 9) hx hb d_M_isCharacter_1 (by decide) ?_
  refine lv_icmp_eq (tgt := 30) hx hb d_M_isCharacter_3 (by decide) (fun c_3 => ?_) (fun c_3 => ?_)
  · have c_3i := c_3
    refine lv_iconst (v := 1) hx hb d_M_isCharacter_30 (by decide) ?_
    refine lv_goto (tgt := 35) hx hb d_M_isCharacter_31 (by decide) ?_
    exact hp_retz S hK hW hr hlk rfl d_M_isCharacter_35 (⟨by unfold md_ch b2; simp [c_3i], rfl⟩)
  · have c_3i := c_3
    refine lv_iload_n hx hb d_M_isCharacter_6 rfl (lv_at hl 0 rfl) ?_
    refine lv_bipush (v := 10) hx hb d_M_isCharacter_7 (by decide) ?_
    refine lv_icmp_eq (tgt := 30) hx hb d_M_isCharacter_9 (by decide) (fun c_9 => ?_) (fun c_9 => ?_)
    · have c_9i := c_9
      refine lv_iconst (v := 1) hx hb d_M_isCharacter_30 (by decide) ?_
      refine lv_goto (tgt := 35) hx hb d_M_isCharacter_31 (by decide) ?_
      exact hp_retz S hK hW hr hlk rfl d_M_isCharacter_35 (⟨by unfold md_ch b2; simp [c_3i, c_9i], rfl⟩)
    · have c_9i := c_9
      refine lv_iload_n hx hb d_M_isCharacter_12 rfl (lv_at hl 0 rfl) ?_
      refine lv_bipush (v := 13) hx hb d_M_isCharacter_13 (by decide) ?_
      refine lv_icmp_eq (tgt := 30) hx hb d_M_isCharacter_15 (by decide) (fun c_15 => ?_) (fun c_15 => ?_)
      · have c_15i := c_15
        refine lv_iconst (v := 1) hx hb d_M_isCharacter_30 (by decide) ?_
        refine lv_goto (tgt := 35) hx hb d_M_isCharacter_31 (by decide) ?_
        exact hp_retz S hK hW hr hlk rfl d_M_isCharacter_35 (⟨by unfold md_ch b2; simp [c_3i, c_9i, c_15i], rfl⟩)
      · have c_15i := c_15
        refine lv_iload_n hx hb d_M_isCharacter_18 rfl (lv_at hl 0 rfl) ?_
        refine lv_bipush (v := 32) hx hb d_M_isCharacter_19 (by decide) ?_
        refine lv_icmp_lt (tgt := 34) hx hb d_M_isCharacter_21 (by decide) (fun c_21 => ?_) (fun c_21 => ?_)
        · have c_21i := c_21
          have c_21j := Int32.not_le.mpr c_21
          refine lv_iconst (v := 0) hx hb d_M_isCharacter_34 (by decide) ?_
          exact hp_retz S hK hW hr hlk rfl d_M_isCharacter_35 (⟨by unfold md_ch b2; simp [c_3i, c_9i, c_15i, c_21j], rfl⟩)
        · have c_21i := c_21
          have c_21j := Int32.not_lt.mp c_21
          refine lv_iload_n hx hb d_M_isCharacter_24 rfl (lv_at hl 0 rfl) ?_
          refine lv_bipush (v := 126) hx hb d_M_isCharacter_25 (by decide) ?_
          refine lv_icmp_gt (tgt := 34) hx hb d_M_isCharacter_27 (by decide) (fun c_27 => ?_) (fun c_27 => ?_)
          · have c_27i := c_27
            have c_27j := Int32.not_le.mpr c_27
            refine lv_iconst (v := 0) hx hb d_M_isCharacter_34 (by decide) ?_
            exact hp_retz S hK hW hr hlk rfl d_M_isCharacter_35 (⟨by unfold md_ch b2; simp [c_3i, c_9i, c_15i, c_21j, c_27j], rfl⟩)
          · have c_27i := c_27
            have c_27j := Int32.not_lt.mp c_27
            refine lv_iconst (v := 1) hx hb d_M_isCharacter_30 (by decide) ?_
            refine lv_goto (tgt := 35) hx hb d_M_isCharacter_31 (by decide) ?_
            exact hp_retz S hK hW hr hlk rfl d_M_isCharacter_35 (⟨by unfold md_ch b2; simp [c_3i, c_9i, c_15i, c_21j, c_27j], rfl⟩)

/-! the reference: digit -/
set_option maxHeartbeats 400000 in
set_option maxRecDepth 100000 in
theorem m_digit_1 (l : Launch) (g : hp_G) (z0 N : Nat) (ad : Nat → Nat) (F : Nat → va_E) (x : Int32) : hp_Mi l g z0 N ad y_M_digit ws_M_digit (rk 0) [.int x, .int 1] F (fun v F' => v = md_dg true x ∧ F' = F) := by
  refine hp_enter (cc := cc_M_digit) (maxL := 2) (ret := (some .int)) (by decide) rfl (Nat.le_of_ble_eq_true rfl) ?_
  intro p e s m below meth c S hr hlk hnm hK hW ls hl
  have hl : lv_has ls 2 [(0, .int x), (1, .int 1)] := hl
  obtain ⟨hx, hb, hml, hown, hts⟩ := id S
  refine lv_iload_n hx hb d_M_digit_0 rfl (lv_at hl 0 rfl) ?_
  refine lv_bipush (v := 48) hx hb d_M_digit_1 (by decide) ?_
  refine lv_icmp_lt (tgt := 17) hx hb d_M_digit_3 (by decide) (fun c_3 => ?_) (fun c_3 => ?_)
  · have c_3i := c_3
    have c_3j := Int32.not_le.mpr c_3
    refine lv_iload_n hx hb d_M_digit_17 rfl (lv_at hl 1 rfl) ?_
    refine lv_if_eq (tgt := 38) hx hb d_M_digit_18 (by decide) (fun c_18 => absurd c_18 (show ¬ ((1 : Int32) = 0) from by decide)) (fun c_18 => ?_)
    refine lv_iload_n hx hb d_M_digit_21 rfl (lv_at hl 0 rfl) ?_
    refine lv_bipush (v := 97) hx hb d_M_digit_22 (by decide) ?_
    refine lv_icmp_lt (tgt := 38) hx hb d_M_digit_24 (by decide) (fun c_24 => ?_) (fun c_24 => ?_)
    · have c_24i := c_24
      have c_24j := Int32.not_le.mpr c_24
      refine lv_iload_n hx hb d_M_digit_38 rfl (lv_at hl 1 rfl) ?_
      refine lv_if_eq (tgt := 59) hx hb d_M_digit_39 (by decide) (fun c_39 => absurd c_39 (show ¬ ((1 : Int32) = 0) from by decide)) (fun c_39 => ?_)
      refine lv_iload_n hx hb d_M_digit_42 rfl (lv_at hl 0 rfl) ?_
      refine lv_bipush (v := 65) hx hb d_M_digit_43 (by decide) ?_
      refine lv_icmp_lt (tgt := 59) hx hb d_M_digit_45 (by decide) (fun c_45 => ?_) (fun c_45 => ?_)
      · have c_45i := c_45
        have c_45j := Int32.not_le.mpr c_45
        refine lv_iconst (v := (-1)) hx hb d_M_digit_59 (by decide) ?_
        exact hp_reti S hK hW hr hlk d_M_digit_60 (⟨by unfold md_dg; simp [c_3j, c_24j, c_45j], rfl⟩)
      · have c_45i := c_45
        have c_45j := Int32.not_lt.mp c_45
        refine lv_iload_n hx hb d_M_digit_48 rfl (lv_at hl 0 rfl) ?_
        refine lv_bipush (v := 70) hx hb d_M_digit_49 (by decide) ?_
        refine lv_icmp_gt (tgt := 59) hx hb d_M_digit_51 (by decide) (fun c_51 => ?_) (fun c_51 => ?_)
        · have c_51i := c_51
          have c_51j := Int32.not_le.mpr c_51
          refine lv_iconst (v := (-1)) hx hb d_M_digit_59 (by decide) ?_
          exact hp_reti S hK hW hr hlk d_M_digit_60 (⟨by unfold md_dg; simp [c_3j, c_24j, c_45j, c_51j], rfl⟩)
        · have c_51i := c_51
          have c_51j := Int32.not_lt.mp c_51
          refine lv_iload_n hx hb d_M_digit_54 rfl (lv_at hl 0 rfl) ?_
          refine lv_bipush (v := 55) hx hb d_M_digit_55 (by decide) ?_
          refine lv_isub hx hb d_M_digit_57 ?_
          exact hp_reti S hK hW hr hlk d_M_digit_58 (⟨by unfold md_dg; simp [c_3j, c_24j, c_45j, c_51j], rfl⟩)
    · have c_24i := c_24
      have c_24j := Int32.not_lt.mp c_24
      refine lv_iload_n hx hb d_M_digit_27 rfl (lv_at hl 0 rfl) ?_
      refine lv_bipush (v := 102) hx hb d_M_digit_28 (by decide) ?_
      refine lv_icmp_gt (tgt := 38) hx hb d_M_digit_30 (by decide) (fun c_30 => ?_) (fun c_30 => ?_)
      · have c_30i := c_30
        have c_30j := Int32.not_le.mpr c_30
        refine lv_iload_n hx hb d_M_digit_38 rfl (lv_at hl 1 rfl) ?_
        refine lv_if_eq (tgt := 59) hx hb d_M_digit_39 (by decide) (fun c_39 => absurd c_39 (show ¬ ((1 : Int32) = 0) from by decide)) (fun c_39 => ?_)
        refine lv_iload_n hx hb d_M_digit_42 rfl (lv_at hl 0 rfl) ?_
        refine lv_bipush (v := 65) hx hb d_M_digit_43 (by decide) ?_
        refine lv_icmp_lt (tgt := 59) hx hb d_M_digit_45 (by decide) (fun c_45 => ?_) (fun c_45 => ?_)
        · have c_45i := c_45
          have c_45j := Int32.not_le.mpr c_45
          refine lv_iconst (v := (-1)) hx hb d_M_digit_59 (by decide) ?_
          exact hp_reti S hK hW hr hlk d_M_digit_60 (⟨by unfold md_dg; simp [c_3j, c_24j, c_30j, c_45j], rfl⟩)
        · have c_45i := c_45
          have c_45j := Int32.not_lt.mp c_45
          refine lv_iload_n hx hb d_M_digit_48 rfl (lv_at hl 0 rfl) ?_
          refine lv_bipush (v := 70) hx hb d_M_digit_49 (by decide) ?_
          refine lv_icmp_gt (tgt := 59) hx hb d_M_digit_51 (by decide) (fun c_51 => ?_) (fun c_51 => ?_)
          · have c_51i := c_51
            have c_51j := Int32.not_le.mpr c_51
            refine lv_iconst (v := (-1)) hx hb d_M_digit_59 (by decide) ?_
            exact hp_reti S hK hW hr hlk d_M_digit_60 (⟨by unfold md_dg; simp [c_3j, c_24j, c_30j, c_45j, c_51j], rfl⟩)
          · have c_51i := c_51
            have c_51j := Int32.not_lt.mp c_51
            refine lv_iload_n hx hb d_M_digit_54 rfl (lv_at hl 0 rfl) ?_
            refine lv_bipush (v := 55) hx hb d_M_digit_55 (by decide) ?_
            refine lv_isub hx hb d_M_digit_57 ?_
            exact hp_reti S hK hW hr hlk d_M_digit_58 (⟨by unfold md_dg; simp [c_3j, c_24j, c_30j, c_45j, c_51j], rfl⟩)
      · have c_30i := c_30
        have c_30j := Int32.not_lt.mp c_30
        refine lv_iload_n hx hb d_M_digit_33 rfl (lv_at hl 0 rfl) ?_
        refine lv_bipush (v := 87) hx hb d_M_digit_34 (by decide) ?_
        refine lv_isub hx hb d_M_digit_36 ?_
        exact hp_reti S hK hW hr hlk d_M_digit_37 (⟨by unfold md_dg; simp [c_3j, c_24j, c_30j], rfl⟩)
  · have c_3i := c_3
    have c_3j := Int32.not_lt.mp c_3
    refine lv_iload_n hx hb d_M_digit_6 rfl (lv_at hl 0 rfl) ?_
    refine lv_bipush (v := 57) hx hb d_M_digit_7 (by decide) ?_
    refine lv_icmp_gt (tgt := 17) hx hb d_M_digit_9 (by decide) (fun c_9 => ?_) (fun c_9 => ?_)
    · have c_9i := c_9
      have c_9j := Int32.not_le.mpr c_9
      refine lv_iload_n hx hb d_M_digit_17 rfl (lv_at hl 1 rfl) ?_
      refine lv_if_eq (tgt := 38) hx hb d_M_digit_18 (by decide) (fun c_18 => absurd c_18 (show ¬ ((1 : Int32) = 0) from by decide)) (fun c_18 => ?_)
      refine lv_iload_n hx hb d_M_digit_21 rfl (lv_at hl 0 rfl) ?_
      refine lv_bipush (v := 97) hx hb d_M_digit_22 (by decide) ?_
      refine lv_icmp_lt (tgt := 38) hx hb d_M_digit_24 (by decide) (fun c_24 => ?_) (fun c_24 => ?_)
      · have c_24i := c_24
        have c_24j := Int32.not_le.mpr c_24
        refine lv_iload_n hx hb d_M_digit_38 rfl (lv_at hl 1 rfl) ?_
        refine lv_if_eq (tgt := 59) hx hb d_M_digit_39 (by decide) (fun c_39 => absurd c_39 (show ¬ ((1 : Int32) = 0) from by decide)) (fun c_39 => ?_)
        refine lv_iload_n hx hb d_M_digit_42 rfl (lv_at hl 0 rfl) ?_
        refine lv_bipush (v := 65) hx hb d_M_digit_43 (by decide) ?_
        refine lv_icmp_lt (tgt := 59) hx hb d_M_digit_45 (by decide) (fun c_45 => ?_) (fun c_45 => ?_)
        · have c_45i := c_45
          have c_45j := Int32.not_le.mpr c_45
          refine lv_iconst (v := (-1)) hx hb d_M_digit_59 (by decide) ?_
          exact hp_reti S hK hW hr hlk d_M_digit_60 (⟨by unfold md_dg; simp [c_3j, c_9j, c_24j, c_45j], rfl⟩)
        · have c_45i := c_45
          have c_45j := Int32.not_lt.mp c_45
          refine lv_iload_n hx hb d_M_digit_48 rfl (lv_at hl 0 rfl) ?_
          refine lv_bipush (v := 70) hx hb d_M_digit_49 (by decide) ?_
          refine lv_icmp_gt (tgt := 59) hx hb d_M_digit_51 (by decide) (fun c_51 => ?_) (fun c_51 => ?_)
          · have c_51i := c_51
            have c_51j := Int32.not_le.mpr c_51
            refine lv_iconst (v := (-1)) hx hb d_M_digit_59 (by decide) ?_
            exact hp_reti S hK hW hr hlk d_M_digit_60 (⟨by unfold md_dg; simp [c_3j, c_9j, c_24j, c_45j, c_51j], rfl⟩)
          · have c_51i := c_51
            have c_51j := Int32.not_lt.mp c_51
            refine lv_iload_n hx hb d_M_digit_54 rfl (lv_at hl 0 rfl) ?_
            refine lv_bipush (v := 55) hx hb d_M_digit_55 (by decide) ?_
            refine lv_isub hx hb d_M_digit_57 ?_
            exact hp_reti S hK hW hr hlk d_M_digit_58 (⟨by unfold md_dg; simp [c_3j, c_9j, c_24j, c_45j, c_51j], rfl⟩)
      · have c_24i := c_24
        have c_24j := Int32.not_lt.mp c_24
        refine lv_iload_n hx hb d_M_digit_27 rfl (lv_at hl 0 rfl) ?_
        refine lv_bipush (v := 102) hx hb d_M_digit_28 (by decide) ?_
        refine lv_icmp_gt (tgt := 38) hx hb d_M_digit_30 (by decide) (fun c_30 => ?_) (fun c_30 => ?_)
        · have c_30i := c_30
          have c_30j := Int32.not_le.mpr c_30
          refine lv_iload_n hx hb d_M_digit_38 rfl (lv_at hl 1 rfl) ?_
          refine lv_if_eq (tgt := 59) hx hb d_M_digit_39 (by decide) (fun c_39 => absurd c_39 (show ¬ ((1 : Int32) = 0) from by decide)) (fun c_39 => ?_)
          refine lv_iload_n hx hb d_M_digit_42 rfl (lv_at hl 0 rfl) ?_
          refine lv_bipush (v := 65) hx hb d_M_digit_43 (by decide) ?_
          refine lv_icmp_lt (tgt := 59) hx hb d_M_digit_45 (by decide) (fun c_45 => ?_) (fun c_45 => ?_)
          · have c_45i := c_45
            have c_45j := Int32.not_le.mpr c_45
            refine lv_iconst (v := (-1)) hx hb d_M_digit_59 (by decide) ?_
            exact hp_reti S hK hW hr hlk d_M_digit_60 (⟨by unfold md_dg; simp [c_3j, c_9j, c_24j, c_30j, c_45j], rfl⟩)
          · have c_45i := c_45
            have c_45j := Int32.not_lt.mp c_45
            refine lv_iload_n hx hb d_M_digit_48 rfl (lv_at hl 0 rfl) ?_
            refine lv_bipush (v := 70) hx hb d_M_digit_49 (by decide) ?_
            refine lv_icmp_gt (tgt := 59) hx hb d_M_digit_51 (by decide) (fun c_51 => ?_) (fun c_51 => ?_)
            · have c_51i := c_51
              have c_51j := Int32.not_le.mpr c_51
              refine lv_iconst (v := (-1)) hx hb d_M_digit_59 (by decide) ?_
              exact hp_reti S hK hW hr hlk d_M_digit_60 (⟨by unfold md_dg; simp [c_3j, c_9j, c_24j, c_30j, c_45j, c_51j], rfl⟩)
            · have c_51i := c_51
              have c_51j := Int32.not_lt.mp c_51
              refine lv_iload_n hx hb d_M_digit_54 rfl (lv_at hl 0 rfl) ?_
              refine lv_bipush (v := 55) hx hb d_M_digit_55 (by decide) ?_
              refine lv_isub hx hb d_M_digit_57 ?_
              exact hp_reti S hK hW hr hlk d_M_digit_58 (⟨by unfold md_dg; simp [c_3j, c_9j, c_24j, c_30j, c_45j, c_51j], rfl⟩)
        · have c_30i := c_30
          have c_30j := Int32.not_lt.mp c_30
          refine lv_iload_n hx hb d_M_digit_33 rfl (lv_at hl 0 rfl) ?_
          refine lv_bipush (v := 87) hx hb d_M_digit_34 (by decide) ?_
          refine lv_isub hx hb d_M_digit_36 ?_
          exact hp_reti S hK hW hr hlk d_M_digit_37 (⟨by unfold md_dg; simp [c_3j, c_9j, c_24j, c_30j], rfl⟩)
    · have c_9i := c_9
      have c_9j := Int32.not_lt.mp c_9
      refine lv_iload_n hx hb d_M_digit_12 rfl (lv_at hl 0 rfl) ?_
      refine lv_bipush (v := 48) hx hb d_M_digit_13 (by decide) ?_
      refine lv_isub hx hb d_M_digit_15 ?_
      exact hp_reti S hK hW hr hlk d_M_digit_16 (⟨(dg_0 (Int32.not_lt.mp c_3i) (Int32.not_lt.mp c_9i)).symm, rfl⟩)

/-! the reference: digit -/
set_option maxHeartbeats 400000 in
set_option maxRecDepth 100000 in
theorem m_digit_0 (l : Launch) (g : hp_G) (z0 N : Nat) (ad : Nat → Nat) (F : Nat → va_E) (x : Int32) : hp_Mi l g z0 N ad y_M_digit ws_M_digit (rk 0) [.int x, .int 0] F (fun v F' => v = md_dg false x ∧ F' = F) := by
  refine hp_enter (cc := cc_M_digit) (maxL := 2) (ret := (some .int)) (by decide) rfl (Nat.le_of_ble_eq_true rfl) ?_
  intro p e s m below meth c S hr hlk hnm hK hW ls hl
  have hl : lv_has ls 2 [(0, .int x), (1, .int 0)] := hl
  obtain ⟨hx, hb, hml, hown, hts⟩ := id S
  refine lv_iload_n hx hb d_M_digit_0 rfl (lv_at hl 0 rfl) ?_
  refine lv_bipush (v := 48) hx hb d_M_digit_1 (by decide) ?_
  refine lv_icmp_lt (tgt := 17) hx hb d_M_digit_3 (by decide) (fun c_3 => ?_) (fun c_3 => ?_)
  · have c_3i := c_3
    have c_3j := Int32.not_le.mpr c_3
    refine lv_iload_n hx hb d_M_digit_17 rfl (lv_at hl 1 rfl) ?_
    refine lv_if_eq (tgt := 38) hx hb d_M_digit_18 (by decide) (fun c_18 => ?_) (fun c_18 => absurd (show (0 : Int32) = 0 from by decide) c_18)
    refine lv_iload_n hx hb d_M_digit_38 rfl (lv_at hl 1 rfl) ?_
    refine lv_if_eq (tgt := 59) hx hb d_M_digit_39 (by decide) (fun c_39 => ?_) (fun c_39 => absurd (show (0 : Int32) = 0 from by decide) c_39)
    refine lv_iconst (v := (-1)) hx hb d_M_digit_59 (by decide) ?_
    exact hp_reti S hK hW hr hlk d_M_digit_60 (⟨by unfold md_dg; simp [c_3j], rfl⟩)
  · have c_3i := c_3
    have c_3j := Int32.not_lt.mp c_3
    refine lv_iload_n hx hb d_M_digit_6 rfl (lv_at hl 0 rfl) ?_
    refine lv_bipush (v := 57) hx hb d_M_digit_7 (by decide) ?_
    refine lv_icmp_gt (tgt := 17) hx hb d_M_digit_9 (by decide) (fun c_9 => ?_) (fun c_9 => ?_)
    · have c_9i := c_9
      have c_9j := Int32.not_le.mpr c_9
      refine lv_iload_n hx hb d_M_digit_17 rfl (lv_at hl 1 rfl) ?_
      refine lv_if_eq (tgt := 38) hx hb d_M_digit_18 (by decide) (fun c_18 => ?_) (fun c_18 => absurd (show (0 : Int32) = 0 from by decide) c_18)
      refine lv_iload_n hx hb d_M_digit_38 rfl (lv_at hl 1 rfl) ?_
      refine lv_if_eq (tgt := 59) hx hb d_M_digit_39 (by decide) (fun c_39 => ?_) (fun c_39 => absurd (show (0 : Int32) = 0 from by decide) c_39)
      refine lv_iconst (v := (-1)) hx hb d_M_digit_59 (by decide) ?_
      exact hp_reti S hK hW hr hlk d_M_digit_60 (⟨by unfold md_dg; simp [c_3j, c_9j], rfl⟩)
    · have c_9i := c_9
      have c_9j := Int32.not_lt.mp c_9
      refine lv_iload_n hx hb d_M_digit_12 rfl (lv_at hl 0 rfl) ?_
      refine lv_bipush (v := 48) hx hb d_M_digit_13 (by decide) ?_
      refine lv_isub hx hb d_M_digit_15 ?_
      exact hp_reti S hK hW hr hlk d_M_digit_16 (⟨(dg_0 (Int32.not_lt.mp c_3i) (Int32.not_lt.mp c_9i)).symm, rfl⟩)

theorem m_digit (l : Launch) (g : hp_G) (z0 N : Nat) (ad : Nat → Nat) (F : Nat → va_E) (hex : Bool) (x : Int32) : hp_Mi l g z0 N ad y_M_digit ws_M_digit (rk 0) [.int x, .int (b2 hex)] F (fun v F' => v = md_dg hex x ∧ F' = F) := by
  cases hex
  · exact m_digit_0 l g z0 N ad F x
  · exact m_digit_1 l g z0 N ad F x

set_option maxHeartbeats 400000 in
set_option maxRecDepth 100000 in
theorem m_length_0 (l : Launch) (g : hp_G) (z0 N : Nat) (ad : Nat → Nat) (F : Nat → va_E) (hN : 96 ≤ N) (tape : List Int32) (kn : Nat → Bool) (rt : Nat → List Int32) (la mm : List Int32) (ap : Nat → Int32) (tc fp me dp fa ou ki nu be : Int32) (hS : mS g ad F tape kn rt la mm [] ap tc fp me dp fa ou ki nu be) : hp_Mi l g z0 N ad y_M_length ws_M_length (rk 0) [.ref (ad 87)] F (fun v F' => v = nI (mC tape rt ([] : List Nat)).length ∧ F' = F) := by
  obtain ⟨tp, hs, sz, tx, vl, ey, md, hR, ⟨htl, htp⟩, hT, ⟨hll, hvl⟩, hKs, hml0, hmd⟩ := id hS
  refine hp_enter (cc := cc_M_length) (maxL := 1) (ret := (some .int)) (by decide) rfl (Nat.le_of_ble_eq_true rfl) ?_
  intro p e s m below meth c S hr hlk hnm hK hW ls hl
  have hl : lv_has ls 1 [(0, .ref (ad 87))] := hl
  obtain ⟨hx, hb, hml, hown, hts⟩ := id S
  have in_kM : ∀ w ∈ u_ws R_M T_M 21, w ∈ ws_M_length := fun w h => List.mem_cons_of_mem _ (in0_M w h)
  refine lv_aload_n hx hb d_M_length_0 rfl (lv_at hl 0 rfl) ?_
  refine hp_get S hK hW (87) (by omega) rfl hR.1 rfl in_kM 11 (by decide) (hts _ (List.mem_cons_of_mem _ tq_107)) rfl d_M_length_1 ?_
  refine lv_if_ne (tgt := 14) hx hb d_M_length_4 (by decide) (fun c_4 => absurd c_4 (show ¬ (¬ ((nI (([] : List Nat)).length) : Int32) = 0) from fun h => h rfl)) (fun c_4 => ?_)
  refine lv_aload_n hx hb d_M_length_7 rfl (lv_at hl 0 rfl) ?_
  refine hp_get S hK hW (87) (by omega) rfl hR.1 rfl in_kM 2 (by decide) (hts _ (List.mem_cons_of_mem _ tq_98)) rfl d_M_length_8 ?_
  refine lv_goto (tgt := 28) hx hb d_M_length_11 (by decide) ?_
  exact hp_reti S hK hW hr hlk d_M_length_28 (⟨rfl, rfl⟩)

set_option maxHeartbeats 400000 in
set_option maxRecDepth 100000 in
theorem m_length_1 (l : Launch) (g : hp_G) (z0 N : Nat) (ad : Nat → Nat) (F : Nat → va_E) (hN : 96 ≤ N) (tape : List Int32) (kn : Nat → Bool) (rt : Nat → List Int32) (la mm : List Int32) (k : Nat) (st1 : List Nat) (ap : Nat → Int32) (tc fp me dp fa ou ki nu be : Int32) (hS : mS g ad F tape kn rt la mm (k :: st1) ap tc fp me dp fa ou ki nu be) : hp_Mi l g z0 N ad y_M_length ws_M_length (rk 0) [.ref (ad 87)] F (fun v F' => v = nI (mC tape rt (k :: st1)).length ∧ F' = F) := by
  obtain ⟨tp, hs, sz, tx, vl, ey, md, hR, ⟨htl, htp⟩, hT, ⟨hll, hvl⟩, hKs, hml0, hmd⟩ := id hS
  have hk := hKs.2.2 k List.mem_cons_self
  have hk26 := hKs.1
  have hTk := (hT k hk.1).2 hk.2
  have hkl := hTk.2.1
  have hk1 := hk.1
  refine hp_enter (cc := cc_M_length) (maxL := 1) (ret := (some .int)) (by decide) rfl (Nat.le_of_ble_eq_true rfl) ?_
  intro p e s m below meth c S hr hlk hnm hK hW ls hl
  have hl : lv_has ls 1 [(0, .ref (ad 87))] := hl
  obtain ⟨hx, hb, hml, hown, hts⟩ := id S
  have in_kM : ∀ w ∈ u_ws R_M T_M 21, w ∈ ws_M_length := fun w h => List.mem_cons_of_mem _ (in0_M w h)
  refine lv_aload_n hx hb d_M_length_0 rfl (lv_at hl 0 rfl) ?_
  refine hp_get S hK hW (87) (by omega) rfl hR.1 rfl in_kM 11 (by decide) (hts _ (List.mem_cons_of_mem _ tq_107)) rfl d_M_length_1 ?_
  refine lv_if_ne (tgt := 14) hx hb d_M_length_4 (by decide) (fun c_4 => ?_) (fun c_4 => absurd c_4 (show ¬ ((nI (k :: st1).length) : Int32) = 0 from nI_ne0 (by rw [List.length_cons]; omega) (by omega)))
  refine lv_aload_n hx hb d_M_length_14 rfl (lv_at hl 0 rfl) ?_
  refine hp_get S hK hW (87) (by omega) rfl hR.1 rfl in_kM 4 (by decide) (hts _ (List.mem_cons_of_mem _ tq_100)) rfl d_M_length_15 ?_
  refine lv_aload_n hx hb d_M_length_18 rfl (lv_at hl 0 rfl) ?_
  refine hp_get S hK hW (87) (by omega) rfl hR.1 rfl in_kM 12 (by decide) (hts _ (List.mem_cons_of_mem _ tq_108)) rfl d_M_length_19 ?_
  refine lv_aload_n hx hb d_M_length_22 rfl (lv_at hl 0 rfl) ?_
  refine hp_get S hK hW (87) (by omega) rfl hR.1 rfl in_kM 11 (by decide) (hts _ (List.mem_cons_of_mem _ tq_107)) rfl d_M_length_23 ?_
  refine hp_iald S hK hW (93) (by omega) rfl hR.2.2.2.2.2.2.1 (vp_in_nI (by omega) (by omega)) d_M_length_26 ?_
  rw [show (ey ((nI (k :: st1).length) : Int32).toNatClampNeg) = (nI k) from (by rw [nI_clamp (by omega)]; exact hKs.2.1 0 (by rw [List.length_cons]; omega))]
  refine hp_iald S hK hW (90) (by omega) rfl hR.2.2.2.1 (vp_in_nI hk.1 (by omega)) d_M_length_27 ?_
  rw [show (sz ((nI k) : Int32).toNatClampNeg) = (nI (rt k).length) from (by rw [nI_clamp (by omega)]; exact hTk.1)]
  exact hp_reti S hK hW hr hlk d_M_length_28 (⟨rfl, rfl⟩)

theorem m_length (l : Launch) (g : hp_G) (z0 N : Nat) (ad : Nat → Nat) (F : Nat → va_E) (hN : 96 ≤ N) (tape : List Int32) (kn : Nat → Bool) (rt : Nat → List Int32) (la mm : List Int32) (stk : List Nat) (ap : Nat → Int32) (tc fp me dp fa ou ki nu be : Int32) (hS : mS g ad F tape kn rt la mm stk ap tc fp me dp fa ou ki nu be) : hp_Mi l g z0 N ad y_M_length ws_M_length (rk 0) [.ref (ad 87)] F (fun v F' => v = nI (mC tape rt stk).length ∧ F' = F) := by
  cases stk with
  | nil => exact m_length_0 l g z0 N ad F hN tape kn rt la mm ap tc fp me dp fa ou ki nu be hS
  | cons k st1 => exact m_length_1 l g z0 N ad F hN tape kn rt la mm k st1 ap tc fp me dp fa ou ki nu be hS

set_option maxHeartbeats 400000 in
set_option maxRecDepth 100000 in
theorem m_byteOf_0 (l : Launch) (g : hp_G) (z0 N : Nat) (ad : Nat → Nat) (F : Nat → va_E) (hN : 96 ≤ N) (tape : List Int32) (kn : Nat → Bool) (rt : Nat → List Int32) (la mm : List Int32) (ap : Nat → Int32) (tc fp me dp fa ou ki nu be : Int32) (hS : mS g ad F tape kn rt la mm [] ap tc fp me dp fa ou ki nu be) (q : Nat) (hq : q < 1000000) : hp_Mi l g z0 N ad y_M_byteOf ws_M_byteOf (rk 1) [.ref (ad 87), .int (nI q)] F (fun v F' => v = md_at (mC tape rt ([] : List Nat)) q ∧ F' = F) := by
  obtain ⟨tp, hs, sz, tx, vl, ey, md, hR, ⟨htl, htp⟩, hT, ⟨hll, hvl⟩, hKs, hml0, hmd⟩ := id hS
  refine hp_enter (cc := cc_M_byteOf) (maxL := 2) (ret := (some .int)) (by decide) rfl (Nat.le_of_ble_eq_true rfl) ?_
  intro p e s m below meth c S hr hlk hnm hK hW ls hl
  have hl : lv_has ls 2 [(0, .ref (ad 87)), (1, .int (nI q))] := hl
  obtain ⟨hx, hb, hml, hown, hts⟩ := id S
  have in_kM : ∀ w ∈ u_ws R_M T_M 21, w ∈ ws_M_byteOf := fun w h => List.mem_cons_of_mem _ (in0_M w h)
  refine lv_iload_n hx hb d_M_byteOf_0 rfl (lv_at hl 1 rfl) ?_
  refine lv_aload_n hx hb d_M_byteOf_1 rfl (lv_at hl 0 rfl) ?_
  refine hp_goi hW (va_runV S (m_length l g z0 N ad F hN tape kn rt la mm (([] : List Nat)) ap tc fp me dp fa ou ki nu be hS) (cwV 0 hts (tb_V cd_M_length tq_117 tq_119 tq_120 tq_118) rfl rfl rfl hd_M_length (rk_ok (by omega) (by omega))) (hp_preV hK hW (by omega) rfl hR.1 rfl) rfl rfl hl.1 rfl (lv_room (Nat.le_of_ble_eq_true rfl)) d_M_byteOf_2 ⟨Nat.zero_le _, Nat.zero_le _⟩) (fun r_1 F_2 H locs hw hW => ?_)
  obtain ⟨hvq, hFq⟩ := hw
  rw [hFq] at hW
  rw [hvq]
  rw [show mC tape rt ([] : List Nat) = tape from rfl]
  refine lv_icmp_lt (tgt := 10) hx hb d_M_byteOf_5 (by decide) (fun c_5 => ?_) (fun c_5 => ?_)
  · have c_5i := c_5
    replace c_5 : q < tape.length := (nI_ltI (a := q) (b := tape.length) (by omega) (by omega)).mp c_5
    refine lv_aload_n hx hb d_M_byteOf_10 rfl (lv_at hl 0 rfl) ?_
    refine hp_get S hK hW (87) (by omega) rfl hR.1 rfl in_kM 11 (by decide) (hts _ (List.mem_cons_of_mem _ tq_107)) rfl d_M_byteOf_11 ?_
    refine lv_if_ne (tgt := 26) hx hb d_M_byteOf_14 (by decide) (fun c_14 => absurd c_14 (show ¬ (¬ ((nI (([] : List Nat)).length) : Int32) = 0) from fun h => h rfl)) (fun c_14 => ?_)
    refine lv_aload_n hx hb d_M_byteOf_17 rfl (lv_at hl 0 rfl) ?_
    refine hp_get S hK hW (87) (by omega) rfl hR.1 rfl in_kM 1 (by decide) (hts _ (List.mem_cons_of_mem _ tq_97)) rfl d_M_byteOf_18 ?_
    refine lv_iload_n hx hb d_M_byteOf_21 rfl (lv_at hl 1 rfl) ?_
    refine hp_iald S hK hW (88) (by omega) rfl hR.2.1 (vp_in_nI (by omega) (by omega)) d_M_byteOf_22 ?_
    rw [show (tp ((nI q) : Int32).toNatClampNeg) = (md_at tape q) from (by rw [nI_clamp (by omega)]; have := htp q (by omega); rwa [Nat.zero_add] at this)]
    refine lv_goto (tgt := 45) hx hb d_M_byteOf_23 (by decide) ?_
    exact hp_reti S hK hW hr hlk d_M_byteOf_45 (⟨rfl, rfl⟩)
  · have c_5i := c_5
    replace c_5 : ¬ q < tape.length := fun zz9 => c_5 ((nI_ltI (a := q) (b := tape.length) (by omega) (by omega)).mpr zz9)
    refine lv_iconst (v := (-1)) hx hb d_M_byteOf_8 (by decide) ?_
    exact hp_reti S hK hW hr hlk d_M_byteOf_9 (⟨(md_at_ge (by omega)).symm, rfl⟩)

set_option maxHeartbeats 400000 in
set_option maxRecDepth 100000 in
theorem m_byteOf_1 (l : Launch) (g : hp_G) (z0 N : Nat) (ad : Nat → Nat) (F : Nat → va_E) (hN : 96 ≤ N) (tape : List Int32) (kn : Nat → Bool) (rt : Nat → List Int32) (la mm : List Int32) (k : Nat) (st1 : List Nat) (ap : Nat → Int32) (tc fp me dp fa ou ki nu be : Int32) (hS : mS g ad F tape kn rt la mm (k :: st1) ap tc fp me dp fa ou ki nu be) (q : Nat) (hq : q < 1000000) : hp_Mi l g z0 N ad y_M_byteOf ws_M_byteOf (rk 1) [.ref (ad 87), .int (nI q)] F (fun v F' => v = md_at (mC tape rt (k :: st1)) q ∧ F' = F) := by
  obtain ⟨tp, hs, sz, tx, vl, ey, md, hR, ⟨htl, htp⟩, hT, ⟨hll, hvl⟩, hKs, hml0, hmd⟩ := id hS
  have hk := hKs.2.2 k List.mem_cons_self
  have hk26 := hKs.1
  have hTk := (hT k hk.1).2 hk.2
  have hkl := hTk.2.1
  have hk1 := hk.1
  refine hp_enter (cc := cc_M_byteOf) (maxL := 2) (ret := (some .int)) (by decide) rfl (Nat.le_of_ble_eq_true rfl) ?_
  intro p e s m below meth c S hr hlk hnm hK hW ls hl
  have hl : lv_has ls 2 [(0, .ref (ad 87)), (1, .int (nI q))] := hl
  obtain ⟨hx, hb, hml, hown, hts⟩ := id S
  have in_kM : ∀ w ∈ u_ws R_M T_M 21, w ∈ ws_M_byteOf := fun w h => List.mem_cons_of_mem _ (in0_M w h)
  refine lv_iload_n hx hb d_M_byteOf_0 rfl (lv_at hl 1 rfl) ?_
  refine lv_aload_n hx hb d_M_byteOf_1 rfl (lv_at hl 0 rfl) ?_
  refine hp_goi hW (va_runV S (m_length l g z0 N ad F hN tape kn rt la mm (k :: st1) ap tc fp me dp fa ou ki nu be hS) (cwV 0 hts (tb_V cd_M_length tq_117 tq_119 tq_120 tq_118) rfl rfl rfl hd_M_length (rk_ok (by omega) (by omega))) (hp_preV hK hW (by omega) rfl hR.1 rfl) rfl rfl hl.1 rfl (lv_room (Nat.le_of_ble_eq_true rfl)) d_M_byteOf_2 ⟨Nat.zero_le _, Nat.zero_le _⟩) (fun r_1 F_2 H locs hw hW => ?_)
  obtain ⟨hvq, hFq⟩ := hw
  rw [hFq] at hW
  rw [hvq]
  rw [show mC tape rt (k :: st1) = (rt k) from rfl]
  refine lv_icmp_lt (tgt := 10) hx hb d_M_byteOf_5 (by decide) (fun c_5 => ?_) (fun c_5 => ?_)
  · have c_5i := c_5
    replace c_5 : q < (rt k).length := (nI_ltI (a := q) (b := (rt k).length) (by omega) (by omega)).mp c_5
    refine lv_aload_n hx hb d_M_byteOf_10 rfl (lv_at hl 0 rfl) ?_
    refine hp_get S hK hW (87) (by omega) rfl hR.1 rfl in_kM 11 (by decide) (hts _ (List.mem_cons_of_mem _ tq_107)) rfl d_M_byteOf_11 ?_
    refine lv_if_ne (tgt := 26) hx hb d_M_byteOf_14 (by decide) (fun c_14 => ?_) (fun c_14 => absurd c_14 (show ¬ ((nI (k :: st1).length) : Int32) = 0 from nI_ne0 (by rw [List.length_cons]; omega) (by omega)))
    refine lv_aload_n hx hb d_M_byteOf_26 rfl (lv_at hl 0 rfl) ?_
    refine hp_get S hK hW (87) (by omega) rfl hR.1 rfl in_kM 5 (by decide) (hts _ (List.mem_cons_of_mem _ tq_101)) rfl d_M_byteOf_27 ?_
    refine lv_bipush (v := 100) hx hb d_M_byteOf_30 (by decide) ?_
    refine lv_aload_n hx hb d_M_byteOf_32 rfl (lv_at hl 0 rfl) ?_
    refine hp_get S hK hW (87) (by omega) rfl hR.1 rfl in_kM 12 (by decide) (hts _ (List.mem_cons_of_mem _ tq_108)) rfl d_M_byteOf_33 ?_
    refine lv_aload_n hx hb d_M_byteOf_36 rfl (lv_at hl 0 rfl) ?_
    refine hp_get S hK hW (87) (by omega) rfl hR.1 rfl in_kM 11 (by decide) (hts _ (List.mem_cons_of_mem _ tq_107)) rfl d_M_byteOf_37 ?_
    refine hp_iald S hK hW (93) (by omega) rfl hR.2.2.2.2.2.2.1 (vp_in_nI (by omega) (by omega)) d_M_byteOf_40 ?_
    rw [show (ey ((nI (k :: st1).length) : Int32).toNatClampNeg) = (nI k) from (by rw [nI_clamp (by omega)]; exact hKs.2.1 0 (by rw [List.length_cons]; omega))]
    refine lv_imul hx hb d_M_byteOf_41 ?_
    rw [show (100 * (nI k)) = (nI (100 * k)) from pk_mul 100 k]
    refine lv_iload_n hx hb d_M_byteOf_42 rfl (lv_at hl 1 rfl) ?_
    refine lv_iadd hx hb d_M_byteOf_43 ?_
    rw [show ((nI (100 * k)) + (nI q)) = (nI (100 * k + q)) from nI_add _ _]
    refine hp_iald S hK hW (91) (by omega) rfl hR.2.2.2.2.1 (vp_in_nI (by omega) (by omega)) d_M_byteOf_44 ?_
    rw [show (tx ((nI (100 * k + q)) : Int32).toNatClampNeg) = (md_at (rt k) q) from (by rw [nI_clamp (by omega)]; exact hTk.2.2 q (by omega))]
    exact hp_reti S hK hW hr hlk d_M_byteOf_45 (⟨rfl, rfl⟩)
  · have c_5i := c_5
    replace c_5 : ¬ q < (rt k).length := fun zz9 => c_5 ((nI_ltI (a := q) (b := (rt k).length) (by omega) (by omega)).mpr zz9)
    refine lv_iconst (v := (-1)) hx hb d_M_byteOf_8 (by decide) ?_
    exact hp_reti S hK hW hr hlk d_M_byteOf_9 (⟨(md_at_ge (by omega)).symm, rfl⟩)

theorem m_byteOf (l : Launch) (g : hp_G) (z0 N : Nat) (ad : Nat → Nat) (F : Nat → va_E) (hN : 96 ≤ N) (tape : List Int32) (kn : Nat → Bool) (rt : Nat → List Int32) (la mm : List Int32) (stk : List Nat) (ap : Nat → Int32) (tc fp me dp fa ou ki nu be : Int32) (hS : mS g ad F tape kn rt la mm stk ap tc fp me dp fa ou ki nu be) (q : Nat) (hq : q < 1000000) : hp_Mi l g z0 N ad y_M_byteOf ws_M_byteOf (rk 1) [.ref (ad 87), .int (nI q)] F (fun v F' => v = md_at (mC tape rt stk) q ∧ F' = F) := by
  cases stk with
  | nil => exact m_byteOf_0 l g z0 N ad F hN tape kn rt la mm ap tc fp me dp fa ou ki nu be hS q hq
  | cons k st1 => exact m_byteOf_1 l g z0 N ad F hN tape kn rt la mm k st1 ap tc fp me dp fa ou ki nu be hS q hq

/-! the reference: fails -/
set_option maxHeartbeats 400000 in
set_option maxRecDepth 100000 in
theorem m_fails (l : Launch) (g : hp_G) (z0 N : Nat) (ad : Nat → Nat) (F : Nat → va_E) (hN : 96 ≤ N) (tape : List Int32) (kn : Nat → Bool) (rt : Nat → List Int32) (la mm : List Int32) (stk : List Nat) (ap : Nat → Int32) (tc fp me dp fa ou ki nu be : Int32) (hS : mS g ad F tape kn rt la mm stk ap tc fp me dp fa ou ki nu be) (f a : Int32) : hp_Mv l g z0 N ad y_M_fails ws_M_fails (rk 0) [.ref (ad 87), .int f, .int a] F (fun F' => mS g ad F' tape kn rt la mm stk ap tc (if stk.length = 0 then a else ou) me dp f ou ki nu be ∧ mFr F F') := by
  have hsl := (show stk.length ≤ 26 from by obtain ⟨tp, hs, sz, tx, vl, ey, md, hR, hA, hT, hB, hKs, hC⟩ := id hS; exact hKs.1)
  obtain ⟨tp, hs, sz, tx, vl, ey, md, hR, ⟨htl, htp⟩, hT, ⟨hll, hvl⟩, hKs, hml0, hmd⟩ := id hS
  refine hp_enter (cc := cc_M_fails) (maxL := 3) (ret := none) (by decide) rfl (Nat.le_of_ble_eq_true rfl) ?_
  intro p e s m below meth c S hr hlk hnm hK hW ls hl
  have hl : lv_has ls 3 [(0, .ref (ad 87)), (1, .int f), (2, .int a)] := hl
  obtain ⟨hx, hb, hml, hown, hts⟩ := id S
  have in_kM : ∀ w ∈ u_ws R_M T_M 21, w ∈ ws_M_fails := fun w h => List.mem_cons_of_mem _ (in0_M w h)
  refine lv_aload_n hx hb d_M_fails_0 rfl (lv_at hl 0 rfl) ?_
  refine lv_iload_n hx hb d_M_fails_1 rfl (lv_at hl 1 rfl) ?_
  refine hp_put S hK hW (87) (by omega) rfl hR.1 rfl in_kM tyok_M nm_M 14 (by decide) (hts _ (List.mem_cons_of_mem _ tq_110)) rfl rfl rfl (Nat.le_of_ble_eq_true rfl) d_M_fails_2 (fun H locs hW => ?_)
  obtain ⟨F_1, eF_1⟩ : ∃ z, z = va_up F (87) (.inr (kM, [.int tc, .ref (ad 88), .int (nI tape.length), .ref (ad 89), .ref (ad 90), .ref (ad 91), .ref (ad 92), .int (nI la.length), .int fp, .int me, .int dp, .int (nI stk.length), .ref (ad 93), .ref (ad 94), .int f, .int ou, .int ki, .int nu, .int be, .ref (ad 95), .int (nI mm.length)])) := ⟨_, rfl⟩
  replace hW : hp_W g z0 N ad F_1 s.heap H locs := by rw [eF_1]; exact hW
  have f_2 : F_1 (87) = .inr (kM, [.int tc, .ref (ad 88), .int (nI tape.length), .ref (ad 89), .ref (ad 90), .ref (ad 91), .ref (ad 92), .int (nI la.length), .int fp, .int me, .int dp, .int (nI stk.length), .ref (ad 93), .ref (ad 94), .int f, .int ou, .int ki, .int nu, .int be, .ref (ad 95), .int (nI mm.length)]) := by rw [eF_1, va_up_self]
  have f_3 : F_1 (88) = .inl (g.2 0, 200, .inl tp) := by rw [eF_1, va_up_ne _ _ (by omega)]; exact hR.2.1
  have f_4 : F_1 (89) = .inl (g.2 2, 26, .inl hs) := by rw [eF_1, va_up_ne _ _ (by omega)]; exact hR.2.2.1
  have f_5 : F_1 (90) = .inl (g.2 0, 26, .inl sz) := by rw [eF_1, va_up_ne _ _ (by omega)]; exact hR.2.2.2.1
  have f_6 : F_1 (91) = .inl (g.2 0, 2600, .inl tx) := by rw [eF_1, va_up_ne _ _ (by omega)]; exact hR.2.2.2.2.1
  have f_7 : F_1 (92) = .inl (g.2 0, 301, .inl vl) := by rw [eF_1, va_up_ne _ _ (by omega)]; exact hR.2.2.2.2.2.1
  have f_8 : F_1 (93) = .inl (g.2 0, 28, .inl ey) := by rw [eF_1, va_up_ne _ _ (by omega)]; exact hR.2.2.2.2.2.2.1
  have f_9 : F_1 (94) = .inl (g.2 0, 28, .inl ap) := by rw [eF_1, va_up_ne _ _ (by omega)]; exact hR.2.2.2.2.2.2.2.1
  have f_10 : F_1 (95) = .inl (g.2 0, 204, .inl md) := by rw [eF_1, va_up_ne _ _ (by omega)]; exact hR.2.2.2.2.2.2.2.2
  have hf_11 : mFr F F_1 := fun x hx => by rw [eF_1, va_up_ne _ _ (by omega)]
  refine lv_aload_n hx hb d_M_fails_5 rfl (lv_at hl 0 rfl) ?_
  refine lv_aload_n hx hb d_M_fails_6 rfl (lv_at hl 0 rfl) ?_
  refine hp_get S hK hW (87) (by omega) rfl f_2 rfl in_kM 11 (by decide) (hts _ (List.mem_cons_of_mem _ tq_107)) rfl d_M_fails_7 ?_
  refine lv_if_ne (tgt := 17) hx hb d_M_fails_10 (by decide) (fun c_10 => ?_) (fun c_10 => ?_)
  · have c_10i := c_10
    replace c_10 : ¬ stk.length = 0 := fun zz9 => c_10 ((nI_eq (a := stk.length) (b := 0) (by omega) (by omega)).mpr zz9)
    refine lv_aload_n hx hb d_M_fails_17 rfl (lv_at hl 0 rfl) ?_
    refine hp_get S hK hW (87) (by omega) rfl f_2 rfl in_kM 15 (by decide) (hts _ (List.mem_cons_of_mem _ tq_111)) rfl d_M_fails_18 ?_
    refine hp_put S hK hW (87) (by omega) rfl f_2 rfl in_kM tyok_M nm_M 8 (by decide) (hts _ (List.mem_cons_of_mem _ tq_104)) rfl rfl rfl (Nat.le_of_ble_eq_true rfl) d_M_fails_21 (fun H locs hW => ?_)
    obtain ⟨F_12, eF_12⟩ : ∃ z, z = va_up F_1 (87) (.inr (kM, [.int tc, .ref (ad 88), .int (nI tape.length), .ref (ad 89), .ref (ad 90), .ref (ad 91), .ref (ad 92), .int (nI la.length), .int ou, .int me, .int dp, .int (nI stk.length), .ref (ad 93), .ref (ad 94), .int f, .int ou, .int ki, .int nu, .int be, .ref (ad 95), .int (nI mm.length)])) := ⟨_, rfl⟩
    replace hW : hp_W g z0 N ad F_12 s.heap H locs := by rw [eF_12]; exact hW
    have f_13 : F_12 (87) = .inr (kM, [.int tc, .ref (ad 88), .int (nI tape.length), .ref (ad 89), .ref (ad 90), .ref (ad 91), .ref (ad 92), .int (nI la.length), .int ou, .int me, .int dp, .int (nI stk.length), .ref (ad 93), .ref (ad 94), .int f, .int ou, .int ki, .int nu, .int be, .ref (ad 95), .int (nI mm.length)]) := by rw [eF_12, va_up_self]
    have f_14 : F_12 (88) = .inl (g.2 0, 200, .inl tp) := by rw [eF_12, va_up_ne _ _ (by omega)]; exact f_3
    have f_15 : F_12 (89) = .inl (g.2 2, 26, .inl hs) := by rw [eF_12, va_up_ne _ _ (by omega)]; exact f_4
    have f_16 : F_12 (90) = .inl (g.2 0, 26, .inl sz) := by rw [eF_12, va_up_ne _ _ (by omega)]; exact f_5
    have f_17 : F_12 (91) = .inl (g.2 0, 2600, .inl tx) := by rw [eF_12, va_up_ne _ _ (by omega)]; exact f_6
    have f_18 : F_12 (92) = .inl (g.2 0, 301, .inl vl) := by rw [eF_12, va_up_ne _ _ (by omega)]; exact f_7
    have f_19 : F_12 (93) = .inl (g.2 0, 28, .inl ey) := by rw [eF_12, va_up_ne _ _ (by omega)]; exact f_8
    have f_20 : F_12 (94) = .inl (g.2 0, 28, .inl ap) := by rw [eF_12, va_up_ne _ _ (by omega)]; exact f_9
    have f_21 : F_12 (95) = .inl (g.2 0, 204, .inl md) := by rw [eF_12, va_up_ne _ _ (by omega)]; exact f_10
    have hf_22 : mFr F_1 F_12 := fun x hx => by rw [eF_12, va_up_ne _ _ (by omega)]
    exact hp_retv S hK hW hr hlk d_M_fails_24 (by rw [if_neg c_10]; exact ⟨⟨tp, hs, sz, tx, vl, ey, md, ⟨f_13, f_14, f_15, f_16, f_17, f_18, f_19, f_20, f_21⟩, ⟨htl, htp⟩, hT, ⟨hll, hvl⟩, hKs, hml0, hmd⟩, (hf_11.tr hf_22)⟩)
  · have c_10i := c_10
    replace c_10 : stk.length = 0 := (nI_eq (a := stk.length) (b := 0) (by omega) (by omega)).mp c_10
    refine lv_iload_n hx hb d_M_fails_13 rfl (lv_at hl 2 rfl) ?_
    refine lv_goto (tgt := 21) hx hb d_M_fails_14 (by decide) ?_
    refine hp_put S hK hW (87) (by omega) rfl f_2 rfl in_kM tyok_M nm_M 8 (by decide) (hts _ (List.mem_cons_of_mem _ tq_104)) rfl rfl rfl (Nat.le_of_ble_eq_true rfl) d_M_fails_21 (fun H locs hW => ?_)
    obtain ⟨F_23, eF_23⟩ : ∃ z, z = va_up F_1 (87) (.inr (kM, [.int tc, .ref (ad 88), .int (nI tape.length), .ref (ad 89), .ref (ad 90), .ref (ad 91), .ref (ad 92), .int (nI la.length), .int a, .int me, .int dp, .int (nI stk.length), .ref (ad 93), .ref (ad 94), .int f, .int ou, .int ki, .int nu, .int be, .ref (ad 95), .int (nI mm.length)])) := ⟨_, rfl⟩
    replace hW : hp_W g z0 N ad F_23 s.heap H locs := by rw [eF_23]; exact hW
    have f_24 : F_23 (87) = .inr (kM, [.int tc, .ref (ad 88), .int (nI tape.length), .ref (ad 89), .ref (ad 90), .ref (ad 91), .ref (ad 92), .int (nI la.length), .int a, .int me, .int dp, .int (nI stk.length), .ref (ad 93), .ref (ad 94), .int f, .int ou, .int ki, .int nu, .int be, .ref (ad 95), .int (nI mm.length)]) := by rw [eF_23, va_up_self]
    have f_25 : F_23 (88) = .inl (g.2 0, 200, .inl tp) := by rw [eF_23, va_up_ne _ _ (by omega)]; exact f_3
    have f_26 : F_23 (89) = .inl (g.2 2, 26, .inl hs) := by rw [eF_23, va_up_ne _ _ (by omega)]; exact f_4
    have f_27 : F_23 (90) = .inl (g.2 0, 26, .inl sz) := by rw [eF_23, va_up_ne _ _ (by omega)]; exact f_5
    have f_28 : F_23 (91) = .inl (g.2 0, 2600, .inl tx) := by rw [eF_23, va_up_ne _ _ (by omega)]; exact f_6
    have f_29 : F_23 (92) = .inl (g.2 0, 301, .inl vl) := by rw [eF_23, va_up_ne _ _ (by omega)]; exact f_7
    have f_30 : F_23 (93) = .inl (g.2 0, 28, .inl ey) := by rw [eF_23, va_up_ne _ _ (by omega)]; exact f_8
    have f_31 : F_23 (94) = .inl (g.2 0, 28, .inl ap) := by rw [eF_23, va_up_ne _ _ (by omega)]; exact f_9
    have f_32 : F_23 (95) = .inl (g.2 0, 204, .inl md) := by rw [eF_23, va_up_ne _ _ (by omega)]; exact f_10
    have hf_33 : mFr F_1 F_23 := fun x hx => by rw [eF_23, va_up_ne _ _ (by omega)]
    exact hp_retv S hK hW hr hlk d_M_fails_24 (by rw [if_pos c_10]; exact ⟨⟨tp, hs, sz, tx, vl, ey, md, ⟨f_24, f_25, f_26, f_27, f_28, f_29, f_30, f_31, f_32⟩, ⟨htl, htp⟩, hT, ⟨hll, hvl⟩, hKs, hml0, hmd⟩, (hf_11.tr hf_33)⟩)

/-! the reference: stops -/
set_option maxHeartbeats 400000 in
set_option maxRecDepth 100000 in
theorem m_stops (l : Launch) (g : hp_G) (z0 N : Nat) (ad : Nat → Nat) (F : Nat → va_E) (hN : 96 ≤ N) (tape : List Int32) (kn : Nat → Bool) (rt : Nat → List Int32) (la mm : List Int32) (stk : List Nat) (ap : Nat → Int32) (tc fp me dp fa ou ki nu be : Int32) (hS : mS g ad F tape kn rt la mm stk ap tc fp me dp fa ou ki nu be) (q : Nat) (hq : q < 1000000) (hxl : (mC tape rt stk).length < 1000000) : hp_Mv l g z0 N ad y_M_stops ws_M_stops (rk 1) [.ref (ad 87), .int (nI q)] F (fun F' => mS g ad F' tape kn rt la mm stk ap tc (if stk.length = 0 then (nI q) else ou) me dp (nI (if stk.length = 0 ∨ q < (mC tape rt stk).length then 1 else 7)) ou ki nu be ∧ mFr F F') := by
  have hsl := (show stk.length ≤ 26 from by obtain ⟨tp, hs, sz, tx, vl, ey, md, hR, hA, hT, hB, hKs, hC⟩ := id hS; exact hKs.1)
  obtain ⟨tp, hs, sz, tx, vl, ey, md, hR, ⟨htl, htp⟩, hT, ⟨hll, hvl⟩, hKs, hml0, hmd⟩ := id hS
  refine hp_enter (cc := cc_M_stops) (maxL := 2) (ret := none) (by decide) rfl (Nat.le_of_ble_eq_true rfl) ?_
  intro p e s m below meth c S hr hlk hnm hK hW ls hl
  have hl : lv_has ls 2 [(0, .ref (ad 87)), (1, .int (nI q))] := hl
  obtain ⟨hx, hb, hml, hown, hts⟩ := id S
  have in_kM : ∀ w ∈ u_ws R_M T_M 21, w ∈ ws_M_stops := fun w h => List.mem_cons_of_mem _ (in0_M w h)
  refine lv_aload_n hx hb d_M_stops_0 rfl (lv_at hl 0 rfl) ?_
  refine lv_aload_n hx hb d_M_stops_1 rfl (lv_at hl 0 rfl) ?_
  refine hp_get S hK hW (87) (by omega) rfl hR.1 rfl in_kM 11 (by decide) (hts _ (List.mem_cons_of_mem _ tq_107)) rfl d_M_stops_2 ?_
  refine lv_if_le (tgt := 21) hx hb d_M_stops_5 (by decide) (fun c_5 => ?_) (fun c_5 => ?_)
  · have c_5i := c_5
    replace c_5 : stk.length ≤ 0 := (nI_leI (a := stk.length) (b := 0) (by omega) (by omega)).mp c_5
    refine lv_iconst (v := 1) hx hb d_M_stops_21 (by decide) ?_
    refine lv_iload_n hx hb d_M_stops_22 rfl (lv_at hl 1 rfl) ?_
    refine hp_gov hW (va_runV S (m_fails l g z0 N ad F hN tape kn rt la mm stk ap tc fp me dp fa ou ki nu be hS 1 (nI q)) (cwV 2 hts (tb_V cd_M_fails tq_121 tq_122 tq_123 tq_118) rfl rfl rfl hd_M_fails (rk_ok (by omega) (by omega))) (hp_preV hK hW (by omega) rfl hR.1 rfl) rfl rfl hl.1 rfl (lv_room (Nat.le_of_ble_eq_true rfl)) d_M_stops_23 ⟨Nat.zero_le _, Nat.zero_le _⟩) (fun F_2 H locs hw hW => ?_)
    obtain ⟨hS1, hg1⟩ := hw
    obtain ⟨tp, hs, sz, tx, vl, ey, md, hR, ⟨htl, htp⟩, hT, ⟨hll, hvl⟩, hKs, hml0, hmd⟩ := id hS1
    exact hp_retv S hK hW hr hlk d_M_stops_26 (by rw [show (if stk.length = 0 ∨ q < (mC tape rt stk).length then (1 : Nat) else 7) = 1 from if_pos (by omega)]; exact ⟨hS1, hg1⟩)
  · have c_5i := c_5
    replace c_5 : ¬ stk.length ≤ 0 := fun zz9 => c_5 ((nI_leI (a := stk.length) (b := 0) (by omega) (by omega)).mpr zz9)
    refine lv_iload_n hx hb d_M_stops_8 rfl (lv_at hl 1 rfl) ?_
    refine lv_aload_n hx hb d_M_stops_9 rfl (lv_at hl 0 rfl) ?_
    refine hp_goi hW (va_runV S (m_length l g z0 N ad F hN tape kn rt la mm stk ap tc fp me dp fa ou ki nu be hS) (cwV 0 hts (tb_V cd_M_length tq_117 tq_119 tq_120 tq_118) rfl rfl rfl hd_M_length (rk_ok (by omega) (by omega))) (hp_preV hK hW (by omega) rfl hR.1 rfl) rfl rfl hl.1 rfl (lv_room (Nat.le_of_ble_eq_true rfl)) d_M_stops_10 ⟨Nat.zero_le _, Nat.zero_le _⟩) (fun r_3 F_4 H locs hw hW => ?_)
    obtain ⟨hvq, hFq⟩ := hw
    rw [hFq] at hW
    rw [hvq]
    refine lv_icmp_lt (tgt := 21) hx hb d_M_stops_13 (by decide) (fun c_13 => ?_) (fun c_13 => ?_)
    · have c_13i := c_13
      replace c_13 : q < (mC tape rt stk).length := (nI_ltI (a := q) (b := (mC tape rt stk).length) (by omega) (by omega)).mp c_13
      refine lv_iconst (v := 1) hx hb d_M_stops_21 (by decide) ?_
      refine lv_iload_n hx hb d_M_stops_22 rfl (lv_at hl 1 rfl) ?_
      refine hp_gov hW (va_runV S (m_fails l g z0 N ad F hN tape kn rt la mm stk ap tc fp me dp fa ou ki nu be hS 1 (nI q)) (cwV 2 hts (tb_V cd_M_fails tq_121 tq_122 tq_123 tq_118) rfl rfl rfl hd_M_fails (rk_ok (by omega) (by omega))) (hp_preV hK hW (by omega) rfl hR.1 rfl) rfl rfl hl.1 rfl (lv_room (Nat.le_of_ble_eq_true rfl)) d_M_stops_23 ⟨Nat.zero_le _, Nat.zero_le _⟩) (fun F_6 H locs hw hW => ?_)
      obtain ⟨hS1, hg1⟩ := hw
      obtain ⟨tp, hs, sz, tx, vl, ey, md, hR, ⟨htl, htp⟩, hT, ⟨hll, hvl⟩, hKs, hml0, hmd⟩ := id hS1
      exact hp_retv S hK hW hr hlk d_M_stops_26 (by rw [show (if stk.length = 0 ∨ q < (mC tape rt stk).length then (1 : Nat) else 7) = 1 from if_pos (by omega)]; exact ⟨hS1, hg1⟩)
    · have c_13i := c_13
      replace c_13 : ¬ q < (mC tape rt stk).length := fun zz9 => c_13 ((nI_ltI (a := q) (b := (mC tape rt stk).length) (by omega) (by omega)).mpr zz9)
      refine lv_bipush (v := 7) hx hb d_M_stops_16 (by decide) ?_
      refine lv_goto (tgt := 22) hx hb d_M_stops_18 (by decide) ?_
      refine lv_iload_n hx hb d_M_stops_22 rfl (lv_at hl 1 rfl) ?_
      refine hp_gov hW (va_runV S (m_fails l g z0 N ad F hN tape kn rt la mm stk ap tc fp me dp fa ou ki nu be hS 7 (nI q)) (cwV 2 hts (tb_V cd_M_fails tq_121 tq_122 tq_123 tq_118) rfl rfl rfl hd_M_fails (rk_ok (by omega) (by omega))) (hp_preV hK hW (by omega) rfl hR.1 rfl) rfl rfl hl.1 rfl (lv_room (Nat.le_of_ble_eq_true rfl)) d_M_stops_23 ⟨Nat.zero_le _, Nat.zero_le _⟩) (fun F_8 H locs hw hW => ?_)
      obtain ⟨hS1, hg1⟩ := hw
      obtain ⟨tp, hs, sz, tx, vl, ey, md, hR, ⟨htl, htp⟩, hT, ⟨hll, hvl⟩, hKs, hml0, hmd⟩ := id hS1
      exact hp_retv S hK hW hr hlk d_M_stops_26 (by rw [show (if stk.length = 0 ∨ q < (mC tape rt stk).length then (1 : Nat) else 7) = 7 from if_neg (by omega)]; exact ⟨hS1, hg1⟩)
end
section
/-! the reference: add -/
set_option maxHeartbeats 400000 in
set_option maxRecDepth 100000 in
theorem m_add (l : Launch) (g : hp_G) (z0 N : Nat) (ad : Nat → Nat) (F : Nat → va_E) (hN : 96 ≤ N) (tape : List Int32) (kn : Nat → Bool) (rt : Nat → List Int32) (la mm : List Int32) (stk : List Nat) (ap : Nat → Int32) (tc fp me dp fa ou ki nu be : Int32) (hS : mS g ad F tape kn rt la mm stk ap tc fp me dp fa ou ki nu be) (x a : Int32) : hp_Mv l g z0 N ad y_M_add ws_M_add (rk 1) [.ref (ad 87), .int x, .int a] F (fun F' => mS g ad F' tape kn rt (md_ad 300 la x).1 mm stk ap tc (pf (md_ad 300 la x).2 fp (if stk.length = 0 then a else ou)) me dp (pf (md_ad 300 la x).2 fa 8) ou ki nu be ∧ mFr F F') := by
  have hsl := (show stk.length ≤ 26 from by obtain ⟨tp, hs, sz, tx, vl, ey, md, hR, hA, hT, hB, hKs, hC⟩ := id hS; exact hKs.1)
  obtain ⟨tp, hs, sz, tx, vl, ey, md, hR, ⟨htl, htp⟩, hT, ⟨hll, hvl⟩, hKs, hml0, hmd⟩ := id hS
  refine hp_enter (cc := cc_M_add) (maxL := 3) (ret := none) (by decide) rfl (Nat.le_of_ble_eq_true rfl) ?_
  intro p e s m below meth c S hr hlk hnm hK hW ls hl
  have hl : lv_has ls 3 [(0, .ref (ad 87)), (1, .int x), (2, .int a)] := hl
  obtain ⟨hx, hb, hml, hown, hts⟩ := id S
  have in_kM : ∀ w ∈ u_ws R_M T_M 21, w ∈ ws_M_add := fun w h => List.mem_cons_of_mem _ (in0_M w h)
  refine lv_aload_n hx hb d_M_add_0 rfl (lv_at hl 0 rfl) ?_
  refine hp_get S hK hW (87) (by omega) rfl hR.1 rfl in_kM 7 (by decide) (hts _ (List.mem_cons_of_mem _ tq_103)) rfl d_M_add_1 ?_
  refine lv_sipush (v := 300) hx hb d_M_add_4 (by decide) ?_
  refine lv_icmp_ne (tgt := 18) hx hb d_M_add_7 (by decide) (fun c_7 => ?_) (fun c_7 => ?_)
  · have c_7i := c_7
    replace c_7 : ¬ la.length = 300 := fun zz9 => c_7 ((nI_eq (a := la.length) (b := 300) (by omega) (by omega)).mpr zz9)
    refine lv_aload_n hx hb d_M_add_18 rfl (lv_at hl 0 rfl) ?_
    refine hp_get S hK hW (87) (by omega) rfl hR.1 rfl in_kM 6 (by decide) (hts _ (List.mem_cons_of_mem _ tq_102)) rfl d_M_add_19 ?_
    refine lv_aload_n hx hb d_M_add_22 rfl (lv_at hl 0 rfl) ?_
    refine hp_get S hK hW (87) (by omega) rfl hR.1 rfl in_kM 7 (by decide) (hts _ (List.mem_cons_of_mem _ tq_103)) rfl d_M_add_23 ?_
    refine lv_iload_n hx hb d_M_add_26 rfl (lv_at hl 1 rfl) ?_
    refine hp_iast S hK hW (92) (by omega) rfl hR.2.2.2.2.2.1 (x := x) (vp_in_nI (by omega) (by omega)) d_M_add_27 (fun H locs hW => ?_)
    obtain ⟨F_1, eF_1⟩ : ∃ z, z = va_up F (92) (.inl (g.2 0, 301, .inl (upd vl la.length x))) := ⟨_, rfl⟩
    rw [show (((nI la.length) : Int32).toNatClampNeg) = la.length from nI_clamp (by omega)] at hW
    replace hW : hp_W g z0 N ad F_1 s.heap H locs := by rw [eF_1]; exact hW
    have f_2 : F_1 (87) = .inr (kM, [.int tc, .ref (ad 88), .int (nI tape.length), .ref (ad 89), .ref (ad 90), .ref (ad 91), .ref (ad 92), .int (nI la.length), .int fp, .int me, .int dp, .int (nI stk.length), .ref (ad 93), .ref (ad 94), .int fa, .int ou, .int ki, .int nu, .int be, .ref (ad 95), .int (nI mm.length)]) := by rw [eF_1, va_up_ne _ _ (by omega)]; exact hR.1
    have f_3 : F_1 (88) = .inl (g.2 0, 200, .inl tp) := by rw [eF_1, va_up_ne _ _ (by omega)]; exact hR.2.1
    have f_4 : F_1 (89) = .inl (g.2 2, 26, .inl hs) := by rw [eF_1, va_up_ne _ _ (by omega)]; exact hR.2.2.1
    have f_5 : F_1 (90) = .inl (g.2 0, 26, .inl sz) := by rw [eF_1, va_up_ne _ _ (by omega)]; exact hR.2.2.2.1
    have f_6 : F_1 (91) = .inl (g.2 0, 2600, .inl tx) := by rw [eF_1, va_up_ne _ _ (by omega)]; exact hR.2.2.2.2.1
    have f_7 : F_1 (92) = .inl (g.2 0, 301, .inl (upd vl la.length x)) := by rw [eF_1, va_up_self]
    have f_8 : F_1 (93) = .inl (g.2 0, 28, .inl ey) := by rw [eF_1, va_up_ne _ _ (by omega)]; exact hR.2.2.2.2.2.2.1
    have f_9 : F_1 (94) = .inl (g.2 0, 28, .inl ap) := by rw [eF_1, va_up_ne _ _ (by omega)]; exact hR.2.2.2.2.2.2.2.1
    have f_10 : F_1 (95) = .inl (g.2 0, 204, .inl md) := by rw [eF_1, va_up_ne _ _ (by omega)]; exact hR.2.2.2.2.2.2.2.2
    have hf_11 : mFr F F_1 := fun x hx => by rw [eF_1, va_up_ne _ _ (by omega)]
    refine lv_aload_n hx hb d_M_add_28 rfl (lv_at hl 0 rfl) ?_
    refine lv_dup hx hb d_M_add_29 rfl ?_
    refine hp_get S hK hW (87) (by omega) rfl f_2 rfl in_kM 7 (by decide) (hts _ (List.mem_cons_of_mem _ tq_103)) rfl d_M_add_30 ?_
    refine lv_iconst (v := 1) hx hb d_M_add_33 (by decide) ?_
    refine lv_iadd hx hb d_M_add_34 ?_
    refine hp_put S hK hW (87) (by omega) rfl f_2 rfl in_kM tyok_M nm_M 7 (by decide) (hts _ (List.mem_cons_of_mem _ tq_103)) rfl rfl rfl (Nat.le_of_ble_eq_true rfl) d_M_add_35 (fun H locs hW => ?_)
    obtain ⟨F_12, eF_12⟩ : ∃ z, z = va_up F_1 (87) (.inr (kM, [.int tc, .ref (ad 88), .int (nI tape.length), .ref (ad 89), .ref (ad 90), .ref (ad 91), .ref (ad 92), .int ((nI la.length) + 1), .int fp, .int me, .int dp, .int (nI stk.length), .ref (ad 93), .ref (ad 94), .int fa, .int ou, .int ki, .int nu, .int be, .ref (ad 95), .int (nI mm.length)])) := ⟨_, rfl⟩
    replace hW : hp_W g z0 N ad F_12 s.heap H locs := by rw [eF_12]; exact hW
    have f_13 : F_12 (87) = .inr (kM, [.int tc, .ref (ad 88), .int (nI tape.length), .ref (ad 89), .ref (ad 90), .ref (ad 91), .ref (ad 92), .int ((nI la.length) + 1), .int fp, .int me, .int dp, .int (nI stk.length), .ref (ad 93), .ref (ad 94), .int fa, .int ou, .int ki, .int nu, .int be, .ref (ad 95), .int (nI mm.length)]) := by rw [eF_12, va_up_self]
    have f_14 : F_12 (88) = .inl (g.2 0, 200, .inl tp) := by rw [eF_12, va_up_ne _ _ (by omega)]; exact f_3
    have f_15 : F_12 (89) = .inl (g.2 2, 26, .inl hs) := by rw [eF_12, va_up_ne _ _ (by omega)]; exact f_4
    have f_16 : F_12 (90) = .inl (g.2 0, 26, .inl sz) := by rw [eF_12, va_up_ne _ _ (by omega)]; exact f_5
    have f_17 : F_12 (91) = .inl (g.2 0, 2600, .inl tx) := by rw [eF_12, va_up_ne _ _ (by omega)]; exact f_6
    have f_18 : F_12 (92) = .inl (g.2 0, 301, .inl (upd vl la.length x)) := by rw [eF_12, va_up_ne _ _ (by omega)]; exact f_7
    have f_19 : F_12 (93) = .inl (g.2 0, 28, .inl ey) := by rw [eF_12, va_up_ne _ _ (by omega)]; exact f_8
    have f_20 : F_12 (94) = .inl (g.2 0, 28, .inl ap) := by rw [eF_12, va_up_ne _ _ (by omega)]; exact f_9
    have f_21 : F_12 (95) = .inl (g.2 0, 204, .inl md) := by rw [eF_12, va_up_ne _ _ (by omega)]; exact f_10
    have hf_22 : mFr F_1 F_12 := fun x hx => by rw [eF_12, va_up_ne _ _ (by omega)]
    have hX : (md_ad 300 la x) = (la ++ [x], 0) := if_pos (by omega)
    have e87 := f_13
    exact hp_retv S hK hW hr hlk d_M_add_38 (by rw [hX]; exact ⟨⟨tp, hs, sz, tx, ((upd vl la.length x)), ey, md, ⟨(by rw [e87, List.length_append, List.length_singleton, nI_succ] <;> rfl), f_14, f_15, f_16, f_17, f_18, f_19, f_20, f_21⟩, ⟨htl, htp⟩, hT, ⟨by rw [List.length_append, List.length_singleton]; omega, mL_push hvl⟩, hKs, hml0, hmd⟩, (hf_11.tr hf_22)⟩)
  · have c_7i := c_7
    replace c_7 : la.length = 300 := (nI_eq (a := la.length) (b := 300) (by omega) (by omega)).mp c_7
    refine lv_aload_n hx hb d_M_add_10 rfl (lv_at hl 0 rfl) ?_
    refine lv_bipush (v := 8) hx hb d_M_add_11 (by decide) ?_
    refine lv_iload_n hx hb d_M_add_13 rfl (lv_at hl 2 rfl) ?_
    refine hp_gov hW (va_runV S (m_fails l g z0 N ad F hN tape kn rt la mm stk ap tc fp me dp fa ou ki nu be hS 8 a) (cwV 2 hts (tb_V cd_M_fails tq_121 tq_122 tq_123 tq_118) rfl rfl rfl hd_M_fails (rk_ok (by omega) (by omega))) (hp_preV hK hW (by omega) rfl hR.1 rfl) rfl rfl hl.1 rfl (lv_room (Nat.le_of_ble_eq_true rfl)) d_M_add_14 ⟨Nat.zero_le _, Nat.zero_le _⟩) (fun F_24 H locs hw hW => ?_)
    obtain ⟨hS1, hg1⟩ := hw
    obtain ⟨tp, hs, sz, tx, vl, ey, md, hR, ⟨htl, htp⟩, hT, ⟨hll, hvl⟩, hKs, hml0, hmd⟩ := id hS1
    have hX : (md_ad 300 la x) = (la, 8) := if_neg (by omega)
    exact hp_retv S hK hW hr hlk d_M_add_17 (by rw [hX]; exact ⟨hS1, hg1⟩)

theorem gd0 {l : List Nat} {i : Nat} (h : i < l.length) : l.getD i 0 = l[i] := by simp [h]
theorem if8 {α : Type} {f : Int32} {x y : α} {mm : List Int32} (h : f = 0) : (if ¬ ((mm, 8) : List Int32 × Nat).2 = 0 ∧ f = 0 then x else y) = x := if_pos ⟨(fun z => by cases z), h⟩
theorem if8n {α : Type} {f : Int32} {x y : α} {mm : List Int32} (h : ¬ f = 0) : (if ¬ ((mm, 8) : List Int32 × Nat).2 = 0 ∧ f = 0 then x else y) = y := if_neg (fun z => h z.2)
theorem if80 {α : Type} {f : Int32} {x y : α} {mm : List Int32} : (if ¬ ((mm, 0) : List Int32 × Nat).2 = 0 ∧ f = 0 then x else y) = y := if_neg (fun z => z.1 rfl)
theorem open_yes {kn : Nat → Bool} {ey : Nat → Int32} {stk : List Nat} {k d : Nat} (h : mK kn ey stk) (hk : k < 26) (h1 : 1 ≤ d) (h2 : d ≤ stk.length) (e : ey d = nI k) : k ∈ stk := by
  have h3 := h.2.1 (stk.length - d) (by omega)
  rw [show stk.length - (stk.length - d) = d by omega, e] at h3
  have hm : stk.getD (stk.length - d) 0 ∈ stk := by
    rw [gd0 (by omega)]
    exact List.getElem_mem _
  have h4 := (h.2.2 _ hm).1
  rw [nI_eq (by omega) (by omega)] at h3
  rw [h3]
  exact hm
theorem open_no {kn : Nat → Bool} {ey : Nat → Int32} {stk : List Nat} {k : Nat} (h : mK kn ey stk) (hn : ∀ d, 1 ≤ d → d < stk.length + 1 → ¬ ey d = nI k) : k ∉ stk := by
  intro hm
  obtain ⟨i, hi, e⟩ := List.getElem_of_mem hm
  have h3 := h.2.1 i hi
  rw [gd0 hi, e] at h3
  exact hn (stk.length - i) (by omega) (by omega) h3

/-! the reference: isOpen, its loop -/
set_option maxHeartbeats 400000 in
set_option maxRecDepth 100000 in
theorem lp_m_isOpen {p : Program} {e : Env} {s : State} {m : MethodId} {args : Array Value} {below : List Frame} {meth : Method} {c : Code} (l : Launch) (g : hp_G) (z0 N : Nat) (ad : Nat → Nat)  (F : Nat → va_E) (hN : 96 ≤ N) (tape : List Int32) (kn : Nat → Bool) (rt : Nat → List Int32) (la mm : List Int32) (stk : List Nat) (ap : Nat → Int32) (tc fp me dp fa ou ki nu be : Int32) (hS : mS g ad F tape kn rt la mm stk ap tc fp me dp fa ou ki nu be) (tp hs sz tx vl ey md : Nat → Int32) (hR : mSt g ad F tc (nI tape.length) (nI la.length) fp me dp (nI stk.length) fa ou ki nu be (nI mm.length) tp hs sz tx vl ey ap md) (hKs : mK kn ey stk) (k : Nat) (hk : k < 26) (S : CallFix p m c cc_M_isOpen 3 s args ws_M_isOpen R_M) (hr : meth.sig.returnType = (some .boolean)) (hlk : meth.locks = false) (hK : hp_K g s) : ∀ (j : Nat) (d : Nat), d ≤ stk.length + 1 → stk.length + 2 ≤ d + j → 1 ≤ d → (∀ z, 1 ≤ z → z < d → ¬ ey z = nI k) → ∀ (H : Heap) (locs : List Loc) (ls : Array Slot), hp_W g z0 N ad F s.heap H locs → lv_has ls 3 [(0, .ref (ad 87)), (1, .int (nI k)), (2, .int (nI d))] → W p l e (rk 0) s m args below meth c H locs 0 0 (MQ below (va_Qi (fun v F' => v = b2 (decide (k ∈ stk)) ∧ F' = F) (hp_B g z0 N ad) (hp_A z0)) args s 0 0 (hp_A z0)) (F0 m 2 ls []) := by
  obtain ⟨hx, hb, hml, hown, hts⟩ := id S
  have in_kM : ∀ w ∈ u_ws R_M T_M 21, w ∈ ws_M_isOpen := fun w h => List.mem_cons_of_mem _ (in0_M w h)
  intro j
  induction j with
  | zero =>
    intro d hd1 hj hd0 hno H locs ls hW hl
    exact absurd hj (by omega)
  | succ j ih =>
    intro d hd1 hj hd0 hno H locs ls hW hl
    have hsl := hKs.1
    refine lv_iload_n hx hb d_M_isOpen_2 rfl (lv_at hl 2 rfl) ?_
    refine lv_aload_n hx hb d_M_isOpen_3 rfl (lv_at hl 0 rfl) ?_
    refine hp_get S hK hW (87) (by omega) rfl hR.1 rfl in_kM 11 (by decide) (hts _ (List.mem_cons_of_mem _ tq_107)) rfl d_M_isOpen_4 ?_
    refine lv_icmp_gt (tgt := 28) hx hb d_M_isOpen_7 (by decide) (fun c_7 => ?_) (fun c_7 => ?_)
    · have c_7i := c_7
      replace c_7 : stk.length < d := (nI_ltI (a := stk.length) (b := d) (by omega) (by omega)).mp c_7
      refine lv_iconst (v := 0) hx hb d_M_isOpen_28 (by decide) ?_
      exact hp_retz S hK hW hr hlk rfl d_M_isOpen_29 (⟨by rw [decide_eq_false (open_no hKs (fun z h1 h2 => hno z h1 (by omega)))]; rfl, rfl⟩)
    · have c_7i := c_7
      replace c_7 : ¬ stk.length < d := fun zz9 => c_7 ((nI_ltI (a := stk.length) (b := d) (by omega) (by omega)).mpr zz9)
      refine lv_aload_n hx hb d_M_isOpen_10 rfl (lv_at hl 0 rfl) ?_
      refine hp_get S hK hW (87) (by omega) rfl hR.1 rfl in_kM 12 (by decide) (hts _ (List.mem_cons_of_mem _ tq_108)) rfl d_M_isOpen_11 ?_
      refine lv_iload_n hx hb d_M_isOpen_14 rfl (lv_at hl 2 rfl) ?_
      refine hp_iald S hK hW (93) (by omega) rfl hR.2.2.2.2.2.2.1 (vp_in_nI (by omega) (by omega)) d_M_isOpen_15 ?_
      rw [show (ey ((nI d) : Int32).toNatClampNeg) = (ey d) from (by rw [nI_clamp (by omega)])]
      refine lv_iload_n hx hb d_M_isOpen_16 rfl (lv_at hl 1 rfl) ?_
      refine lv_icmp_ne (tgt := 22) hx hb d_M_isOpen_17 (by decide) (fun c_17 => ?_) (fun c_17 => ?_)
      · have c_17i := c_17
        refine lv_iinc (v := (nI (d + 1))) (lv' := [(2, .int (nI (d + 1))), (0, .ref (ad 87)), (1, .int (nI k))]) hx hb d_M_isOpen_22 hl (k := 2) rfl ((nI_succ (d)).symm) (by decide) rfl (fun ls hl => ?_)
        refine lv_goto (tgt := 2) hx hb d_M_isOpen_25 (by decide) ?_
        exact ih (d + 1) (by omega) (by omega) (by omega) (fun z h1 h2 => by rcases Nat.lt_or_ge z d with q | q; exact hno z h1 q; rw [show z = d by omega]; exact c_17i) H locs ls hW (lv_sub hl [1, 2, 0] rfl)
      · have c_17i := c_17
        refine lv_iconst (v := 1) hx hb d_M_isOpen_20 (by decide) ?_
        exact hp_retz S hK hW hr hlk rfl d_M_isOpen_21 (⟨by rw [decide_eq_true (open_yes hKs hk hd0 (by omega) c_17i)]; rfl, rfl⟩)

/-! the reference: isOpen -/
set_option maxHeartbeats 400000 in
set_option maxRecDepth 100000 in
theorem m_isOpen (l : Launch) (g : hp_G) (z0 N : Nat) (ad : Nat → Nat) (F : Nat → va_E) (hN : 96 ≤ N) (tape : List Int32) (kn : Nat → Bool) (rt : Nat → List Int32) (la mm : List Int32) (stk : List Nat) (ap : Nat → Int32) (tc fp me dp fa ou ki nu be : Int32) (hS : mS g ad F tape kn rt la mm stk ap tc fp me dp fa ou ki nu be) (k : Nat) (hk : k < 26) : hp_Mi l g z0 N ad y_M_isOpen ws_M_isOpen (rk 0) [.ref (ad 87), .int (nI k)] F (fun v F' => v = b2 (decide (k ∈ stk)) ∧ F' = F) := by
  obtain ⟨tp, hs, sz, tx, vl, ey, md, hR, ⟨htl, htp⟩, hT, ⟨hll, hvl⟩, hKs, hml0, hmd⟩ := id hS
  refine hp_enter (cc := cc_M_isOpen) (maxL := 3) (ret := (some .boolean)) (by decide) rfl (Nat.le_of_ble_eq_true rfl) ?_
  intro p e s m below meth c S hr hlk hnm hK hW ls hl
  have hl : lv_has ls 3 [(0, .ref (ad 87)), (1, .int (nI k))] := hl
  obtain ⟨hx, hb, hml, hown, hts⟩ := id S
  have in_kM : ∀ w ∈ u_ws R_M T_M 21, w ∈ ws_M_isOpen := fun w h => List.mem_cons_of_mem _ (in0_M w h)
  refine lv_iconst (v := 1) hx hb d_M_isOpen_0 (by decide) ?_
  refine lv_istore_n (lv' := [(2, .int 1), (0, .ref (ad 87)), (1, .int (nI k))]) hx hb d_M_isOpen_1 rfl hl (by decide) rfl (fun ls hl => ?_)
  exact lp_m_isOpen l g z0 N ad F hN tape kn rt la mm stk ap tc fp me dp fa ou ki nu be hS tp hs sz tx vl ey md hR hKs k hk S hr hlk hK (stk.length + 2) 1 (by omega) (by omega) (by omega) (fun z h1 h2 => by omega) _ _ ls hW (lv_sub hl [1, 2, 0] rfl)

/-! the reference: begin -/
set_option maxHeartbeats 400000 in
set_option maxRecDepth 100000 in
theorem m_begin (l : Launch) (g : hp_G) (z0 N : Nat) (ad : Nat → Nat) (F : Nat → va_E) (hN : 96 ≤ N) (tape : List Int32) (kn : Nat → Bool) (rt : Nat → List Int32) (la mm : List Int32) (stk : List Nat) (ap : Nat → Int32) (tc fp me dp fa ou ki nu be : Int32) (hS : mS g ad F tape kn rt la mm stk ap tc fp me dp fa ou ki nu be) : hp_Mv l g z0 N ad y_M_begin ws_M_begin (rk 0) [.ref (ad 87)] F (fun F' => mS g ad F' tape kn rt la mm [] (upd ap 0 0) tc (-1) me dp 0 ou ki nu be ∧ mFr F F') := by
  obtain ⟨tp, hs, sz, tx, vl, ey, md, hR, ⟨htl, htp⟩, hT, ⟨hll, hvl⟩, hKs, hml0, hmd⟩ := id hS
  refine hp_enter (cc := cc_M_begin) (maxL := 1) (ret := none) (by decide) rfl (Nat.le_of_ble_eq_true rfl) ?_
  intro p e s m below meth c S hr hlk hnm hK hW ls hl
  have hl : lv_has ls 1 [(0, .ref (ad 87))] := hl
  obtain ⟨hx, hb, hml, hown, hts⟩ := id S
  have in_kM : ∀ w ∈ u_ws R_M T_M 21, w ∈ ws_M_begin := fun w h => List.mem_cons_of_mem _ (in0_M w h)
  refine lv_aload_n hx hb d_M_begin_0 rfl (lv_at hl 0 rfl) ?_
  refine lv_iconst (v := 0) hx hb d_M_begin_1 (by decide) ?_
  refine hp_put S hK hW (87) (by omega) rfl hR.1 rfl in_kM tyok_M nm_M 14 (by decide) (hts _ (List.mem_cons_of_mem _ tq_110)) rfl rfl rfl (Nat.le_of_ble_eq_true rfl) d_M_begin_2 (fun H locs hW => ?_)
  obtain ⟨F_1, eF_1⟩ : ∃ z, z = va_up F (87) (.inr (kM, [.int tc, .ref (ad 88), .int (nI tape.length), .ref (ad 89), .ref (ad 90), .ref (ad 91), .ref (ad 92), .int (nI la.length), .int fp, .int me, .int dp, .int (nI stk.length), .ref (ad 93), .ref (ad 94), .int 0, .int ou, .int ki, .int nu, .int be, .ref (ad 95), .int (nI mm.length)])) := ⟨_, rfl⟩
  replace hW : hp_W g z0 N ad F_1 s.heap H locs := by rw [eF_1]; exact hW
  have f_2 : F_1 (87) = .inr (kM, [.int tc, .ref (ad 88), .int (nI tape.length), .ref (ad 89), .ref (ad 90), .ref (ad 91), .ref (ad 92), .int (nI la.length), .int fp, .int me, .int dp, .int (nI stk.length), .ref (ad 93), .ref (ad 94), .int 0, .int ou, .int ki, .int nu, .int be, .ref (ad 95), .int (nI mm.length)]) := by rw [eF_1, va_up_self]
  have f_3 : F_1 (88) = .inl (g.2 0, 200, .inl tp) := by rw [eF_1, va_up_ne _ _ (by omega)]; exact hR.2.1
  have f_4 : F_1 (89) = .inl (g.2 2, 26, .inl hs) := by rw [eF_1, va_up_ne _ _ (by omega)]; exact hR.2.2.1
  have f_5 : F_1 (90) = .inl (g.2 0, 26, .inl sz) := by rw [eF_1, va_up_ne _ _ (by omega)]; exact hR.2.2.2.1
  have f_6 : F_1 (91) = .inl (g.2 0, 2600, .inl tx) := by rw [eF_1, va_up_ne _ _ (by omega)]; exact hR.2.2.2.2.1
  have f_7 : F_1 (92) = .inl (g.2 0, 301, .inl vl) := by rw [eF_1, va_up_ne _ _ (by omega)]; exact hR.2.2.2.2.2.1
  have f_8 : F_1 (93) = .inl (g.2 0, 28, .inl ey) := by rw [eF_1, va_up_ne _ _ (by omega)]; exact hR.2.2.2.2.2.2.1
  have f_9 : F_1 (94) = .inl (g.2 0, 28, .inl ap) := by rw [eF_1, va_up_ne _ _ (by omega)]; exact hR.2.2.2.2.2.2.2.1
  have f_10 : F_1 (95) = .inl (g.2 0, 204, .inl md) := by rw [eF_1, va_up_ne _ _ (by omega)]; exact hR.2.2.2.2.2.2.2.2
  have hf_11 : mFr F F_1 := fun x hx => by rw [eF_1, va_up_ne _ _ (by omega)]
  refine lv_aload_n hx hb d_M_begin_5 rfl (lv_at hl 0 rfl) ?_
  refine lv_iconst (v := (-1)) hx hb d_M_begin_6 (by decide) ?_
  refine hp_put S hK hW (87) (by omega) rfl f_2 rfl in_kM tyok_M nm_M 8 (by decide) (hts _ (List.mem_cons_of_mem _ tq_104)) rfl rfl rfl (Nat.le_of_ble_eq_true rfl) d_M_begin_7 (fun H locs hW => ?_)
  obtain ⟨F_12, eF_12⟩ : ∃ z, z = va_up F_1 (87) (.inr (kM, [.int tc, .ref (ad 88), .int (nI tape.length), .ref (ad 89), .ref (ad 90), .ref (ad 91), .ref (ad 92), .int (nI la.length), .int (-1), .int me, .int dp, .int (nI stk.length), .ref (ad 93), .ref (ad 94), .int 0, .int ou, .int ki, .int nu, .int be, .ref (ad 95), .int (nI mm.length)])) := ⟨_, rfl⟩
  replace hW : hp_W g z0 N ad F_12 s.heap H locs := by rw [eF_12]; exact hW
  have f_13 : F_12 (87) = .inr (kM, [.int tc, .ref (ad 88), .int (nI tape.length), .ref (ad 89), .ref (ad 90), .ref (ad 91), .ref (ad 92), .int (nI la.length), .int (-1), .int me, .int dp, .int (nI stk.length), .ref (ad 93), .ref (ad 94), .int 0, .int ou, .int ki, .int nu, .int be, .ref (ad 95), .int (nI mm.length)]) := by rw [eF_12, va_up_self]
  have f_14 : F_12 (88) = .inl (g.2 0, 200, .inl tp) := by rw [eF_12, va_up_ne _ _ (by omega)]; exact f_3
  have f_15 : F_12 (89) = .inl (g.2 2, 26, .inl hs) := by rw [eF_12, va_up_ne _ _ (by omega)]; exact f_4
  have f_16 : F_12 (90) = .inl (g.2 0, 26, .inl sz) := by rw [eF_12, va_up_ne _ _ (by omega)]; exact f_5
  have f_17 : F_12 (91) = .inl (g.2 0, 2600, .inl tx) := by rw [eF_12, va_up_ne _ _ (by omega)]; exact f_6
  have f_18 : F_12 (92) = .inl (g.2 0, 301, .inl vl) := by rw [eF_12, va_up_ne _ _ (by omega)]; exact f_7
  have f_19 : F_12 (93) = .inl (g.2 0, 28, .inl ey) := by rw [eF_12, va_up_ne _ _ (by omega)]; exact f_8
  have f_20 : F_12 (94) = .inl (g.2 0, 28, .inl ap) := by rw [eF_12, va_up_ne _ _ (by omega)]; exact f_9
  have f_21 : F_12 (95) = .inl (g.2 0, 204, .inl md) := by rw [eF_12, va_up_ne _ _ (by omega)]; exact f_10
  have hf_22 : mFr F_1 F_12 := fun x hx => by rw [eF_12, va_up_ne _ _ (by omega)]
  refine lv_aload_n hx hb d_M_begin_10 rfl (lv_at hl 0 rfl) ?_
  refine lv_iconst (v := 0) hx hb d_M_begin_11 (by decide) ?_
  refine hp_put S hK hW (87) (by omega) rfl f_13 rfl in_kM tyok_M nm_M 11 (by decide) (hts _ (List.mem_cons_of_mem _ tq_107)) rfl rfl rfl (Nat.le_of_ble_eq_true rfl) d_M_begin_12 (fun H locs hW => ?_)
  obtain ⟨F_23, eF_23⟩ : ∃ z, z = va_up F_12 (87) (.inr (kM, [.int tc, .ref (ad 88), .int (nI tape.length), .ref (ad 89), .ref (ad 90), .ref (ad 91), .ref (ad 92), .int (nI la.length), .int (-1), .int me, .int dp, .int 0, .ref (ad 93), .ref (ad 94), .int 0, .int ou, .int ki, .int nu, .int be, .ref (ad 95), .int (nI mm.length)])) := ⟨_, rfl⟩
  replace hW : hp_W g z0 N ad F_23 s.heap H locs := by rw [eF_23]; exact hW
  have f_24 : F_23 (87) = .inr (kM, [.int tc, .ref (ad 88), .int (nI tape.length), .ref (ad 89), .ref (ad 90), .ref (ad 91), .ref (ad 92), .int (nI la.length), .int (-1), .int me, .int dp, .int 0, .ref (ad 93), .ref (ad 94), .int 0, .int ou, .int ki, .int nu, .int be, .ref (ad 95), .int (nI mm.length)]) := by rw [eF_23, va_up_self]
  have f_25 : F_23 (88) = .inl (g.2 0, 200, .inl tp) := by rw [eF_23, va_up_ne _ _ (by omega)]; exact f_14
  have f_26 : F_23 (89) = .inl (g.2 2, 26, .inl hs) := by rw [eF_23, va_up_ne _ _ (by omega)]; exact f_15
  have f_27 : F_23 (90) = .inl (g.2 0, 26, .inl sz) := by rw [eF_23, va_up_ne _ _ (by omega)]; exact f_16
  have f_28 : F_23 (91) = .inl (g.2 0, 2600, .inl tx) := by rw [eF_23, va_up_ne _ _ (by omega)]; exact f_17
  have f_29 : F_23 (92) = .inl (g.2 0, 301, .inl vl) := by rw [eF_23, va_up_ne _ _ (by omega)]; exact f_18
  have f_30 : F_23 (93) = .inl (g.2 0, 28, .inl ey) := by rw [eF_23, va_up_ne _ _ (by omega)]; exact f_19
  have f_31 : F_23 (94) = .inl (g.2 0, 28, .inl ap) := by rw [eF_23, va_up_ne _ _ (by omega)]; exact f_20
  have f_32 : F_23 (95) = .inl (g.2 0, 204, .inl md) := by rw [eF_23, va_up_ne _ _ (by omega)]; exact f_21
  have hf_33 : mFr F_12 F_23 := fun x hx => by rw [eF_23, va_up_ne _ _ (by omega)]
  refine lv_aload_n hx hb d_M_begin_15 rfl (lv_at hl 0 rfl) ?_
  refine hp_get S hK hW (87) (by omega) rfl f_24 rfl in_kM 13 (by decide) (hts _ (List.mem_cons_of_mem _ tq_109)) rfl d_M_begin_16 ?_
  refine lv_iconst (v := 0) hx hb d_M_begin_19 (by decide) ?_
  refine lv_iconst (v := 0) hx hb d_M_begin_20 (by decide) ?_
  refine hp_iast S hK hW (94) (by omega) rfl f_31 (x := 0) (vp_in_nI (n := 0) (by omega) (by omega)) d_M_begin_21 (fun H locs hW => ?_)
  obtain ⟨F_34, eF_34⟩ : ∃ z, z = va_up F_23 (94) (.inl (g.2 0, 28, .inl (upd ap 0 0))) := ⟨_, rfl⟩
  rw [show ((0 : Int32).toNatClampNeg) = 0 from rfl] at hW
  replace hW : hp_W g z0 N ad F_34 s.heap H locs := by rw [eF_34]; exact hW
  have f_35 : F_34 (87) = .inr (kM, [.int tc, .ref (ad 88), .int (nI tape.length), .ref (ad 89), .ref (ad 90), .ref (ad 91), .ref (ad 92), .int (nI la.length), .int (-1), .int me, .int dp, .int 0, .ref (ad 93), .ref (ad 94), .int 0, .int ou, .int ki, .int nu, .int be, .ref (ad 95), .int (nI mm.length)]) := by rw [eF_34, va_up_ne _ _ (by omega)]; exact f_24
  have f_36 : F_34 (88) = .inl (g.2 0, 200, .inl tp) := by rw [eF_34, va_up_ne _ _ (by omega)]; exact f_25
  have f_37 : F_34 (89) = .inl (g.2 2, 26, .inl hs) := by rw [eF_34, va_up_ne _ _ (by omega)]; exact f_26
  have f_38 : F_34 (90) = .inl (g.2 0, 26, .inl sz) := by rw [eF_34, va_up_ne _ _ (by omega)]; exact f_27
  have f_39 : F_34 (91) = .inl (g.2 0, 2600, .inl tx) := by rw [eF_34, va_up_ne _ _ (by omega)]; exact f_28
  have f_40 : F_34 (92) = .inl (g.2 0, 301, .inl vl) := by rw [eF_34, va_up_ne _ _ (by omega)]; exact f_29
  have f_41 : F_34 (93) = .inl (g.2 0, 28, .inl ey) := by rw [eF_34, va_up_ne _ _ (by omega)]; exact f_30
  have f_42 : F_34 (94) = .inl (g.2 0, 28, .inl (upd ap 0 0)) := by rw [eF_34, va_up_self]
  have f_43 : F_34 (95) = .inl (g.2 0, 204, .inl md) := by rw [eF_34, va_up_ne _ _ (by omega)]; exact f_32
  have hf_44 : mFr F_23 F_34 := fun x hx => by rw [eF_34, va_up_ne _ _ (by omega)]
  exact hp_retv S hK hW hr hlk d_M_begin_22 (⟨⟨tp, hs, sz, tx, vl, ey, md, ⟨f_35, f_36, f_37, f_38, f_39, f_40, f_41, f_42, f_43⟩, ⟨htl, htp⟩, hT, ⟨hll, hvl⟩, ⟨Nat.zero_le _, fun i h => absurd h (Nat.not_lt_zero _), fun k h => absurd h List.not_mem_nil⟩, hml0, hmd⟩, (((hf_11.tr hf_22).tr hf_33).tr hf_44)⟩)

/-! the reference: defining -/
set_option maxHeartbeats 400000 in
set_option maxRecDepth 100000 in
theorem m_defining (l : Launch) (g : hp_G) (z0 N : Nat) (ad : Nat → Nat) (F : Nat → va_E) (hN : 96 ≤ N) (tape : List Int32) (kn : Nat → Bool) (rt : Nat → List Int32) (la mm : List Int32) (stk : List Nat) (ap : Nat → Int32) (tc fp me dp fa ou ki nu be : Int32) (hS : mS g ad F tape kn rt la mm stk ap tc fp me dp fa ou ki nu be) (x a : Int32) : hp_Mv l g z0 N ad y_M_defining ws_M_defining (rk 1) [.ref (ad 87), .int x, .int a] F (fun F' => mS g ad F' tape kn rt la (md_ad 100 mm x).1 stk ap tc (if ¬ (md_ad 100 mm x).2 = 0 ∧ fa = 0 then (if stk.length = 0 then a else ou) else fp) me dp (if ¬ (md_ad 100 mm x).2 = 0 ∧ fa = 0 then 8 else fa) ou ki nu be ∧ mFr F F') := by
  have hsl := (show stk.length ≤ 26 from by obtain ⟨tp, hs, sz, tx, vl, ey, md, hR, hA, hT, hB, hKs, hC⟩ := id hS; exact hKs.1)
  obtain ⟨tp, hs, sz, tx, vl, ey, md, hR, ⟨htl, htp⟩, hT, ⟨hll, hvl⟩, hKs, hml0, hmd⟩ := id hS
  refine hp_enter (cc := cc_M_defining) (maxL := 3) (ret := none) (by decide) rfl (Nat.le_of_ble_eq_true rfl) ?_
  intro p e s m below meth c S hr hlk hnm hK hW ls hl
  have hl : lv_has ls 3 [(0, .ref (ad 87)), (1, .int x), (2, .int a)] := hl
  obtain ⟨hx, hb, hml, hown, hts⟩ := id S
  have in_kM : ∀ w ∈ u_ws R_M T_M 21, w ∈ ws_M_defining := fun w h => List.mem_cons_of_mem _ (in0_M w h)
  refine lv_aload_n hx hb d_M_defining_0 rfl (lv_at hl 0 rfl) ?_
  refine hp_get S hK hW (87) (by omega) rfl hR.1 rfl in_kM 20 (by decide) (hts _ (List.mem_cons_of_mem _ tq_116)) rfl d_M_defining_1 ?_
  refine lv_bipush (v := 100) hx hb d_M_defining_4 (by decide) ?_
  refine lv_icmp_lt (tgt := 24) hx hb d_M_defining_6 (by decide) (fun c_6 => ?_) (fun c_6 => ?_)
  · have c_6i := c_6
    replace c_6 : mm.length < 100 := (nI_ltI (a := mm.length) (b := 100) (by omega) (by omega)).mp c_6
    refine lv_aload_n hx hb d_M_defining_24 rfl (lv_at hl 0 rfl) ?_
    refine hp_get S hK hW (87) (by omega) rfl hR.1 rfl in_kM 19 (by decide) (hts _ (List.mem_cons_of_mem _ tq_115)) rfl d_M_defining_25 ?_
    refine lv_aload_n hx hb d_M_defining_28 rfl (lv_at hl 0 rfl) ?_
    refine hp_get S hK hW (87) (by omega) rfl hR.1 rfl in_kM 20 (by decide) (hts _ (List.mem_cons_of_mem _ tq_116)) rfl d_M_defining_29 ?_
    refine lv_iload_n hx hb d_M_defining_32 rfl (lv_at hl 1 rfl) ?_
    refine hp_iast S hK hW (95) (by omega) rfl hR.2.2.2.2.2.2.2.2 (x := x) (vp_in_nI (by omega) (by omega)) d_M_defining_33 (fun H locs hW => ?_)
    obtain ⟨F_1, eF_1⟩ : ∃ z, z = va_up F (95) (.inl (g.2 0, 204, .inl (upd md mm.length x))) := ⟨_, rfl⟩
    rw [show (((nI mm.length) : Int32).toNatClampNeg) = mm.length from nI_clamp (by omega)] at hW
    replace hW : hp_W g z0 N ad F_1 s.heap H locs := by rw [eF_1]; exact hW
    have f_2 : F_1 (87) = .inr (kM, [.int tc, .ref (ad 88), .int (nI tape.length), .ref (ad 89), .ref (ad 90), .ref (ad 91), .ref (ad 92), .int (nI la.length), .int fp, .int me, .int dp, .int (nI stk.length), .ref (ad 93), .ref (ad 94), .int fa, .int ou, .int ki, .int nu, .int be, .ref (ad 95), .int (nI mm.length)]) := by rw [eF_1, va_up_ne _ _ (by omega)]; exact hR.1
    have f_3 : F_1 (88) = .inl (g.2 0, 200, .inl tp) := by rw [eF_1, va_up_ne _ _ (by omega)]; exact hR.2.1
    have f_4 : F_1 (89) = .inl (g.2 2, 26, .inl hs) := by rw [eF_1, va_up_ne _ _ (by omega)]; exact hR.2.2.1
    have f_5 : F_1 (90) = .inl (g.2 0, 26, .inl sz) := by rw [eF_1, va_up_ne _ _ (by omega)]; exact hR.2.2.2.1
    have f_6 : F_1 (91) = .inl (g.2 0, 2600, .inl tx) := by rw [eF_1, va_up_ne _ _ (by omega)]; exact hR.2.2.2.2.1
    have f_7 : F_1 (92) = .inl (g.2 0, 301, .inl vl) := by rw [eF_1, va_up_ne _ _ (by omega)]; exact hR.2.2.2.2.2.1
    have f_8 : F_1 (93) = .inl (g.2 0, 28, .inl ey) := by rw [eF_1, va_up_ne _ _ (by omega)]; exact hR.2.2.2.2.2.2.1
    have f_9 : F_1 (94) = .inl (g.2 0, 28, .inl ap) := by rw [eF_1, va_up_ne _ _ (by omega)]; exact hR.2.2.2.2.2.2.2.1
    have f_10 : F_1 (95) = .inl (g.2 0, 204, .inl (upd md mm.length x)) := by rw [eF_1, va_up_self]
    have hf_11 : mFr F F_1 := fun x hx => by rw [eF_1, va_up_ne _ _ (by omega)]
    refine lv_aload_n hx hb d_M_defining_34 rfl (lv_at hl 0 rfl) ?_
    refine lv_dup hx hb d_M_defining_35 rfl ?_
    refine hp_get S hK hW (87) (by omega) rfl f_2 rfl in_kM 20 (by decide) (hts _ (List.mem_cons_of_mem _ tq_116)) rfl d_M_defining_36 ?_
    refine lv_iconst (v := 1) hx hb d_M_defining_39 (by decide) ?_
    refine lv_iadd hx hb d_M_defining_40 ?_
    refine hp_put S hK hW (87) (by omega) rfl f_2 rfl in_kM tyok_M nm_M 20 (by decide) (hts _ (List.mem_cons_of_mem _ tq_116)) rfl rfl rfl (Nat.le_of_ble_eq_true rfl) d_M_defining_41 (fun H locs hW => ?_)
    obtain ⟨F_12, eF_12⟩ : ∃ z, z = va_up F_1 (87) (.inr (kM, [.int tc, .ref (ad 88), .int (nI tape.length), .ref (ad 89), .ref (ad 90), .ref (ad 91), .ref (ad 92), .int (nI la.length), .int fp, .int me, .int dp, .int (nI stk.length), .ref (ad 93), .ref (ad 94), .int fa, .int ou, .int ki, .int nu, .int be, .ref (ad 95), .int ((nI mm.length) + 1)])) := ⟨_, rfl⟩
    replace hW : hp_W g z0 N ad F_12 s.heap H locs := by rw [eF_12]; exact hW
    have f_13 : F_12 (87) = .inr (kM, [.int tc, .ref (ad 88), .int (nI tape.length), .ref (ad 89), .ref (ad 90), .ref (ad 91), .ref (ad 92), .int (nI la.length), .int fp, .int me, .int dp, .int (nI stk.length), .ref (ad 93), .ref (ad 94), .int fa, .int ou, .int ki, .int nu, .int be, .ref (ad 95), .int ((nI mm.length) + 1)]) := by rw [eF_12, va_up_self]
    have f_14 : F_12 (88) = .inl (g.2 0, 200, .inl tp) := by rw [eF_12, va_up_ne _ _ (by omega)]; exact f_3
    have f_15 : F_12 (89) = .inl (g.2 2, 26, .inl hs) := by rw [eF_12, va_up_ne _ _ (by omega)]; exact f_4
    have f_16 : F_12 (90) = .inl (g.2 0, 26, .inl sz) := by rw [eF_12, va_up_ne _ _ (by omega)]; exact f_5
    have f_17 : F_12 (91) = .inl (g.2 0, 2600, .inl tx) := by rw [eF_12, va_up_ne _ _ (by omega)]; exact f_6
    have f_18 : F_12 (92) = .inl (g.2 0, 301, .inl vl) := by rw [eF_12, va_up_ne _ _ (by omega)]; exact f_7
    have f_19 : F_12 (93) = .inl (g.2 0, 28, .inl ey) := by rw [eF_12, va_up_ne _ _ (by omega)]; exact f_8
    have f_20 : F_12 (94) = .inl (g.2 0, 28, .inl ap) := by rw [eF_12, va_up_ne _ _ (by omega)]; exact f_9
    have f_21 : F_12 (95) = .inl (g.2 0, 204, .inl (upd md mm.length x)) := by rw [eF_12, va_up_ne _ _ (by omega)]; exact f_10
    have hf_22 : mFr F_1 F_12 := fun x hx => by rw [eF_12, va_up_ne _ _ (by omega)]
    have hX : (md_ad 100 mm x) = (mm ++ [x], 0) := if_pos (by omega)
    have e87 := f_13
    exact hp_retv S hK hW hr hlk d_M_defining_44 (by rw [hX]; exact ⟨by rw [if80, if80]; exact ⟨tp, hs, sz, tx, vl, ey, ((upd md mm.length x)), ⟨(by rw [e87, List.length_append, List.length_singleton, nI_succ] <;> rfl), f_14, f_15, f_16, f_17, f_18, f_19, f_20, f_21⟩, ⟨htl, htp⟩, hT, ⟨hll, hvl⟩, hKs, (by rw [List.length_append, List.length_singleton]; omega), mL_push hmd⟩, (hf_11.tr hf_22)⟩)
  · have c_6i := c_6
    replace c_6 : ¬ mm.length < 100 := fun zz9 => c_6 ((nI_ltI (a := mm.length) (b := 100) (by omega) (by omega)).mpr zz9)
    refine lv_aload_n hx hb d_M_defining_9 rfl (lv_at hl 0 rfl) ?_
    refine hp_get S hK hW (87) (by omega) rfl hR.1 rfl in_kM 14 (by decide) (hts _ (List.mem_cons_of_mem _ tq_110)) rfl d_M_defining_10 ?_
    refine lv_if_ne (tgt := 23) hx hb d_M_defining_13 (by decide) (fun c_13 => ?_) (fun c_13 => ?_)
    · have c_13i := c_13
      have hX : (md_ad 100 mm x) = (mm, 8) := if_neg (by omega)
      exact hp_retv S hK hW hr hlk d_M_defining_23 (by rw [hX]; exact ⟨by rw [if8n c_13i, if8n c_13i]; exact hS, mFr.rf⟩)
    · have c_13i := c_13
      refine lv_aload_n hx hb d_M_defining_16 rfl (lv_at hl 0 rfl) ?_
      refine lv_bipush (v := 8) hx hb d_M_defining_17 (by decide) ?_
      refine lv_iload_n hx hb d_M_defining_19 rfl (lv_at hl 2 rfl) ?_
      refine hp_gov hW (va_runV S (m_fails l g z0 N ad F hN tape kn rt la mm stk ap tc fp me dp fa ou ki nu be hS 8 a) (cwV 2 hts (tb_V cd_M_fails tq_121 tq_122 tq_123 tq_118) rfl rfl rfl hd_M_fails (rk_ok (by omega) (by omega))) (hp_preV hK hW (by omega) rfl hR.1 rfl) rfl rfl hl.1 rfl (lv_room (Nat.le_of_ble_eq_true rfl)) d_M_defining_20 ⟨Nat.zero_le _, Nat.zero_le _⟩) (fun F_24 H locs hw hW => ?_)
      obtain ⟨hS1, hg1⟩ := hw
      obtain ⟨tp, hs, sz, tx, vl, ey, md, hR, ⟨htl, htp⟩, hT, ⟨hll, hvl⟩, hKs, hml0, hmd⟩ := id hS1
      have hX : (md_ad 100 mm x) = (mm, 8) := if_neg (by omega)
      exact hp_retv S hK hW hr hlk d_M_defining_23 (by rw [hX]; exact ⟨by rw [if8 c_13i, if8 c_13i]; exact hS1, hg1⟩)
end
section
set_option maxHeartbeats 400000 in
set_option maxRecDepth 100000 in
theorem tl_look_1 {p : Program} {e : Env} {s : State} {m : MethodId} {args : Array Value} {below : List Frame} {meth : Method} {c : Code} (l : Launch) (g : hp_G) (z0 N : Nat) (ad : Nat → Nat) (F : Nat → va_E) (hN : 96 ≤ N) (tape : List Int32) (kn : Nat → Bool) (rt : Nat → List Int32) (la mm : List Int32) (stk : List Nat) (ap : Nat → Int32) (tc fp me dp ou nu be : Int32) (hS : mS g ad F tape kn rt la mm stk ap tc fp me dp 0 ou 1 nu be) (q0 q : Nat) (hq0 : q0 < 1000) (hq : q < 1000) (Fz : Nat → va_E) (hfr : mFr Fz F) (S : CallFix p m c cc_M_look 6 s args ws_M_look R_M) (hr : meth.sig.returnType = none) (hlk : meth.locks = false) (hK : hp_K g s) (H : Heap) (locs : List Loc) (ls : Array Slot) (hW : hp_W g z0 N ad F s.heap H locs) (hl : lv_has ls 6 [(0, .ref (ad 87)), (1, .int (nI q0)), (3, .int (nI q))]) : W p l e (rk 2) s m args below meth c H locs 0 0 (MQ below (va_Qv (LK g ad Fz tape kn rt la mm stk ap tc fp me dp ou q0 (md_cl (mC tape rt stk) true nu q)) (hp_B g z0 N ad) (hp_A z0)) args s 0 0 (hp_A z0)) (F0 m 167 ls []) := by
  obtain ⟨hx, hb, hml, hown, hts⟩ := id S
  have in_kM : ∀ w ∈ u_ws R_M T_M 21, w ∈ ws_M_look := fun w h => List.mem_cons_of_mem _ (in0_M w h)
  have hcl := hS.cl
  obtain ⟨tp, hs, sz, tx, vl, ey, md, hR, ⟨htl, htp⟩, hT, ⟨hll, hvl⟩, hKs, hml0, hmd⟩ := id hS
  refine lv_aload_n hx hb d_M_look_167 rfl (lv_at hl 0 rfl) ?_
  refine lv_iload_n hx hb d_M_look_168 rfl (lv_at hl 2 rfl) ?_
  refine hp_goi hW (va_runV S (m_byteOf l g z0 N ad F hN tape kn rt la mm stk ap tc fp me dp 0 ou 1 nu be hS (q) (by omega)) (cwV 1 hts (tb_V cd_M_byteOf tq_124 tq_125 tq_126 tq_118) rfl rfl rfl hd_M_byteOf (rk_ok (by omega) (by omega))) (hp_preV hK hW (by omega) rfl hR.1 rfl) rfl rfl hl.1 rfl (lv_room (Nat.le_of_ble_eq_true rfl)) d_M_look_169 ⟨Nat.zero_le _, Nat.zero_le _⟩) (fun r_1 F_2 H locs hw hW => ?_)
  obtain ⟨hvq, hFq⟩ := hw
  rw [hFq] at hW
  rw [hvq]
  refine lv_bipush (v := 59) hx hb d_M_look_172 (by decide) ?_
  refine lv_icmp_eq (tgt := 183) hx hb d_M_look_174 (by decide) (fun c_174 => ?_) (fun c_174 => ?_)
  · have c_174i := c_174
    refine lv_aload_n hx hb d_M_look_183 rfl (lv_at hl 0 rfl) ?_
    refine lv_iload_n hx hb d_M_look_184 rfl (lv_at hl 2 rfl) ?_
    refine lv_iconst (v := 1) hx hb d_M_look_185 (by decide) ?_
    refine lv_iadd hx hb d_M_look_186 ?_
    rw [show ((nI q) + 1) = (nI (q + 1)) from (nI_succ q).symm]
    refine hp_put S hK hW (87) (by omega) rfl hR.1 rfl in_kM tyok_M nm_M 18 (by decide) (hts _ (List.mem_cons_of_mem _ tq_114)) rfl rfl rfl (Nat.le_of_ble_eq_true rfl) d_M_look_187 (fun H locs hW => ?_)
    obtain ⟨F_3, eF_3⟩ : ∃ z, z = va_up F (87) (.inr (kM, [.int tc, .ref (ad 88), .int (nI tape.length), .ref (ad 89), .ref (ad 90), .ref (ad 91), .ref (ad 92), .int (nI la.length), .int fp, .int me, .int dp, .int (nI stk.length), .ref (ad 93), .ref (ad 94), .int 0, .int ou, .int 1, .int nu, .int (nI (q + 1)), .ref (ad 95), .int (nI mm.length)])) := ⟨_, rfl⟩
    replace hW : hp_W g z0 N ad F_3 s.heap H locs := by rw [eF_3]; exact hW
    have f_4 : F_3 (87) = .inr (kM, [.int tc, .ref (ad 88), .int (nI tape.length), .ref (ad 89), .ref (ad 90), .ref (ad 91), .ref (ad 92), .int (nI la.length), .int fp, .int me, .int dp, .int (nI stk.length), .ref (ad 93), .ref (ad 94), .int 0, .int ou, .int 1, .int nu, .int (nI (q + 1)), .ref (ad 95), .int (nI mm.length)]) := by rw [eF_3, va_up_self]
    have f_5 : F_3 (88) = .inl (g.2 0, 200, .inl tp) := by rw [eF_3, va_up_ne _ _ (by omega)]; exact hR.2.1
    have f_6 : F_3 (89) = .inl (g.2 2, 26, .inl hs) := by rw [eF_3, va_up_ne _ _ (by omega)]; exact hR.2.2.1
    have f_7 : F_3 (90) = .inl (g.2 0, 26, .inl sz) := by rw [eF_3, va_up_ne _ _ (by omega)]; exact hR.2.2.2.1
    have f_8 : F_3 (91) = .inl (g.2 0, 2600, .inl tx) := by rw [eF_3, va_up_ne _ _ (by omega)]; exact hR.2.2.2.2.1
    have f_9 : F_3 (92) = .inl (g.2 0, 301, .inl vl) := by rw [eF_3, va_up_ne _ _ (by omega)]; exact hR.2.2.2.2.2.1
    have f_10 : F_3 (93) = .inl (g.2 0, 28, .inl ey) := by rw [eF_3, va_up_ne _ _ (by omega)]; exact hR.2.2.2.2.2.2.1
    have f_11 : F_3 (94) = .inl (g.2 0, 28, .inl ap) := by rw [eF_3, va_up_ne _ _ (by omega)]; exact hR.2.2.2.2.2.2.2.1
    have f_12 : F_3 (95) = .inl (g.2 0, 204, .inl md) := by rw [eF_3, va_up_ne _ _ (by omega)]; exact hR.2.2.2.2.2.2.2.2
    have hf_13 : mFr F F_3 := fun x hx => by rw [eF_3, va_up_ne _ _ (by omega)]
    refine lv_aload_n hx hb d_M_look_190 rfl (lv_at hl 0 rfl) ?_
    refine hp_get S hK hW (87) (by omega) rfl f_4 rfl in_kM 16 (by decide) (hts _ (List.mem_cons_of_mem _ tq_112)) rfl d_M_look_191 ?_
    refine lv_iconst (v := 2) hx hb d_M_look_194 (by decide) ?_
    refine lv_icmp_ne (tgt := 214) hx hb d_M_look_195 (by decide) (fun c_195 => ?_) (fun c_195 => absurd c_195 (show ¬ (1 : Int32) = 2 from by decide))
    have hX : (md_cl (mC tape rt stk) true nu q) = (true, true, nu, q + 1) := if_pos c_174i
    exact hp_retv S hK hW hr hlk d_M_look_214 (by rw [hX]; exact ⟨_, _, _, ⟨tp, hs, sz, tx, vl, ey, md, ⟨f_4, f_5, f_6, f_7, f_8, f_9, f_10, f_11, f_12⟩, ⟨htl, htp⟩, hT, ⟨hll, hvl⟩, hKs, hml0, hmd⟩, fun _ => ⟨rfl, rfl, rfl⟩, hfr.tr hf_13⟩)
  · have c_174i := c_174
    refine lv_aload_n hx hb d_M_look_177 rfl (lv_at hl 0 rfl) ?_
    refine lv_iload_n hx hb d_M_look_178 rfl (lv_at hl 2 rfl) ?_
    refine hp_gov hW (va_runV S (m_stops l g z0 N ad F hN tape kn rt la mm stk ap tc fp me dp 0 ou 1 nu be hS (q) (by omega) (by omega)) (cwV 1 hts (tb_V cd_M_stops tq_129 tq_130 tq_131 tq_118) rfl rfl rfl hd_M_stops (rk_ok (by omega) (by omega))) (hp_preV hK hW (by omega) rfl hR.1 rfl) rfl rfl hl.1 rfl (lv_room (Nat.le_of_ble_eq_true rfl)) d_M_look_179 ⟨Nat.zero_le _, Nat.zero_le _⟩) (fun F_15 H locs hw hW => ?_)
    obtain ⟨hS1, hg1⟩ := hw
    obtain ⟨tp, hs, sz, tx, vl, ey, md, hR, ⟨htl, htp⟩, hT, ⟨hll, hvl⟩, hKs, hml0, hmd⟩ := id hS1
    have hX : (md_cl (mC tape rt stk) true nu q) = (false, true, nu, q) := if_neg c_174i
    exact hp_retv S hK hW hr hlk d_M_look_182 (by rw [hX]; exact ⟨_, _, _, by rw [pf_n (by show ¬ (if _ then 1 else 7) = 0; split <;> omega)]; exact hS1, (fun z => by cases z), hfr.tr hg1⟩)

set_option maxHeartbeats 400000 in
set_option maxRecDepth 100000 in
theorem tl_look_2 {p : Program} {e : Env} {s : State} {m : MethodId} {args : Array Value} {below : List Frame} {meth : Method} {c : Code} (l : Launch) (g : hp_G) (z0 N : Nat) (ad : Nat → Nat) (F : Nat → va_E) (hN : 96 ≤ N) (tape : List Int32) (kn : Nat → Bool) (rt : Nat → List Int32) (la mm : List Int32) (stk : List Nat) (ap : Nat → Int32) (tc fp me dp ou nu be : Int32) (hS : mS g ad F tape kn rt la mm stk ap tc fp me dp 0 ou 2 nu be) (q0 q : Nat) (hq0 : q0 < 1000) (hq : q < 1000) (Fz : Nat → va_E) (hfr : mFr Fz F) (S : CallFix p m c cc_M_look 6 s args ws_M_look R_M) (hr : meth.sig.returnType = none) (hlk : meth.locks = false) (hK : hp_K g s) (H : Heap) (locs : List Loc) (ls : Array Slot) (hW : hp_W g z0 N ad F s.heap H locs) (hl : lv_has ls 6 [(0, .ref (ad 87)), (1, .int (nI q0)), (3, .int (nI q))]) : W p l e (rk 2) s m args below meth c H locs 0 0 (MQ below (va_Qv (LK g ad Fz tape kn rt la mm stk ap tc fp me dp ou q0 (md_cl (mC tape rt stk) false nu q)) (hp_B g z0 N ad) (hp_A z0)) args s 0 0 (hp_A z0)) (F0 m 167 ls []) := by
  obtain ⟨hx, hb, hml, hown, hts⟩ := id S
  have in_kM : ∀ w ∈ u_ws R_M T_M 21, w ∈ ws_M_look := fun w h => List.mem_cons_of_mem _ (in0_M w h)
  have hcl := hS.cl
  obtain ⟨tp, hs, sz, tx, vl, ey, md, hR, ⟨htl, htp⟩, hT, ⟨hll, hvl⟩, hKs, hml0, hmd⟩ := id hS
  refine lv_aload_n hx hb d_M_look_167 rfl (lv_at hl 0 rfl) ?_
  refine lv_iload_n hx hb d_M_look_168 rfl (lv_at hl 2 rfl) ?_
  refine hp_goi hW (va_runV S (m_byteOf l g z0 N ad F hN tape kn rt la mm stk ap tc fp me dp 0 ou 2 nu be hS (q) (by omega)) (cwV 1 hts (tb_V cd_M_byteOf tq_124 tq_125 tq_126 tq_118) rfl rfl rfl hd_M_byteOf (rk_ok (by omega) (by omega))) (hp_preV hK hW (by omega) rfl hR.1 rfl) rfl rfl hl.1 rfl (lv_room (Nat.le_of_ble_eq_true rfl)) d_M_look_169 ⟨Nat.zero_le _, Nat.zero_le _⟩) (fun r_1 F_2 H locs hw hW => ?_)
  obtain ⟨hvq, hFq⟩ := hw
  rw [hFq] at hW
  rw [hvq]
  refine lv_bipush (v := 59) hx hb d_M_look_172 (by decide) ?_
  refine lv_icmp_eq (tgt := 183) hx hb d_M_look_174 (by decide) (fun c_174 => ?_) (fun c_174 => ?_)
  · have c_174i := c_174
    refine lv_aload_n hx hb d_M_look_183 rfl (lv_at hl 0 rfl) ?_
    refine lv_iload_n hx hb d_M_look_184 rfl (lv_at hl 2 rfl) ?_
    refine lv_iconst (v := 1) hx hb d_M_look_185 (by decide) ?_
    refine lv_iadd hx hb d_M_look_186 ?_
    rw [show ((nI q) + 1) = (nI (q + 1)) from (nI_succ q).symm]
    refine hp_put S hK hW (87) (by omega) rfl hR.1 rfl in_kM tyok_M nm_M 18 (by decide) (hts _ (List.mem_cons_of_mem _ tq_114)) rfl rfl rfl (Nat.le_of_ble_eq_true rfl) d_M_look_187 (fun H locs hW => ?_)
    obtain ⟨F_3, eF_3⟩ : ∃ z, z = va_up F (87) (.inr (kM, [.int tc, .ref (ad 88), .int (nI tape.length), .ref (ad 89), .ref (ad 90), .ref (ad 91), .ref (ad 92), .int (nI la.length), .int fp, .int me, .int dp, .int (nI stk.length), .ref (ad 93), .ref (ad 94), .int 0, .int ou, .int 2, .int nu, .int (nI (q + 1)), .ref (ad 95), .int (nI mm.length)])) := ⟨_, rfl⟩
    replace hW : hp_W g z0 N ad F_3 s.heap H locs := by rw [eF_3]; exact hW
    have f_4 : F_3 (87) = .inr (kM, [.int tc, .ref (ad 88), .int (nI tape.length), .ref (ad 89), .ref (ad 90), .ref (ad 91), .ref (ad 92), .int (nI la.length), .int fp, .int me, .int dp, .int (nI stk.length), .ref (ad 93), .ref (ad 94), .int 0, .int ou, .int 2, .int nu, .int (nI (q + 1)), .ref (ad 95), .int (nI mm.length)]) := by rw [eF_3, va_up_self]
    have f_5 : F_3 (88) = .inl (g.2 0, 200, .inl tp) := by rw [eF_3, va_up_ne _ _ (by omega)]; exact hR.2.1
    have f_6 : F_3 (89) = .inl (g.2 2, 26, .inl hs) := by rw [eF_3, va_up_ne _ _ (by omega)]; exact hR.2.2.1
    have f_7 : F_3 (90) = .inl (g.2 0, 26, .inl sz) := by rw [eF_3, va_up_ne _ _ (by omega)]; exact hR.2.2.2.1
    have f_8 : F_3 (91) = .inl (g.2 0, 2600, .inl tx) := by rw [eF_3, va_up_ne _ _ (by omega)]; exact hR.2.2.2.2.1
    have f_9 : F_3 (92) = .inl (g.2 0, 301, .inl vl) := by rw [eF_3, va_up_ne _ _ (by omega)]; exact hR.2.2.2.2.2.1
    have f_10 : F_3 (93) = .inl (g.2 0, 28, .inl ey) := by rw [eF_3, va_up_ne _ _ (by omega)]; exact hR.2.2.2.2.2.2.1
    have f_11 : F_3 (94) = .inl (g.2 0, 28, .inl ap) := by rw [eF_3, va_up_ne _ _ (by omega)]; exact hR.2.2.2.2.2.2.2.1
    have f_12 : F_3 (95) = .inl (g.2 0, 204, .inl md) := by rw [eF_3, va_up_ne _ _ (by omega)]; exact hR.2.2.2.2.2.2.2.2
    have hf_13 : mFr F F_3 := fun x hx => by rw [eF_3, va_up_ne _ _ (by omega)]
    refine lv_aload_n hx hb d_M_look_190 rfl (lv_at hl 0 rfl) ?_
    refine hp_get S hK hW (87) (by omega) rfl f_4 rfl in_kM 16 (by decide) (hts _ (List.mem_cons_of_mem _ tq_112)) rfl d_M_look_191 ?_
    refine lv_iconst (v := 2) hx hb d_M_look_194 (by decide) ?_
    refine lv_icmp_ne (tgt := 214) hx hb d_M_look_195 (by decide) (fun c_195 => absurd c_195 (show ¬ (¬ (2 : Int32) = 2) from by decide)) (fun c_195 => ?_)
    refine lv_aload_n hx hb d_M_look_198 rfl (lv_at hl 0 rfl) ?_
    refine hp_get S hK hW (87) (by omega) rfl f_4 rfl in_kM 17 (by decide) (hts _ (List.mem_cons_of_mem _ tq_113)) rfl d_M_look_199 ?_
    refine hp_goi hW (va_runS S (m_isCharacter l g z0 N ad F_3 nu) (va_cwS 1 hts (tb_S cd_M_isCharacter tq_132 tq_133 tq_118) rfl rfl rfl hd_M_isCharacter.2 (rk_ok (by omega) (by omega))) (hp_preS hK hW) rfl rfl hl.1 rfl (lv_room (Nat.le_of_ble_eq_true rfl)) d_M_look_202 ⟨Nat.zero_le _, Nat.zero_le _⟩) (fun r_14 F_15 H locs hw hW => ?_)
    obtain ⟨hvq, hFq⟩ := hw
    rw [hFq] at hW
    rw [hvq]
    refine lv_if_ne (tgt := 214) hx hb d_M_look_205 (by decide) (fun c_205 => ?_) (fun c_205 => ?_)
    · have c_205i := c_205
      have hX : (md_cl (mC tape rt stk) false nu q) = (true, false, nu, q + 1) := if_pos c_174i
      have hch := b2_n0.mp c_205i
      exact hp_retv S hK hW hr hlk d_M_look_214 (by rw [hX]; exact ⟨_, _, _, by rw [show lkf stk.length (mC tape rt stk).length (true, false, nu, q + 1) = 0 from if_pos (Or.inr hch)]; exact ⟨tp, hs, sz, tx, vl, ey, md, ⟨f_4, f_5, f_6, f_7, f_8, f_9, f_10, f_11, f_12⟩, ⟨htl, htp⟩, hT, ⟨hll, hvl⟩, hKs, hml0, hmd⟩, fun _ => ⟨rfl, rfl, rfl⟩, hfr.tr hf_13⟩)
    · have c_205i := c_205
      refine lv_aload_n hx hb d_M_look_208 rfl (lv_at hl 0 rfl) ?_
      refine lv_iconst (v := 5) hx hb d_M_look_209 (by decide) ?_
      refine lv_iload_n hx hb d_M_look_210 rfl (lv_at hl 1 rfl) ?_
      refine hp_gov hW (va_runV S (m_fails l g z0 N ad F_3 hN tape kn rt la mm stk ap tc fp me dp 0 ou 2 nu (nI (q + 1)) ⟨tp, hs, sz, tx, vl, ey, md, ⟨f_4, f_5, f_6, f_7, f_8, f_9, f_10, f_11, f_12⟩, ⟨htl, htp⟩, hT, ⟨hll, hvl⟩, hKs, hml0, hmd⟩ 5 (nI q0)) (cwV 2 hts (tb_V cd_M_fails tq_121 tq_122 tq_123 tq_118) rfl rfl rfl hd_M_fails (rk_ok (by omega) (by omega))) (hp_preV hK hW (by omega) rfl f_4 rfl) rfl rfl hl.1 rfl (lv_room (Nat.le_of_ble_eq_true rfl)) d_M_look_211 ⟨Nat.zero_le _, Nat.zero_le _⟩) (fun F_17 H locs hw hW => ?_)
      obtain ⟨hS1, hg1⟩ := hw
      obtain ⟨tp, hs, sz, tx, vl, ey, md, hR, ⟨htl, htp⟩, hT, ⟨hll, hvl⟩, hKs, hml0, hmd⟩ := id hS1
      have hX : (md_cl (mC tape rt stk) false nu q) = (true, false, nu, q + 1) := if_pos c_174i
      have hch := b2_0.mp c_205i
      exact hp_retv S hK hW hr hlk d_M_look_214 (by rw [hX]; exact ⟨_, _, _, by rw [show lkf stk.length (mC tape rt stk).length (true, false, nu, q + 1) = 5 from lkf_5 hch]; exact hS1, fun _ => ⟨rfl, rfl, rfl⟩, hfr.tr (hf_13.tr hg1)⟩)
  · have c_174i := c_174
    refine lv_aload_n hx hb d_M_look_177 rfl (lv_at hl 0 rfl) ?_
    refine lv_iload_n hx hb d_M_look_178 rfl (lv_at hl 2 rfl) ?_
    refine hp_gov hW (va_runV S (m_stops l g z0 N ad F hN tape kn rt la mm stk ap tc fp me dp 0 ou 2 nu be hS (q) (by omega) (by omega)) (cwV 1 hts (tb_V cd_M_stops tq_129 tq_130 tq_131 tq_118) rfl rfl rfl hd_M_stops (rk_ok (by omega) (by omega))) (hp_preV hK hW (by omega) rfl hR.1 rfl) rfl rfl hl.1 rfl (lv_room (Nat.le_of_ble_eq_true rfl)) d_M_look_179 ⟨Nat.zero_le _, Nat.zero_le _⟩) (fun F_19 H locs hw hW => ?_)
    obtain ⟨hS1, hg1⟩ := hw
    obtain ⟨tp, hs, sz, tx, vl, ey, md, hR, ⟨htl, htp⟩, hT, ⟨hll, hvl⟩, hKs, hml0, hmd⟩ := id hS1
    have hX : (md_cl (mC tape rt stk) false nu q) = (false, false, nu, q) := if_neg c_174i
    exact hp_retv S hK hW hr hlk d_M_look_182 (by rw [hX]; exact ⟨_, _, _, by rw [pf_n (by show ¬ (if _ then 1 else 7) = 0; split <;> omega)]; exact hS1, (fun z => by cases z), hfr.tr hg1⟩)

/-! the reference: look, its digits -/
set_option maxHeartbeats 400000 in
set_option maxRecDepth 100000 in
theorem lp_look_1 {p : Program} {e : Env} {s : State} {m : MethodId} {args : Array Value} {below : List Frame} {meth : Method} {c : Code} (l : Launch) (g : hp_G) (z0 N : Nat) (ad : Nat → Nat)  (hN : 96 ≤ N) (tape : List Int32) (kn : Nat → Bool) (rt : Nat → List Int32) (la mm : List Int32) (stk : List Nat) (ap : Nat → Int32) (tc fp me dp ou be : Int32) (q0 fr : Nat) (hq0 : q0 < 900) (hfr0 : fr < 900) (x2 : Int32) (Fz : Nat → va_E) (S : CallFix p m c cc_M_look 6 s args ws_M_look R_M) (hr : meth.sig.returnType = none) (hlk : meth.locks = false) (hK : hp_K g s) : ∀ (j : Nat) (d : Nat) (num : Int32) (F : Nat → va_E), d ≤ 6 → 7 ≤ d + j → mS g ad F tape kn rt la mm stk ap tc fp me dp 0 ou 2 num be → (md_dgs true (mC tape rt stk) 6 fr 0) = md_dgs true (mC tape rt stk) (6 - d) (fr + d) num → mFr Fz F → ∀ (H : Heap) (locs : List Loc) (ls : Array Slot), hp_W g z0 N ad F s.heap H locs → lv_has ls 6 [(0, .ref (ad 87)), (1, .int (nI q0)), (2, .int x2), (3, .int (nI (fr + d))), (4, .int 1), (5, .int (nI d))] → W p l e (rk 2) s m args below meth c H locs 0 0 (MQ below (va_Qv (LK g ad Fz tape kn rt la mm stk ap tc fp me dp ou q0 (md_num true (mC tape rt stk) fr)) (hp_B g z0 N ad) (hp_A z0)) args s 0 0 (hp_A z0)) (F0 m 84 ls []) := by
  obtain ⟨hx, hb, hml, hown, hts⟩ := id S
  have in_kM : ∀ w ∈ u_ws R_M T_M 21, w ∈ ws_M_look := fun w h => List.mem_cons_of_mem _ (in0_M w h)
  intro j
  induction j with
  | zero =>
    intro d num F hd hj hS hD hfr H locs ls hW hl
    exact absurd hj (by omega)
  | succ j ih =>
    intro d num F hd hj hS hD hfr H locs ls hW hl
    have hcl := hS.cl
    obtain ⟨tp, hs, sz, tx, vl, ey, md, hR, ⟨htl, htp⟩, hT, ⟨hll, hvl⟩, hKs, hml0, hmd⟩ := id hS
    refine lv_iload hx hb d_M_look_84 (lv_at hl 5 rfl) ?_
    refine lv_bipush (v := 6) hx hb d_M_look_86 (by decide) ?_
    refine lv_icmp_ge (tgt := 145) hx hb d_M_look_88 (by decide) (fun c_88 => ?_) (fun c_88 => ?_)
    · have c_88i := c_88
      replace c_88 : 6 ≤ d := (nI_leI (a := 6) (b := d) (by omega) (by omega)).mp c_88
      have hend : (md_dgs true (mC tape rt stk) 6 fr 0) = (fr + d, num) := by rw [hD, show 6 - d = 0 by omega]; rfl
      refine lv_iload hx hb d_M_look_145 (lv_at hl 5 rfl) ?_
      refine lv_if_ne (tgt := 156) hx hb d_M_look_147 (by decide) (fun c_147 => ?_) (fun c_147 => ?_)
      · have c_147i := c_147
        replace c_147 : ¬ d = 0 := fun zz9 => c_147 ((nI_eq (a := d) (b := 0) (by omega) (by omega)).mpr zz9)
        refine lv_goto (tgt := 167) hx hb d_M_look_156 (by decide) ?_
        have hX : (md_num true (mC tape rt stk) fr) = md_cl (mC tape rt stk) false num (fr + d) := by unfold md_num; rw [hend]; exact if_neg (by show ¬ fr + d = fr; omega)
        rw [hX]
        exact tl_look_2 l g z0 N ad F hN tape kn rt la mm stk ap tc fp me dp ou num be hS q0 (fr + d) (by omega) (by omega) Fz hfr S hr hlk hK H locs ls hW (lv_sub hl [0, 1, 3] rfl)
      · have c_147i := c_147
        replace c_147 : d = 0 := (nI_eq (a := d) (b := 0) (by omega) (by omega)).mp c_147
        refine lv_aload_n hx hb d_M_look_150 rfl (lv_at hl 0 rfl) ?_
        refine lv_iload_n hx hb d_M_look_151 rfl (lv_at hl 3 rfl) ?_
        refine hp_gov hW (va_runV S (m_stops l g z0 N ad F hN tape kn rt la mm stk ap tc fp me dp 0 ou 2 num be hS (fr + d) (by omega) (by omega)) (cwV 1 hts (tb_V cd_M_stops tq_129 tq_130 tq_131 tq_118) rfl rfl rfl hd_M_stops (rk_ok (by omega) (by omega))) (hp_preV hK hW (by omega) rfl hR.1 rfl) rfl rfl hl.1 rfl (lv_room (Nat.le_of_ble_eq_true rfl)) d_M_look_152 ⟨Nat.zero_le _, Nat.zero_le _⟩) (fun F_2 H locs hw hW => ?_)
        obtain ⟨hS1, hg1⟩ := hw
        obtain ⟨tp, hs, sz, tx, vl, ey, md, hR, ⟨htl, htp⟩, hT, ⟨hll, hvl⟩, hKs, hml0, hmd⟩ := id hS1
        have hX : (md_num true (mC tape rt stk) fr) = (false, false, 0, fr) := by unfold md_num; rw [hend]; exact if_pos (by show fr + d = fr; omega)
        have hd0 : d = 0 := by omega
        subst hd0
        exact hp_retv S hK hW hr hlk d_M_look_155 (by rw [hX]; exact ⟨_, _, _, by rw [pf_n (by show ¬ (if _ then 1 else 7) = 0; split <;> omega)]; exact hS1, (fun z => by cases z), hfr.tr hg1⟩)
    · have c_88i := c_88
      replace c_88 : ¬ 6 ≤ d := fun zz9 => c_88 ((nI_leI (a := 6) (b := d) (by omega) (by omega)).mpr zz9)
      refine lv_aload_n hx hb d_M_look_91 rfl (lv_at hl 0 rfl) ?_
      refine lv_iload_n hx hb d_M_look_92 rfl (lv_at hl 3 rfl) ?_
      refine hp_goi hW (va_runV S (m_byteOf l g z0 N ad F hN tape kn rt la mm stk ap tc fp me dp 0 ou 2 num be hS (fr + d) (by omega)) (cwV 1 hts (tb_V cd_M_byteOf tq_124 tq_125 tq_126 tq_118) rfl rfl rfl hd_M_byteOf (rk_ok (by omega) (by omega))) (hp_preV hK hW (by omega) rfl hR.1 rfl) rfl rfl hl.1 rfl (lv_room (Nat.le_of_ble_eq_true rfl)) d_M_look_93 ⟨Nat.zero_le _, Nat.zero_le _⟩) (fun r_3 F_4 H locs hw hW => ?_)
      obtain ⟨hvq, hFq⟩ := hw
      rw [hFq] at hW
      rw [hvq]
      refine lv_iload hx hb d_M_look_96 (lv_at hl 4 rfl) ?_
      refine hp_goi hW (va_runS S (m_digit_1 l g z0 N ad F (md_at (mC tape rt stk) (fr + d))) (va_cwS 2 hts (tb_S cd_M_digit tq_127 tq_128 tq_118) rfl rfl rfl hd_M_digit.2 (rk_ok (by omega) (by omega))) (hp_preS hK hW) rfl rfl hl.1 rfl (lv_room (Nat.le_of_ble_eq_true rfl)) d_M_look_98 ⟨Nat.zero_le _, Nat.zero_le _⟩) (fun r_5 F_6 H locs hw hW => ?_)
      obtain ⟨hvq, hFq⟩ := hw
      rw [hFq] at hW
      rw [hvq]
      refine lv_if_lt (tgt := 145) hx hb d_M_look_101 (by decide) (fun c_101 => ?_) (fun c_101 => ?_)
      · have c_101i := c_101
        have c_101j := Int32.not_le.mpr c_101
        have hend : (md_dgs true (mC tape rt stk) 6 fr 0) = (fr + d, num) := by rw [hD]; exact dgs_end (Int32.not_le.mpr c_101)
        refine lv_iload hx hb d_M_look_145 (lv_at hl 5 rfl) ?_
        refine lv_if_ne (tgt := 156) hx hb d_M_look_147 (by decide) (fun c_147 => ?_) (fun c_147 => ?_)
        · have c_147i := c_147
          replace c_147 : ¬ d = 0 := fun zz9 => c_147 ((nI_eq (a := d) (b := 0) (by omega) (by omega)).mpr zz9)
          refine lv_goto (tgt := 167) hx hb d_M_look_156 (by decide) ?_
          have hX : (md_num true (mC tape rt stk) fr) = md_cl (mC tape rt stk) false num (fr + d) := by unfold md_num; rw [hend]; exact if_neg (by show ¬ fr + d = fr; omega)
          rw [hX]
          exact tl_look_2 l g z0 N ad F hN tape kn rt la mm stk ap tc fp me dp ou num be hS q0 (fr + d) (by omega) (by omega) Fz hfr S hr hlk hK H locs ls hW (lv_sub hl [0, 1, 3] rfl)
        · have c_147i := c_147
          replace c_147 : d = 0 := (nI_eq (a := d) (b := 0) (by omega) (by omega)).mp c_147
          refine lv_aload_n hx hb d_M_look_150 rfl (lv_at hl 0 rfl) ?_
          refine lv_iload_n hx hb d_M_look_151 rfl (lv_at hl 3 rfl) ?_
          refine hp_gov hW (va_runV S (m_stops l g z0 N ad F hN tape kn rt la mm stk ap tc fp me dp 0 ou 2 num be hS (fr + d) (by omega) (by omega)) (cwV 1 hts (tb_V cd_M_stops tq_129 tq_130 tq_131 tq_118) rfl rfl rfl hd_M_stops (rk_ok (by omega) (by omega))) (hp_preV hK hW (by omega) rfl hR.1 rfl) rfl rfl hl.1 rfl (lv_room (Nat.le_of_ble_eq_true rfl)) d_M_look_152 ⟨Nat.zero_le _, Nat.zero_le _⟩) (fun F_8 H locs hw hW => ?_)
          obtain ⟨hS1, hg1⟩ := hw
          obtain ⟨tp, hs, sz, tx, vl, ey, md, hR, ⟨htl, htp⟩, hT, ⟨hll, hvl⟩, hKs, hml0, hmd⟩ := id hS1
          have hX : (md_num true (mC tape rt stk) fr) = (false, false, 0, fr) := by unfold md_num; rw [hend]; exact if_pos (by show fr + d = fr; omega)
          have hd0 : d = 0 := by omega
          subst hd0
          exact hp_retv S hK hW hr hlk d_M_look_155 (by rw [hX]; exact ⟨_, _, _, by rw [pf_n (by show ¬ (if _ then 1 else 7) = 0; split <;> omega)]; exact hS1, (fun z => by cases z), hfr.tr hg1⟩)
      · have c_101i := c_101
        have c_101j := Int32.not_lt.mp c_101
        have c_101i := Int32.not_lt.mp c_101
        refine lv_aload_n hx hb d_M_look_104 rfl (lv_at hl 0 rfl) ?_
        refine lv_aload_n hx hb d_M_look_105 rfl (lv_at hl 0 rfl) ?_
        refine hp_get S hK hW (87) (by omega) rfl hR.1 rfl in_kM 17 (by decide) (hts _ (List.mem_cons_of_mem _ tq_113)) rfl d_M_look_106 ?_
        refine lv_iload hx hb d_M_look_109 (lv_at hl 4 rfl) ?_
        refine lv_if_eq (tgt := 119) hx hb d_M_look_111 (by decide) (fun c_111 => absurd c_111 (show ¬ ((1 : Int32) = 0) from by decide)) (fun c_111 => ?_)
        refine lv_bipush (v := 16) hx hb d_M_look_114 (by decide) ?_
        refine lv_goto (tgt := 121) hx hb d_M_look_116 (by decide) ?_
        refine lv_imul hx hb d_M_look_121 ?_
        refine lv_aload_n hx hb d_M_look_122 rfl (lv_at hl 0 rfl) ?_
        refine lv_iload_n hx hb d_M_look_123 rfl (lv_at hl 3 rfl) ?_
        refine hp_goi hW (va_runV S (m_byteOf l g z0 N ad F hN tape kn rt la mm stk ap tc fp me dp 0 ou 2 num be hS (fr + d) (by omega)) (cwV 1 hts (tb_V cd_M_byteOf tq_124 tq_125 tq_126 tq_118) rfl rfl rfl hd_M_byteOf (rk_ok (by omega) (by omega))) (hp_preV hK hW (by omega) rfl hR.1 rfl) rfl rfl hl.1 rfl (lv_room (Nat.le_of_ble_eq_true rfl)) d_M_look_124 ⟨Nat.zero_le _, Nat.zero_le _⟩) (fun r_9 F_10 H locs hw hW => ?_)
        obtain ⟨hvq, hFq⟩ := hw
        rw [hFq] at hW
        rw [hvq]
        refine lv_iload hx hb d_M_look_127 (lv_at hl 4 rfl) ?_
        refine hp_goi hW (va_runS S (m_digit_1 l g z0 N ad F (md_at (mC tape rt stk) (fr + d))) (va_cwS 2 hts (tb_S cd_M_digit tq_127 tq_128 tq_118) rfl rfl rfl hd_M_digit.2 (rk_ok (by omega) (by omega))) (hp_preS hK hW) rfl rfl hl.1 rfl (lv_room (Nat.le_of_ble_eq_true rfl)) d_M_look_129 ⟨Nat.zero_le _, Nat.zero_le _⟩) (fun r_11 F_12 H locs hw hW => ?_)
        obtain ⟨hvq, hFq⟩ := hw
        rw [hFq] at hW
        rw [hvq]
        refine lv_iadd hx hb d_M_look_132 ?_
        refine hp_put S hK hW (87) (by omega) rfl hR.1 rfl in_kM tyok_M nm_M 17 (by decide) (hts _ (List.mem_cons_of_mem _ tq_113)) rfl rfl rfl (Nat.le_of_ble_eq_true rfl) d_M_look_133 (fun H locs hW => ?_)
        obtain ⟨F_13, eF_13⟩ : ∃ z, z = va_up F (87) (.inr (kM, [.int tc, .ref (ad 88), .int (nI tape.length), .ref (ad 89), .ref (ad 90), .ref (ad 91), .ref (ad 92), .int (nI la.length), .int fp, .int me, .int dp, .int (nI stk.length), .ref (ad 93), .ref (ad 94), .int 0, .int ou, .int 2, .int ((num * 16) + (md_dg true (md_at (mC tape rt stk) (fr + d)))), .int be, .ref (ad 95), .int (nI mm.length)])) := ⟨_, rfl⟩
        replace hW : hp_W g z0 N ad F_13 s.heap H locs := by rw [eF_13]; exact hW
        have f_14 : F_13 (87) = .inr (kM, [.int tc, .ref (ad 88), .int (nI tape.length), .ref (ad 89), .ref (ad 90), .ref (ad 91), .ref (ad 92), .int (nI la.length), .int fp, .int me, .int dp, .int (nI stk.length), .ref (ad 93), .ref (ad 94), .int 0, .int ou, .int 2, .int ((num * 16) + (md_dg true (md_at (mC tape rt stk) (fr + d)))), .int be, .ref (ad 95), .int (nI mm.length)]) := by rw [eF_13, va_up_self]
        have f_15 : F_13 (88) = .inl (g.2 0, 200, .inl tp) := by rw [eF_13, va_up_ne _ _ (by omega)]; exact hR.2.1
        have f_16 : F_13 (89) = .inl (g.2 2, 26, .inl hs) := by rw [eF_13, va_up_ne _ _ (by omega)]; exact hR.2.2.1
        have f_17 : F_13 (90) = .inl (g.2 0, 26, .inl sz) := by rw [eF_13, va_up_ne _ _ (by omega)]; exact hR.2.2.2.1
        have f_18 : F_13 (91) = .inl (g.2 0, 2600, .inl tx) := by rw [eF_13, va_up_ne _ _ (by omega)]; exact hR.2.2.2.2.1
        have f_19 : F_13 (92) = .inl (g.2 0, 301, .inl vl) := by rw [eF_13, va_up_ne _ _ (by omega)]; exact hR.2.2.2.2.2.1
        have f_20 : F_13 (93) = .inl (g.2 0, 28, .inl ey) := by rw [eF_13, va_up_ne _ _ (by omega)]; exact hR.2.2.2.2.2.2.1
        have f_21 : F_13 (94) = .inl (g.2 0, 28, .inl ap) := by rw [eF_13, va_up_ne _ _ (by omega)]; exact hR.2.2.2.2.2.2.2.1
        have f_22 : F_13 (95) = .inl (g.2 0, 204, .inl md) := by rw [eF_13, va_up_ne _ _ (by omega)]; exact hR.2.2.2.2.2.2.2.2
        have hf_23 : mFr F F_13 := fun x hx => by rw [eF_13, va_up_ne _ _ (by omega)]
        refine lv_iinc (v := (nI (d + 1))) (lv' := [(5, .int (nI (d + 1))), (0, .ref (ad 87)), (1, .int (nI q0)), (2, .int x2), (3, .int (nI (fr + d))), (4, .int 1)]) hx hb d_M_look_136 hl (k := 5) rfl ((nI_succ (d)).symm) (by decide) rfl (fun ls hl => ?_)
        refine lv_iinc (v := (nI ((fr + d) + 1))) (lv' := [(3, .int (nI ((fr + d) + 1))), (5, .int (nI (d + 1))), (0, .ref (ad 87)), (1, .int (nI q0)), (2, .int x2), (4, .int 1)]) hx hb d_M_look_139 hl (k := 4) rfl ((nI_succ ((fr + d))).symm) (by decide) rfl (fun ls hl => ?_)
        refine lv_goto (tgt := 84) hx hb d_M_look_142 (by decide) ?_
        exact ih (d + 1) _ F_13 (by omega) (by omega) ⟨tp, hs, sz, tx, vl, ey, md, ⟨f_14, f_15, f_16, f_17, f_18, f_19, f_20, f_21, f_22⟩, ⟨htl, htp⟩, hT, ⟨hll, hvl⟩, hKs, hml0, hmd⟩ (by rw [hD, show 6 - d = (6 - (d + 1)) + 1 by omega, dgs_go c_101i]; rfl) (hfr.tr hf_23) H locs ls hW (lv_sub hl [2, 3, 4, 0, 5, 1] rfl)

/-! the reference: look, its digits -/
set_option maxHeartbeats 400000 in
set_option maxRecDepth 100000 in
theorem lp_look_0 {p : Program} {e : Env} {s : State} {m : MethodId} {args : Array Value} {below : List Frame} {meth : Method} {c : Code} (l : Launch) (g : hp_G) (z0 N : Nat) (ad : Nat → Nat)  (hN : 96 ≤ N) (tape : List Int32) (kn : Nat → Bool) (rt : Nat → List Int32) (la mm : List Int32) (stk : List Nat) (ap : Nat → Int32) (tc fp me dp ou be : Int32) (q0 fr : Nat) (hq0 : q0 < 900) (hfr0 : fr < 900) (x2 : Int32) (Fz : Nat → va_E) (S : CallFix p m c cc_M_look 6 s args ws_M_look R_M) (hr : meth.sig.returnType = none) (hlk : meth.locks = false) (hK : hp_K g s) : ∀ (j : Nat) (d : Nat) (num : Int32) (F : Nat → va_E), d ≤ 6 → 7 ≤ d + j → mS g ad F tape kn rt la mm stk ap tc fp me dp 0 ou 2 num be → (md_dgs false (mC tape rt stk) 6 fr 0) = md_dgs false (mC tape rt stk) (6 - d) (fr + d) num → mFr Fz F → ∀ (H : Heap) (locs : List Loc) (ls : Array Slot), hp_W g z0 N ad F s.heap H locs → lv_has ls 6 [(0, .ref (ad 87)), (1, .int (nI q0)), (2, .int x2), (3, .int (nI (fr + d))), (4, .int 0), (5, .int (nI d))] → W p l e (rk 2) s m args below meth c H locs 0 0 (MQ below (va_Qv (LK g ad Fz tape kn rt la mm stk ap tc fp me dp ou q0 (md_num false (mC tape rt stk) fr)) (hp_B g z0 N ad) (hp_A z0)) args s 0 0 (hp_A z0)) (F0 m 84 ls []) := by
  obtain ⟨hx, hb, hml, hown, hts⟩ := id S
  have in_kM : ∀ w ∈ u_ws R_M T_M 21, w ∈ ws_M_look := fun w h => List.mem_cons_of_mem _ (in0_M w h)
  intro j
  induction j with
  | zero =>
    intro d num F hd hj hS hD hfr H locs ls hW hl
    exact absurd hj (by omega)
  | succ j ih =>
    intro d num F hd hj hS hD hfr H locs ls hW hl
    have hcl := hS.cl
    obtain ⟨tp, hs, sz, tx, vl, ey, md, hR, ⟨htl, htp⟩, hT, ⟨hll, hvl⟩, hKs, hml0, hmd⟩ := id hS
    refine lv_iload hx hb d_M_look_84 (lv_at hl 5 rfl) ?_
    refine lv_bipush (v := 6) hx hb d_M_look_86 (by decide) ?_
    refine lv_icmp_ge (tgt := 145) hx hb d_M_look_88 (by decide) (fun c_88 => ?_) (fun c_88 => ?_)
    · have c_88i := c_88
      replace c_88 : 6 ≤ d := (nI_leI (a := 6) (b := d) (by omega) (by omega)).mp c_88
      have hend : (md_dgs false (mC tape rt stk) 6 fr 0) = (fr + d, num) := by rw [hD, show 6 - d = 0 by omega]; rfl
      refine lv_iload hx hb d_M_look_145 (lv_at hl 5 rfl) ?_
      refine lv_if_ne (tgt := 156) hx hb d_M_look_147 (by decide) (fun c_147 => ?_) (fun c_147 => ?_)
      · have c_147i := c_147
        replace c_147 : ¬ d = 0 := fun zz9 => c_147 ((nI_eq (a := d) (b := 0) (by omega) (by omega)).mpr zz9)
        refine lv_goto (tgt := 167) hx hb d_M_look_156 (by decide) ?_
        have hX : (md_num false (mC tape rt stk) fr) = md_cl (mC tape rt stk) false num (fr + d) := by unfold md_num; rw [hend]; exact if_neg (by show ¬ fr + d = fr; omega)
        rw [hX]
        exact tl_look_2 l g z0 N ad F hN tape kn rt la mm stk ap tc fp me dp ou num be hS q0 (fr + d) (by omega) (by omega) Fz hfr S hr hlk hK H locs ls hW (lv_sub hl [0, 1, 3] rfl)
      · have c_147i := c_147
        replace c_147 : d = 0 := (nI_eq (a := d) (b := 0) (by omega) (by omega)).mp c_147
        refine lv_aload_n hx hb d_M_look_150 rfl (lv_at hl 0 rfl) ?_
        refine lv_iload_n hx hb d_M_look_151 rfl (lv_at hl 3 rfl) ?_
        refine hp_gov hW (va_runV S (m_stops l g z0 N ad F hN tape kn rt la mm stk ap tc fp me dp 0 ou 2 num be hS (fr + d) (by omega) (by omega)) (cwV 1 hts (tb_V cd_M_stops tq_129 tq_130 tq_131 tq_118) rfl rfl rfl hd_M_stops (rk_ok (by omega) (by omega))) (hp_preV hK hW (by omega) rfl hR.1 rfl) rfl rfl hl.1 rfl (lv_room (Nat.le_of_ble_eq_true rfl)) d_M_look_152 ⟨Nat.zero_le _, Nat.zero_le _⟩) (fun F_2 H locs hw hW => ?_)
        obtain ⟨hS1, hg1⟩ := hw
        obtain ⟨tp, hs, sz, tx, vl, ey, md, hR, ⟨htl, htp⟩, hT, ⟨hll, hvl⟩, hKs, hml0, hmd⟩ := id hS1
        have hX : (md_num false (mC tape rt stk) fr) = (false, false, 0, fr) := by unfold md_num; rw [hend]; exact if_pos (by show fr + d = fr; omega)
        have hd0 : d = 0 := by omega
        subst hd0
        exact hp_retv S hK hW hr hlk d_M_look_155 (by rw [hX]; exact ⟨_, _, _, by rw [pf_n (by show ¬ (if _ then 1 else 7) = 0; split <;> omega)]; exact hS1, (fun z => by cases z), hfr.tr hg1⟩)
    · have c_88i := c_88
      replace c_88 : ¬ 6 ≤ d := fun zz9 => c_88 ((nI_leI (a := 6) (b := d) (by omega) (by omega)).mpr zz9)
      refine lv_aload_n hx hb d_M_look_91 rfl (lv_at hl 0 rfl) ?_
      refine lv_iload_n hx hb d_M_look_92 rfl (lv_at hl 3 rfl) ?_
      refine hp_goi hW (va_runV S (m_byteOf l g z0 N ad F hN tape kn rt la mm stk ap tc fp me dp 0 ou 2 num be hS (fr + d) (by omega)) (cwV 1 hts (tb_V cd_M_byteOf tq_124 tq_125 tq_126 tq_118) rfl rfl rfl hd_M_byteOf (rk_ok (by omega) (by omega))) (hp_preV hK hW (by omega) rfl hR.1 rfl) rfl rfl hl.1 rfl (lv_room (Nat.le_of_ble_eq_true rfl)) d_M_look_93 ⟨Nat.zero_le _, Nat.zero_le _⟩) (fun r_3 F_4 H locs hw hW => ?_)
      obtain ⟨hvq, hFq⟩ := hw
      rw [hFq] at hW
      rw [hvq]
      refine lv_iload hx hb d_M_look_96 (lv_at hl 4 rfl) ?_
      refine hp_goi hW (va_runS S (m_digit_0 l g z0 N ad F (md_at (mC tape rt stk) (fr + d))) (va_cwS 2 hts (tb_S cd_M_digit tq_127 tq_128 tq_118) rfl rfl rfl hd_M_digit.2 (rk_ok (by omega) (by omega))) (hp_preS hK hW) rfl rfl hl.1 rfl (lv_room (Nat.le_of_ble_eq_true rfl)) d_M_look_98 ⟨Nat.zero_le _, Nat.zero_le _⟩) (fun r_5 F_6 H locs hw hW => ?_)
      obtain ⟨hvq, hFq⟩ := hw
      rw [hFq] at hW
      rw [hvq]
      refine lv_if_lt (tgt := 145) hx hb d_M_look_101 (by decide) (fun c_101 => ?_) (fun c_101 => ?_)
      · have c_101i := c_101
        have c_101j := Int32.not_le.mpr c_101
        have hend : (md_dgs false (mC tape rt stk) 6 fr 0) = (fr + d, num) := by rw [hD]; exact dgs_end (Int32.not_le.mpr c_101)
        refine lv_iload hx hb d_M_look_145 (lv_at hl 5 rfl) ?_
        refine lv_if_ne (tgt := 156) hx hb d_M_look_147 (by decide) (fun c_147 => ?_) (fun c_147 => ?_)
        · have c_147i := c_147
          replace c_147 : ¬ d = 0 := fun zz9 => c_147 ((nI_eq (a := d) (b := 0) (by omega) (by omega)).mpr zz9)
          refine lv_goto (tgt := 167) hx hb d_M_look_156 (by decide) ?_
          have hX : (md_num false (mC tape rt stk) fr) = md_cl (mC tape rt stk) false num (fr + d) := by unfold md_num; rw [hend]; exact if_neg (by show ¬ fr + d = fr; omega)
          rw [hX]
          exact tl_look_2 l g z0 N ad F hN tape kn rt la mm stk ap tc fp me dp ou num be hS q0 (fr + d) (by omega) (by omega) Fz hfr S hr hlk hK H locs ls hW (lv_sub hl [0, 1, 3] rfl)
        · have c_147i := c_147
          replace c_147 : d = 0 := (nI_eq (a := d) (b := 0) (by omega) (by omega)).mp c_147
          refine lv_aload_n hx hb d_M_look_150 rfl (lv_at hl 0 rfl) ?_
          refine lv_iload_n hx hb d_M_look_151 rfl (lv_at hl 3 rfl) ?_
          refine hp_gov hW (va_runV S (m_stops l g z0 N ad F hN tape kn rt la mm stk ap tc fp me dp 0 ou 2 num be hS (fr + d) (by omega) (by omega)) (cwV 1 hts (tb_V cd_M_stops tq_129 tq_130 tq_131 tq_118) rfl rfl rfl hd_M_stops (rk_ok (by omega) (by omega))) (hp_preV hK hW (by omega) rfl hR.1 rfl) rfl rfl hl.1 rfl (lv_room (Nat.le_of_ble_eq_true rfl)) d_M_look_152 ⟨Nat.zero_le _, Nat.zero_le _⟩) (fun F_8 H locs hw hW => ?_)
          obtain ⟨hS1, hg1⟩ := hw
          obtain ⟨tp, hs, sz, tx, vl, ey, md, hR, ⟨htl, htp⟩, hT, ⟨hll, hvl⟩, hKs, hml0, hmd⟩ := id hS1
          have hX : (md_num false (mC tape rt stk) fr) = (false, false, 0, fr) := by unfold md_num; rw [hend]; exact if_pos (by show fr + d = fr; omega)
          have hd0 : d = 0 := by omega
          subst hd0
          exact hp_retv S hK hW hr hlk d_M_look_155 (by rw [hX]; exact ⟨_, _, _, by rw [pf_n (by show ¬ (if _ then 1 else 7) = 0; split <;> omega)]; exact hS1, (fun z => by cases z), hfr.tr hg1⟩)
      · have c_101i := c_101
        have c_101j := Int32.not_lt.mp c_101
        have c_101i := Int32.not_lt.mp c_101
        refine lv_aload_n hx hb d_M_look_104 rfl (lv_at hl 0 rfl) ?_
        refine lv_aload_n hx hb d_M_look_105 rfl (lv_at hl 0 rfl) ?_
        refine hp_get S hK hW (87) (by omega) rfl hR.1 rfl in_kM 17 (by decide) (hts _ (List.mem_cons_of_mem _ tq_113)) rfl d_M_look_106 ?_
        refine lv_iload hx hb d_M_look_109 (lv_at hl 4 rfl) ?_
        refine lv_if_eq (tgt := 119) hx hb d_M_look_111 (by decide) (fun c_111 => ?_) (fun c_111 => absurd (show (0 : Int32) = 0 from by decide) c_111)
        refine lv_bipush (v := 10) hx hb d_M_look_119 (by decide) ?_
        refine lv_imul hx hb d_M_look_121 ?_
        refine lv_aload_n hx hb d_M_look_122 rfl (lv_at hl 0 rfl) ?_
        refine lv_iload_n hx hb d_M_look_123 rfl (lv_at hl 3 rfl) ?_
        refine hp_goi hW (va_runV S (m_byteOf l g z0 N ad F hN tape kn rt la mm stk ap tc fp me dp 0 ou 2 num be hS (fr + d) (by omega)) (cwV 1 hts (tb_V cd_M_byteOf tq_124 tq_125 tq_126 tq_118) rfl rfl rfl hd_M_byteOf (rk_ok (by omega) (by omega))) (hp_preV hK hW (by omega) rfl hR.1 rfl) rfl rfl hl.1 rfl (lv_room (Nat.le_of_ble_eq_true rfl)) d_M_look_124 ⟨Nat.zero_le _, Nat.zero_le _⟩) (fun r_9 F_10 H locs hw hW => ?_)
        obtain ⟨hvq, hFq⟩ := hw
        rw [hFq] at hW
        rw [hvq]
        refine lv_iload hx hb d_M_look_127 (lv_at hl 4 rfl) ?_
        refine hp_goi hW (va_runS S (m_digit_0 l g z0 N ad F (md_at (mC tape rt stk) (fr + d))) (va_cwS 2 hts (tb_S cd_M_digit tq_127 tq_128 tq_118) rfl rfl rfl hd_M_digit.2 (rk_ok (by omega) (by omega))) (hp_preS hK hW) rfl rfl hl.1 rfl (lv_room (Nat.le_of_ble_eq_true rfl)) d_M_look_129 ⟨Nat.zero_le _, Nat.zero_le _⟩) (fun r_11 F_12 H locs hw hW => ?_)
        obtain ⟨hvq, hFq⟩ := hw
        rw [hFq] at hW
        rw [hvq]
        refine lv_iadd hx hb d_M_look_132 ?_
        refine hp_put S hK hW (87) (by omega) rfl hR.1 rfl in_kM tyok_M nm_M 17 (by decide) (hts _ (List.mem_cons_of_mem _ tq_113)) rfl rfl rfl (Nat.le_of_ble_eq_true rfl) d_M_look_133 (fun H locs hW => ?_)
        obtain ⟨F_13, eF_13⟩ : ∃ z, z = va_up F (87) (.inr (kM, [.int tc, .ref (ad 88), .int (nI tape.length), .ref (ad 89), .ref (ad 90), .ref (ad 91), .ref (ad 92), .int (nI la.length), .int fp, .int me, .int dp, .int (nI stk.length), .ref (ad 93), .ref (ad 94), .int 0, .int ou, .int 2, .int ((num * 10) + (md_dg false (md_at (mC tape rt stk) (fr + d)))), .int be, .ref (ad 95), .int (nI mm.length)])) := ⟨_, rfl⟩
        replace hW : hp_W g z0 N ad F_13 s.heap H locs := by rw [eF_13]; exact hW
        have f_14 : F_13 (87) = .inr (kM, [.int tc, .ref (ad 88), .int (nI tape.length), .ref (ad 89), .ref (ad 90), .ref (ad 91), .ref (ad 92), .int (nI la.length), .int fp, .int me, .int dp, .int (nI stk.length), .ref (ad 93), .ref (ad 94), .int 0, .int ou, .int 2, .int ((num * 10) + (md_dg false (md_at (mC tape rt stk) (fr + d)))), .int be, .ref (ad 95), .int (nI mm.length)]) := by rw [eF_13, va_up_self]
        have f_15 : F_13 (88) = .inl (g.2 0, 200, .inl tp) := by rw [eF_13, va_up_ne _ _ (by omega)]; exact hR.2.1
        have f_16 : F_13 (89) = .inl (g.2 2, 26, .inl hs) := by rw [eF_13, va_up_ne _ _ (by omega)]; exact hR.2.2.1
        have f_17 : F_13 (90) = .inl (g.2 0, 26, .inl sz) := by rw [eF_13, va_up_ne _ _ (by omega)]; exact hR.2.2.2.1
        have f_18 : F_13 (91) = .inl (g.2 0, 2600, .inl tx) := by rw [eF_13, va_up_ne _ _ (by omega)]; exact hR.2.2.2.2.1
        have f_19 : F_13 (92) = .inl (g.2 0, 301, .inl vl) := by rw [eF_13, va_up_ne _ _ (by omega)]; exact hR.2.2.2.2.2.1
        have f_20 : F_13 (93) = .inl (g.2 0, 28, .inl ey) := by rw [eF_13, va_up_ne _ _ (by omega)]; exact hR.2.2.2.2.2.2.1
        have f_21 : F_13 (94) = .inl (g.2 0, 28, .inl ap) := by rw [eF_13, va_up_ne _ _ (by omega)]; exact hR.2.2.2.2.2.2.2.1
        have f_22 : F_13 (95) = .inl (g.2 0, 204, .inl md) := by rw [eF_13, va_up_ne _ _ (by omega)]; exact hR.2.2.2.2.2.2.2.2
        have hf_23 : mFr F F_13 := fun x hx => by rw [eF_13, va_up_ne _ _ (by omega)]
        refine lv_iinc (v := (nI (d + 1))) (lv' := [(5, .int (nI (d + 1))), (0, .ref (ad 87)), (1, .int (nI q0)), (2, .int x2), (3, .int (nI (fr + d))), (4, .int 0)]) hx hb d_M_look_136 hl (k := 5) rfl ((nI_succ (d)).symm) (by decide) rfl (fun ls hl => ?_)
        refine lv_iinc (v := (nI ((fr + d) + 1))) (lv' := [(3, .int (nI ((fr + d) + 1))), (5, .int (nI (d + 1))), (0, .ref (ad 87)), (1, .int (nI q0)), (2, .int x2), (4, .int 0)]) hx hb d_M_look_139 hl (k := 4) rfl ((nI_succ ((fr + d))).symm) (by decide) rfl (fun ls hl => ?_)
        refine lv_goto (tgt := 84) hx hb d_M_look_142 (by decide) ?_
        exact ih (d + 1) _ F_13 (by omega) (by omega) ⟨tp, hs, sz, tx, vl, ey, md, ⟨f_14, f_15, f_16, f_17, f_18, f_19, f_20, f_21, f_22⟩, ⟨htl, htp⟩, hT, ⟨hll, hvl⟩, hKs, hml0, hmd⟩ (by rw [hD, show 6 - d = (6 - (d + 1)) + 1 by omega, dgs_go c_101i]; rfl) (hfr.tr hf_23) H locs ls hW (lv_sub hl [2, 3, 4, 0, 5, 1] rfl)

/-! the reference: look -/
set_option maxHeartbeats 400000 in
set_option maxRecDepth 100000 in
theorem m_look (l : Launch) (g : hp_G) (z0 N : Nat) (ad : Nat → Nat) (F : Nat → va_E) (hN : 96 ≤ N) (tape : List Int32) (kn : Nat → Bool) (rt : Nat → List Int32) (la mm : List Int32) (stk : List Nat) (ap : Nat → Int32) (tc fp me dp ou ki nu be : Int32) (hS : mS g ad F tape kn rt la mm stk ap tc fp me dp 0 ou ki nu be) (q0 : Nat) (hq0 : q0 < 800) : hp_Mv l g z0 N ad y_M_look ws_M_look (rk 2) [.ref (ad 87), .int (nI q0)] F (LK g ad F tape kn rt la mm stk ap tc fp me dp ou q0 (md_ref (mC tape rt stk) q0)) := by
  have hcl := hS.cl
  obtain ⟨tp, hs, sz, tx, vl, ey, md, hR, ⟨htl, htp⟩, hT, ⟨hll, hvl⟩, hKs, hml0, hmd⟩ := id hS
  refine hp_enter (cc := cc_M_look) (maxL := 6) (ret := none) (by decide) rfl (Nat.le_of_ble_eq_true rfl) ?_
  intro p e s m below meth c S hr hlk hnm hK hW ls hl
  have hl : lv_has ls 6 [(0, .ref (ad 87)), (1, .int (nI q0))] := hl
  obtain ⟨hx, hb, hml, hown, hts⟩ := id S
  have in_kM : ∀ w ∈ u_ws R_M T_M 21, w ∈ ws_M_look := fun w h => List.mem_cons_of_mem _ (in0_M w h)
  refine lv_aload_n hx hb d_M_look_0 rfl (lv_at hl 0 rfl) ?_
  refine lv_iload_n hx hb d_M_look_1 rfl (lv_at hl 1 rfl) ?_
  refine lv_iconst (v := 1) hx hb d_M_look_2 (by decide) ?_
  refine lv_iadd hx hb d_M_look_3 ?_
  rw [show ((nI q0) + 1) = (nI (q0 + 1)) from (nI_succ q0).symm]
  refine hp_goi hW (va_runV S (m_byteOf l g z0 N ad F hN tape kn rt la mm stk ap tc fp me dp 0 ou ki nu be hS (q0 + 1) (by omega)) (cwV 1 hts (tb_V cd_M_byteOf tq_124 tq_125 tq_126 tq_118) rfl rfl rfl hd_M_byteOf (rk_ok (by omega) (by omega))) (hp_preV hK hW (by omega) rfl hR.1 rfl) rfl rfl hl.1 rfl (lv_room (Nat.le_of_ble_eq_true rfl)) d_M_look_4 ⟨Nat.zero_le _, Nat.zero_le _⟩) (fun r_1 F_2 H locs hw hW => ?_)
  obtain ⟨hvq, hFq⟩ := hw
  rw [hFq] at hW
  rw [hvq]
  refine lv_istore_n (lv' := [(2, .int (md_at (mC tape rt stk) (q0 + 1))), (0, .ref (ad 87)), (1, .int (nI q0))]) hx hb d_M_look_7 rfl hl (by decide) rfl (fun ls hl => ?_)
  refine lv_iload_n hx hb d_M_look_8 rfl (lv_at hl 2 rfl) ?_
  refine lv_iconst (v := 2) hx hb d_M_look_9 (by decide) ?_
  refine lv_iadd hx hb d_M_look_10 ?_
  rw [show ((nI q0) + 2) = (nI (q0 + 2)) from nI_add q0 2]
  refine lv_istore_n (lv' := [(3, .int (nI (q0 + 2))), (2, .int (md_at (mC tape rt stk) (q0 + 1))), (0, .ref (ad 87)), (1, .int (nI q0))]) hx hb d_M_look_11 rfl hl (by decide) rfl (fun ls hl => ?_)
  refine lv_iload_n hx hb d_M_look_12 rfl (lv_at hl 1 rfl) ?_
  refine lv_bipush (v := 97) hx hb d_M_look_13 (by decide) ?_
  refine lv_icmp_lt (tgt := 40) hx hb d_M_look_15 (by decide) (fun c_15 => ?_) (fun c_15 => ?_)
  · have c_15i := c_15
    have c_15j := Int32.not_le.mpr c_15
    refine lv_iload_n hx hb d_M_look_40 rfl (lv_at hl 1 rfl) ?_
    refine lv_bipush (v := 35) hx hb d_M_look_41 (by decide) ?_
    refine lv_icmp_ne (tgt := 159) hx hb d_M_look_43 (by decide) (fun c_43 => ?_) (fun c_43 => ?_)
    · have c_43i := c_43
      refine lv_aload_n hx hb d_M_look_159 rfl (lv_at hl 2 rfl) ?_
      refine lv_iload_n hx hb d_M_look_160 rfl (lv_at hl 3 rfl) ?_
      refine lv_iconst (v := 1) hx hb d_M_look_161 (by decide) ?_
      refine lv_iadd hx hb d_M_look_162 ?_
      rw [show ((nI q0) + 1) = (nI (q0 + 1)) from (nI_succ q0).symm]
      refine hp_gov hW (va_runV S (m_stops l g z0 N ad F hN tape kn rt la mm stk ap tc fp me dp 0 ou ki nu be hS (q0 + 1) (by omega) (by omega)) (cwV 1 hts (tb_V cd_M_stops tq_129 tq_130 tq_131 tq_118) rfl rfl rfl hd_M_stops (rk_ok (by omega) (by omega))) (hp_preV hK hW (by omega) rfl hR.1 rfl) rfl rfl hl.1 rfl (lv_room (Nat.le_of_ble_eq_true rfl)) d_M_look_163 ⟨Nat.zero_le _, Nat.zero_le _⟩) (fun F_4 H locs hw hW => ?_)
      obtain ⟨hS1, hg1⟩ := hw
      obtain ⟨tp, hs, sz, tx, vl, ey, md, hR, ⟨htl, htp⟩, hT, ⟨hll, hvl⟩, hKs, hml0, hmd⟩ := id hS1
      have hX : (md_ref (mC tape rt stk) q0) = (false, true, 0, q0 + 1) := (if_neg c_43i).trans (if_neg (fun h => by first | exact absurd c_15i (Int32.not_lt.mpr h.1) | exact absurd c_21i (Int32.not_lt.mpr h.2)))
      exact hp_retv S hK hW hr hlk d_M_look_166 (by rw [hX]; exact ⟨_, _, _, by rw [pf_n (by show ¬ (if _ then 1 else 7) = 0; split <;> omega)]; exact hS1, (fun z => by cases z), hg1⟩)
    · have c_43i := c_43
      refine lv_aload_n hx hb d_M_look_46 rfl (lv_at hl 2 rfl) ?_
      refine lv_iconst (v := 2) hx hb d_M_look_47 (by decide) ?_
      refine hp_put S hK hW (87) (by omega) rfl hR.1 rfl in_kM tyok_M nm_M 16 (by decide) (hts _ (List.mem_cons_of_mem _ tq_112)) rfl rfl rfl (Nat.le_of_ble_eq_true rfl) d_M_look_48 (fun H locs hW => ?_)
      obtain ⟨F_5, eF_5⟩ : ∃ z, z = va_up F (87) (.inr (kM, [.int tc, .ref (ad 88), .int (nI tape.length), .ref (ad 89), .ref (ad 90), .ref (ad 91), .ref (ad 92), .int (nI la.length), .int fp, .int me, .int dp, .int (nI stk.length), .ref (ad 93), .ref (ad 94), .int 0, .int ou, .int 2, .int nu, .int be, .ref (ad 95), .int (nI mm.length)])) := ⟨_, rfl⟩
      replace hW : hp_W g z0 N ad F_5 s.heap H locs := by rw [eF_5]; exact hW
      have f_6 : F_5 (87) = .inr (kM, [.int tc, .ref (ad 88), .int (nI tape.length), .ref (ad 89), .ref (ad 90), .ref (ad 91), .ref (ad 92), .int (nI la.length), .int fp, .int me, .int dp, .int (nI stk.length), .ref (ad 93), .ref (ad 94), .int 0, .int ou, .int 2, .int nu, .int be, .ref (ad 95), .int (nI mm.length)]) := by rw [eF_5, va_up_self]
      have f_7 : F_5 (88) = .inl (g.2 0, 200, .inl tp) := by rw [eF_5, va_up_ne _ _ (by omega)]; exact hR.2.1
      have f_8 : F_5 (89) = .inl (g.2 2, 26, .inl hs) := by rw [eF_5, va_up_ne _ _ (by omega)]; exact hR.2.2.1
      have f_9 : F_5 (90) = .inl (g.2 0, 26, .inl sz) := by rw [eF_5, va_up_ne _ _ (by omega)]; exact hR.2.2.2.1
      have f_10 : F_5 (91) = .inl (g.2 0, 2600, .inl tx) := by rw [eF_5, va_up_ne _ _ (by omega)]; exact hR.2.2.2.2.1
      have f_11 : F_5 (92) = .inl (g.2 0, 301, .inl vl) := by rw [eF_5, va_up_ne _ _ (by omega)]; exact hR.2.2.2.2.2.1
      have f_12 : F_5 (93) = .inl (g.2 0, 28, .inl ey) := by rw [eF_5, va_up_ne _ _ (by omega)]; exact hR.2.2.2.2.2.2.1
      have f_13 : F_5 (94) = .inl (g.2 0, 28, .inl ap) := by rw [eF_5, va_up_ne _ _ (by omega)]; exact hR.2.2.2.2.2.2.2.1
      have f_14 : F_5 (95) = .inl (g.2 0, 204, .inl md) := by rw [eF_5, va_up_ne _ _ (by omega)]; exact hR.2.2.2.2.2.2.2.2
      have hf_15 : mFr F F_5 := fun x hx => by rw [eF_5, va_up_ne _ _ (by omega)]
      refine lv_aload_n hx hb d_M_look_51 rfl (lv_at hl 2 rfl) ?_
      refine lv_iload_n hx hb d_M_look_52 rfl (lv_at hl 0 rfl) ?_
      have hSk : mS g ad F_5 tape kn rt la mm stk ap tc fp me dp 0 ou 2 nu be := ⟨tp, hs, sz, tx, vl, ey, md, ⟨f_6, f_7, f_8, f_9, f_10, f_11, f_12, f_13, f_14⟩, ⟨htl, htp⟩, hT, ⟨hll, hvl⟩, hKs, hml0, hmd⟩
      refine hp_goi hW (va_runV S (m_byteOf l g z0 N ad F_5 hN tape kn rt la mm stk ap tc fp me dp 0 ou 2 nu be hSk (q0 + 2) (by omega)) (cwV 1 hts (tb_V cd_M_byteOf tq_124 tq_125 tq_126 tq_118) rfl rfl rfl hd_M_byteOf (rk_ok (by omega) (by omega))) (hp_preV hK hW (by omega) rfl f_6 rfl) rfl rfl hl.1 rfl (lv_room (Nat.le_of_ble_eq_true rfl)) d_M_look_53 ⟨Nat.zero_le _, Nat.zero_le _⟩) (fun r_16 F_17 H locs hw hW => ?_)
      obtain ⟨hvq, hFq⟩ := hw
      rw [hFq] at hW
      rw [hvq]
      refine lv_bipush (v := 120) hx hb d_M_look_56 (by decide) ?_
      refine lv_icmp_ne (tgt := 65) hx hb d_M_look_58 (by decide) (fun c_58 => ?_) (fun c_58 => ?_)
      · have c_58i := c_58
        refine lv_iconst (v := 0) hx hb d_M_look_65 (by decide) ?_
        refine lv_istore (lv' := [(4, .int 0), (3, .int (nI (q0 + 2))), (2, .int (md_at (mC tape rt stk) (q0 + 1))), (0, .ref (ad 87)), (1, .int (nI q0))]) hx hb d_M_look_66 hl (by decide) rfl (fun ls hl => ?_)
        refine lv_iload hx hb d_M_look_68 (lv_at hl 0 rfl) ?_
        refine lv_if_eq (tgt := 76) hx hb d_M_look_70 (by decide) (fun c_70 => ?_) (fun c_70 => absurd (show (0 : Int32) = 0 from by decide) c_70)
        refine lv_iconst (v := 0) hx hb d_M_look_76 (by decide) ?_
        refine lv_istore (lv' := [(5, .int 0), (4, .int 0), (3, .int (nI (q0 + 2))), (2, .int (md_at (mC tape rt stk) (q0 + 1))), (0, .ref (ad 87)), (1, .int (nI q0))]) hx hb d_M_look_77 hl (by decide) rfl (fun ls hl => ?_)
        refine lv_aload_n hx hb d_M_look_79 rfl (lv_at hl 4 rfl) ?_
        refine lv_iconst (v := 0) hx hb d_M_look_80 (by decide) ?_
        refine hp_put S hK hW (87) (by omega) rfl f_6 rfl in_kM tyok_M nm_M 17 (by decide) (hts _ (List.mem_cons_of_mem _ tq_113)) rfl rfl rfl (Nat.le_of_ble_eq_true rfl) d_M_look_81 (fun H locs hW => ?_)
        obtain ⟨F_18, eF_18⟩ : ∃ z, z = va_up F_5 (87) (.inr (kM, [.int tc, .ref (ad 88), .int (nI tape.length), .ref (ad 89), .ref (ad 90), .ref (ad 91), .ref (ad 92), .int (nI la.length), .int fp, .int me, .int dp, .int (nI stk.length), .ref (ad 93), .ref (ad 94), .int 0, .int ou, .int 2, .int 0, .int be, .ref (ad 95), .int (nI mm.length)])) := ⟨_, rfl⟩
        replace hW : hp_W g z0 N ad F_18 s.heap H locs := by rw [eF_18]; exact hW
        have f_19 : F_18 (87) = .inr (kM, [.int tc, .ref (ad 88), .int (nI tape.length), .ref (ad 89), .ref (ad 90), .ref (ad 91), .ref (ad 92), .int (nI la.length), .int fp, .int me, .int dp, .int (nI stk.length), .ref (ad 93), .ref (ad 94), .int 0, .int ou, .int 2, .int 0, .int be, .ref (ad 95), .int (nI mm.length)]) := by rw [eF_18, va_up_self]
        have f_20 : F_18 (88) = .inl (g.2 0, 200, .inl tp) := by rw [eF_18, va_up_ne _ _ (by omega)]; exact f_7
        have f_21 : F_18 (89) = .inl (g.2 2, 26, .inl hs) := by rw [eF_18, va_up_ne _ _ (by omega)]; exact f_8
        have f_22 : F_18 (90) = .inl (g.2 0, 26, .inl sz) := by rw [eF_18, va_up_ne _ _ (by omega)]; exact f_9
        have f_23 : F_18 (91) = .inl (g.2 0, 2600, .inl tx) := by rw [eF_18, va_up_ne _ _ (by omega)]; exact f_10
        have f_24 : F_18 (92) = .inl (g.2 0, 301, .inl vl) := by rw [eF_18, va_up_ne _ _ (by omega)]; exact f_11
        have f_25 : F_18 (93) = .inl (g.2 0, 28, .inl ey) := by rw [eF_18, va_up_ne _ _ (by omega)]; exact f_12
        have f_26 : F_18 (94) = .inl (g.2 0, 28, .inl ap) := by rw [eF_18, va_up_ne _ _ (by omega)]; exact f_13
        have f_27 : F_18 (95) = .inl (g.2 0, 204, .inl md) := by rw [eF_18, va_up_ne _ _ (by omega)]; exact f_14
        have hf_28 : mFr F_5 F_18 := fun x hx => by rw [eF_18, va_up_ne _ _ (by omega)]
        have hh : md_hex (mC tape rt stk) q0 = false := decide_eq_false c_58i
        have hq3 : md_from (mC tape rt stk) q0 = (q0 + 2) := by unfold md_from; rw [hh]; rfl
        have hX : (md_ref (mC tape rt stk) q0) = md_num false (mC tape rt stk) (q0 + 2) := (if_pos c_43i).trans (by rw [hh, hq3])
        rw [hX]
        exact lp_look_0 l g z0 N ad hN tape kn rt la mm stk ap tc fp me dp ou be q0 (q0 + 2) (by omega) (by omega) _ F S hr hlk hK 7 0 0 F_18 (by omega) (by omega) ⟨tp, hs, sz, tx, vl, ey, md, ⟨f_19, f_20, f_21, f_22, f_23, f_24, f_25, f_26, f_27⟩, ⟨htl, htp⟩, hT, ⟨hll, hvl⟩, hKs, hml0, hmd⟩ rfl (hf_15.tr hf_28) _ _ ls hW (lv_sub hl [4, 5, 3, 2, 1, 0] rfl)
      · have c_58i := c_58
        refine lv_iconst (v := 1) hx hb d_M_look_61 (by decide) ?_
        refine lv_goto (tgt := 66) hx hb d_M_look_62 (by decide) ?_
        refine lv_istore (lv' := [(4, .int 1), (3, .int (nI (q0 + 2))), (2, .int (md_at (mC tape rt stk) (q0 + 1))), (0, .ref (ad 87)), (1, .int (nI q0))]) hx hb d_M_look_66 hl (by decide) rfl (fun ls hl => ?_)
        refine lv_iload hx hb d_M_look_68 (lv_at hl 0 rfl) ?_
        refine lv_if_eq (tgt := 76) hx hb d_M_look_70 (by decide) (fun c_70 => absurd c_70 (show ¬ ((1 : Int32) = 0) from by decide)) (fun c_70 => ?_)
        refine lv_iinc (v := (nI ((q0 + 2) + 1))) (lv' := [(3, .int (nI ((q0 + 2) + 1))), (4, .int 1), (2, .int (md_at (mC tape rt stk) (q0 + 1))), (0, .ref (ad 87)), (1, .int (nI q0))]) hx hb d_M_look_73 hl (k := 1) rfl ((nI_succ ((q0 + 2))).symm) (by decide) rfl (fun ls hl => ?_)
        refine lv_iconst (v := 0) hx hb d_M_look_76 (by decide) ?_
        refine lv_istore (lv' := [(5, .int 0), (3, .int (nI ((q0 + 2) + 1))), (4, .int 1), (2, .int (md_at (mC tape rt stk) (q0 + 1))), (0, .ref (ad 87)), (1, .int (nI q0))]) hx hb d_M_look_77 hl (by decide) rfl (fun ls hl => ?_)
        refine lv_aload_n hx hb d_M_look_79 rfl (lv_at hl 4 rfl) ?_
        refine lv_iconst (v := 0) hx hb d_M_look_80 (by decide) ?_
        refine hp_put S hK hW (87) (by omega) rfl f_6 rfl in_kM tyok_M nm_M 17 (by decide) (hts _ (List.mem_cons_of_mem _ tq_113)) rfl rfl rfl (Nat.le_of_ble_eq_true rfl) d_M_look_81 (fun H locs hW => ?_)
        obtain ⟨F_29, eF_29⟩ : ∃ z, z = va_up F_5 (87) (.inr (kM, [.int tc, .ref (ad 88), .int (nI tape.length), .ref (ad 89), .ref (ad 90), .ref (ad 91), .ref (ad 92), .int (nI la.length), .int fp, .int me, .int dp, .int (nI stk.length), .ref (ad 93), .ref (ad 94), .int 0, .int ou, .int 2, .int 0, .int be, .ref (ad 95), .int (nI mm.length)])) := ⟨_, rfl⟩
        replace hW : hp_W g z0 N ad F_29 s.heap H locs := by rw [eF_29]; exact hW
        have f_30 : F_29 (87) = .inr (kM, [.int tc, .ref (ad 88), .int (nI tape.length), .ref (ad 89), .ref (ad 90), .ref (ad 91), .ref (ad 92), .int (nI la.length), .int fp, .int me, .int dp, .int (nI stk.length), .ref (ad 93), .ref (ad 94), .int 0, .int ou, .int 2, .int 0, .int be, .ref (ad 95), .int (nI mm.length)]) := by rw [eF_29, va_up_self]
        have f_31 : F_29 (88) = .inl (g.2 0, 200, .inl tp) := by rw [eF_29, va_up_ne _ _ (by omega)]; exact f_7
        have f_32 : F_29 (89) = .inl (g.2 2, 26, .inl hs) := by rw [eF_29, va_up_ne _ _ (by omega)]; exact f_8
        have f_33 : F_29 (90) = .inl (g.2 0, 26, .inl sz) := by rw [eF_29, va_up_ne _ _ (by omega)]; exact f_9
        have f_34 : F_29 (91) = .inl (g.2 0, 2600, .inl tx) := by rw [eF_29, va_up_ne _ _ (by omega)]; exact f_10
        have f_35 : F_29 (92) = .inl (g.2 0, 301, .inl vl) := by rw [eF_29, va_up_ne _ _ (by omega)]; exact f_11
        have f_36 : F_29 (93) = .inl (g.2 0, 28, .inl ey) := by rw [eF_29, va_up_ne _ _ (by omega)]; exact f_12
        have f_37 : F_29 (94) = .inl (g.2 0, 28, .inl ap) := by rw [eF_29, va_up_ne _ _ (by omega)]; exact f_13
        have f_38 : F_29 (95) = .inl (g.2 0, 204, .inl md) := by rw [eF_29, va_up_ne _ _ (by omega)]; exact f_14
        have hf_39 : mFr F_5 F_29 := fun x hx => by rw [eF_29, va_up_ne _ _ (by omega)]
        have hh : md_hex (mC tape rt stk) q0 = true := decide_eq_true c_58i
        have hq3 : md_from (mC tape rt stk) q0 = (q0 + 3) := by unfold md_from; rw [hh]; rfl
        have hX : (md_ref (mC tape rt stk) q0) = md_num true (mC tape rt stk) (q0 + 3) := (if_pos c_43i).trans (by rw [hh, hq3])
        rw [hX]
        exact lp_look_1 l g z0 N ad hN tape kn rt la mm stk ap tc fp me dp ou be q0 (q0 + 3) (by omega) (by omega) _ F S hr hlk hK 7 0 0 F_29 (by omega) (by omega) ⟨tp, hs, sz, tx, vl, ey, md, ⟨f_30, f_31, f_32, f_33, f_34, f_35, f_36, f_37, f_38⟩, ⟨htl, htp⟩, hT, ⟨hll, hvl⟩, hKs, hml0, hmd⟩ rfl (hf_15.tr hf_39) _ _ ls hW (lv_sub hl [4, 5, 3, 1, 2, 0] rfl)
  · have c_15i := c_15
    have c_15j := Int32.not_lt.mp c_15
    refine lv_iload_n hx hb d_M_look_18 rfl (lv_at hl 1 rfl) ?_
    refine lv_bipush (v := 122) hx hb d_M_look_19 (by decide) ?_
    refine lv_icmp_gt (tgt := 40) hx hb d_M_look_21 (by decide) (fun c_21 => ?_) (fun c_21 => ?_)
    · have c_21i := c_21
      have c_21j := Int32.not_le.mpr c_21
      refine lv_iload_n hx hb d_M_look_40 rfl (lv_at hl 1 rfl) ?_
      refine lv_bipush (v := 35) hx hb d_M_look_41 (by decide) ?_
      refine lv_icmp_ne (tgt := 159) hx hb d_M_look_43 (by decide) (fun c_43 => ?_) (fun c_43 => ?_)
      · have c_43i := c_43
        refine lv_aload_n hx hb d_M_look_159 rfl (lv_at hl 2 rfl) ?_
        refine lv_iload_n hx hb d_M_look_160 rfl (lv_at hl 3 rfl) ?_
        refine lv_iconst (v := 1) hx hb d_M_look_161 (by decide) ?_
        refine lv_iadd hx hb d_M_look_162 ?_
        rw [show ((nI q0) + 1) = (nI (q0 + 1)) from (nI_succ q0).symm]
        refine hp_gov hW (va_runV S (m_stops l g z0 N ad F hN tape kn rt la mm stk ap tc fp me dp 0 ou ki nu be hS (q0 + 1) (by omega) (by omega)) (cwV 1 hts (tb_V cd_M_stops tq_129 tq_130 tq_131 tq_118) rfl rfl rfl hd_M_stops (rk_ok (by omega) (by omega))) (hp_preV hK hW (by omega) rfl hR.1 rfl) rfl rfl hl.1 rfl (lv_room (Nat.le_of_ble_eq_true rfl)) d_M_look_163 ⟨Nat.zero_le _, Nat.zero_le _⟩) (fun F_41 H locs hw hW => ?_)
        obtain ⟨hS1, hg1⟩ := hw
        obtain ⟨tp, hs, sz, tx, vl, ey, md, hR, ⟨htl, htp⟩, hT, ⟨hll, hvl⟩, hKs, hml0, hmd⟩ := id hS1
        have hX : (md_ref (mC tape rt stk) q0) = (false, true, 0, q0 + 1) := (if_neg c_43i).trans (if_neg (fun h => by first | exact absurd c_15i (Int32.not_lt.mpr h.1) | exact absurd c_21i (Int32.not_lt.mpr h.2)))
        exact hp_retv S hK hW hr hlk d_M_look_166 (by rw [hX]; exact ⟨_, _, _, by rw [pf_n (by show ¬ (if _ then 1 else 7) = 0; split <;> omega)]; exact hS1, (fun z => by cases z), hg1⟩)
      · have c_43i := c_43
        refine lv_aload_n hx hb d_M_look_46 rfl (lv_at hl 2 rfl) ?_
        refine lv_iconst (v := 2) hx hb d_M_look_47 (by decide) ?_
        refine hp_put S hK hW (87) (by omega) rfl hR.1 rfl in_kM tyok_M nm_M 16 (by decide) (hts _ (List.mem_cons_of_mem _ tq_112)) rfl rfl rfl (Nat.le_of_ble_eq_true rfl) d_M_look_48 (fun H locs hW => ?_)
        obtain ⟨F_42, eF_42⟩ : ∃ z, z = va_up F (87) (.inr (kM, [.int tc, .ref (ad 88), .int (nI tape.length), .ref (ad 89), .ref (ad 90), .ref (ad 91), .ref (ad 92), .int (nI la.length), .int fp, .int me, .int dp, .int (nI stk.length), .ref (ad 93), .ref (ad 94), .int 0, .int ou, .int 2, .int nu, .int be, .ref (ad 95), .int (nI mm.length)])) := ⟨_, rfl⟩
        replace hW : hp_W g z0 N ad F_42 s.heap H locs := by rw [eF_42]; exact hW
        have f_43 : F_42 (87) = .inr (kM, [.int tc, .ref (ad 88), .int (nI tape.length), .ref (ad 89), .ref (ad 90), .ref (ad 91), .ref (ad 92), .int (nI la.length), .int fp, .int me, .int dp, .int (nI stk.length), .ref (ad 93), .ref (ad 94), .int 0, .int ou, .int 2, .int nu, .int be, .ref (ad 95), .int (nI mm.length)]) := by rw [eF_42, va_up_self]
        have f_44 : F_42 (88) = .inl (g.2 0, 200, .inl tp) := by rw [eF_42, va_up_ne _ _ (by omega)]; exact hR.2.1
        have f_45 : F_42 (89) = .inl (g.2 2, 26, .inl hs) := by rw [eF_42, va_up_ne _ _ (by omega)]; exact hR.2.2.1
        have f_46 : F_42 (90) = .inl (g.2 0, 26, .inl sz) := by rw [eF_42, va_up_ne _ _ (by omega)]; exact hR.2.2.2.1
        have f_47 : F_42 (91) = .inl (g.2 0, 2600, .inl tx) := by rw [eF_42, va_up_ne _ _ (by omega)]; exact hR.2.2.2.2.1
        have f_48 : F_42 (92) = .inl (g.2 0, 301, .inl vl) := by rw [eF_42, va_up_ne _ _ (by omega)]; exact hR.2.2.2.2.2.1
        have f_49 : F_42 (93) = .inl (g.2 0, 28, .inl ey) := by rw [eF_42, va_up_ne _ _ (by omega)]; exact hR.2.2.2.2.2.2.1
        have f_50 : F_42 (94) = .inl (g.2 0, 28, .inl ap) := by rw [eF_42, va_up_ne _ _ (by omega)]; exact hR.2.2.2.2.2.2.2.1
        have f_51 : F_42 (95) = .inl (g.2 0, 204, .inl md) := by rw [eF_42, va_up_ne _ _ (by omega)]; exact hR.2.2.2.2.2.2.2.2
        have hf_52 : mFr F F_42 := fun x hx => by rw [eF_42, va_up_ne _ _ (by omega)]
        refine lv_aload_n hx hb d_M_look_51 rfl (lv_at hl 2 rfl) ?_
        refine lv_iload_n hx hb d_M_look_52 rfl (lv_at hl 0 rfl) ?_
        have hSk : mS g ad F_42 tape kn rt la mm stk ap tc fp me dp 0 ou 2 nu be := ⟨tp, hs, sz, tx, vl, ey, md, ⟨f_43, f_44, f_45, f_46, f_47, f_48, f_49, f_50, f_51⟩, ⟨htl, htp⟩, hT, ⟨hll, hvl⟩, hKs, hml0, hmd⟩
        refine hp_goi hW (va_runV S (m_byteOf l g z0 N ad F_42 hN tape kn rt la mm stk ap tc fp me dp 0 ou 2 nu be hSk (q0 + 2) (by omega)) (cwV 1 hts (tb_V cd_M_byteOf tq_124 tq_125 tq_126 tq_118) rfl rfl rfl hd_M_byteOf (rk_ok (by omega) (by omega))) (hp_preV hK hW (by omega) rfl f_43 rfl) rfl rfl hl.1 rfl (lv_room (Nat.le_of_ble_eq_true rfl)) d_M_look_53 ⟨Nat.zero_le _, Nat.zero_le _⟩) (fun r_53 F_54 H locs hw hW => ?_)
        obtain ⟨hvq, hFq⟩ := hw
        rw [hFq] at hW
        rw [hvq]
        refine lv_bipush (v := 120) hx hb d_M_look_56 (by decide) ?_
        refine lv_icmp_ne (tgt := 65) hx hb d_M_look_58 (by decide) (fun c_58 => ?_) (fun c_58 => ?_)
        · have c_58i := c_58
          refine lv_iconst (v := 0) hx hb d_M_look_65 (by decide) ?_
          refine lv_istore (lv' := [(4, .int 0), (3, .int (nI (q0 + 2))), (2, .int (md_at (mC tape rt stk) (q0 + 1))), (0, .ref (ad 87)), (1, .int (nI q0))]) hx hb d_M_look_66 hl (by decide) rfl (fun ls hl => ?_)
          refine lv_iload hx hb d_M_look_68 (lv_at hl 0 rfl) ?_
          refine lv_if_eq (tgt := 76) hx hb d_M_look_70 (by decide) (fun c_70 => ?_) (fun c_70 => absurd (show (0 : Int32) = 0 from by decide) c_70)
          refine lv_iconst (v := 0) hx hb d_M_look_76 (by decide) ?_
          refine lv_istore (lv' := [(5, .int 0), (4, .int 0), (3, .int (nI (q0 + 2))), (2, .int (md_at (mC tape rt stk) (q0 + 1))), (0, .ref (ad 87)), (1, .int (nI q0))]) hx hb d_M_look_77 hl (by decide) rfl (fun ls hl => ?_)
          refine lv_aload_n hx hb d_M_look_79 rfl (lv_at hl 4 rfl) ?_
          refine lv_iconst (v := 0) hx hb d_M_look_80 (by decide) ?_
          refine hp_put S hK hW (87) (by omega) rfl f_43 rfl in_kM tyok_M nm_M 17 (by decide) (hts _ (List.mem_cons_of_mem _ tq_113)) rfl rfl rfl (Nat.le_of_ble_eq_true rfl) d_M_look_81 (fun H locs hW => ?_)
          obtain ⟨F_55, eF_55⟩ : ∃ z, z = va_up F_42 (87) (.inr (kM, [.int tc, .ref (ad 88), .int (nI tape.length), .ref (ad 89), .ref (ad 90), .ref (ad 91), .ref (ad 92), .int (nI la.length), .int fp, .int me, .int dp, .int (nI stk.length), .ref (ad 93), .ref (ad 94), .int 0, .int ou, .int 2, .int 0, .int be, .ref (ad 95), .int (nI mm.length)])) := ⟨_, rfl⟩
          replace hW : hp_W g z0 N ad F_55 s.heap H locs := by rw [eF_55]; exact hW
          have f_56 : F_55 (87) = .inr (kM, [.int tc, .ref (ad 88), .int (nI tape.length), .ref (ad 89), .ref (ad 90), .ref (ad 91), .ref (ad 92), .int (nI la.length), .int fp, .int me, .int dp, .int (nI stk.length), .ref (ad 93), .ref (ad 94), .int 0, .int ou, .int 2, .int 0, .int be, .ref (ad 95), .int (nI mm.length)]) := by rw [eF_55, va_up_self]
          have f_57 : F_55 (88) = .inl (g.2 0, 200, .inl tp) := by rw [eF_55, va_up_ne _ _ (by omega)]; exact f_44
          have f_58 : F_55 (89) = .inl (g.2 2, 26, .inl hs) := by rw [eF_55, va_up_ne _ _ (by omega)]; exact f_45
          have f_59 : F_55 (90) = .inl (g.2 0, 26, .inl sz) := by rw [eF_55, va_up_ne _ _ (by omega)]; exact f_46
          have f_60 : F_55 (91) = .inl (g.2 0, 2600, .inl tx) := by rw [eF_55, va_up_ne _ _ (by omega)]; exact f_47
          have f_61 : F_55 (92) = .inl (g.2 0, 301, .inl vl) := by rw [eF_55, va_up_ne _ _ (by omega)]; exact f_48
          have f_62 : F_55 (93) = .inl (g.2 0, 28, .inl ey) := by rw [eF_55, va_up_ne _ _ (by omega)]; exact f_49
          have f_63 : F_55 (94) = .inl (g.2 0, 28, .inl ap) := by rw [eF_55, va_up_ne _ _ (by omega)]; exact f_50
          have f_64 : F_55 (95) = .inl (g.2 0, 204, .inl md) := by rw [eF_55, va_up_ne _ _ (by omega)]; exact f_51
          have hf_65 : mFr F_42 F_55 := fun x hx => by rw [eF_55, va_up_ne _ _ (by omega)]
          have hh : md_hex (mC tape rt stk) q0 = false := decide_eq_false c_58i
          have hq3 : md_from (mC tape rt stk) q0 = (q0 + 2) := by unfold md_from; rw [hh]; rfl
          have hX : (md_ref (mC tape rt stk) q0) = md_num false (mC tape rt stk) (q0 + 2) := (if_pos c_43i).trans (by rw [hh, hq3])
          rw [hX]
          exact lp_look_0 l g z0 N ad hN tape kn rt la mm stk ap tc fp me dp ou be q0 (q0 + 2) (by omega) (by omega) _ F S hr hlk hK 7 0 0 F_55 (by omega) (by omega) ⟨tp, hs, sz, tx, vl, ey, md, ⟨f_56, f_57, f_58, f_59, f_60, f_61, f_62, f_63, f_64⟩, ⟨htl, htp⟩, hT, ⟨hll, hvl⟩, hKs, hml0, hmd⟩ rfl (hf_52.tr hf_65) _ _ ls hW (lv_sub hl [4, 5, 3, 2, 1, 0] rfl)
        · have c_58i := c_58
          refine lv_iconst (v := 1) hx hb d_M_look_61 (by decide) ?_
          refine lv_goto (tgt := 66) hx hb d_M_look_62 (by decide) ?_
          refine lv_istore (lv' := [(4, .int 1), (3, .int (nI (q0 + 2))), (2, .int (md_at (mC tape rt stk) (q0 + 1))), (0, .ref (ad 87)), (1, .int (nI q0))]) hx hb d_M_look_66 hl (by decide) rfl (fun ls hl => ?_)
          refine lv_iload hx hb d_M_look_68 (lv_at hl 0 rfl) ?_
          refine lv_if_eq (tgt := 76) hx hb d_M_look_70 (by decide) (fun c_70 => absurd c_70 (show ¬ ((1 : Int32) = 0) from by decide)) (fun c_70 => ?_)
          refine lv_iinc (v := (nI ((q0 + 2) + 1))) (lv' := [(3, .int (nI ((q0 + 2) + 1))), (4, .int 1), (2, .int (md_at (mC tape rt stk) (q0 + 1))), (0, .ref (ad 87)), (1, .int (nI q0))]) hx hb d_M_look_73 hl (k := 1) rfl ((nI_succ ((q0 + 2))).symm) (by decide) rfl (fun ls hl => ?_)
          refine lv_iconst (v := 0) hx hb d_M_look_76 (by decide) ?_
          refine lv_istore (lv' := [(5, .int 0), (3, .int (nI ((q0 + 2) + 1))), (4, .int 1), (2, .int (md_at (mC tape rt stk) (q0 + 1))), (0, .ref (ad 87)), (1, .int (nI q0))]) hx hb d_M_look_77 hl (by decide) rfl (fun ls hl => ?_)
          refine lv_aload_n hx hb d_M_look_79 rfl (lv_at hl 4 rfl) ?_
          refine lv_iconst (v := 0) hx hb d_M_look_80 (by decide) ?_
          refine hp_put S hK hW (87) (by omega) rfl f_43 rfl in_kM tyok_M nm_M 17 (by decide) (hts _ (List.mem_cons_of_mem _ tq_113)) rfl rfl rfl (Nat.le_of_ble_eq_true rfl) d_M_look_81 (fun H locs hW => ?_)
          obtain ⟨F_66, eF_66⟩ : ∃ z, z = va_up F_42 (87) (.inr (kM, [.int tc, .ref (ad 88), .int (nI tape.length), .ref (ad 89), .ref (ad 90), .ref (ad 91), .ref (ad 92), .int (nI la.length), .int fp, .int me, .int dp, .int (nI stk.length), .ref (ad 93), .ref (ad 94), .int 0, .int ou, .int 2, .int 0, .int be, .ref (ad 95), .int (nI mm.length)])) := ⟨_, rfl⟩
          replace hW : hp_W g z0 N ad F_66 s.heap H locs := by rw [eF_66]; exact hW
          have f_67 : F_66 (87) = .inr (kM, [.int tc, .ref (ad 88), .int (nI tape.length), .ref (ad 89), .ref (ad 90), .ref (ad 91), .ref (ad 92), .int (nI la.length), .int fp, .int me, .int dp, .int (nI stk.length), .ref (ad 93), .ref (ad 94), .int 0, .int ou, .int 2, .int 0, .int be, .ref (ad 95), .int (nI mm.length)]) := by rw [eF_66, va_up_self]
          have f_68 : F_66 (88) = .inl (g.2 0, 200, .inl tp) := by rw [eF_66, va_up_ne _ _ (by omega)]; exact f_44
          have f_69 : F_66 (89) = .inl (g.2 2, 26, .inl hs) := by rw [eF_66, va_up_ne _ _ (by omega)]; exact f_45
          have f_70 : F_66 (90) = .inl (g.2 0, 26, .inl sz) := by rw [eF_66, va_up_ne _ _ (by omega)]; exact f_46
          have f_71 : F_66 (91) = .inl (g.2 0, 2600, .inl tx) := by rw [eF_66, va_up_ne _ _ (by omega)]; exact f_47
          have f_72 : F_66 (92) = .inl (g.2 0, 301, .inl vl) := by rw [eF_66, va_up_ne _ _ (by omega)]; exact f_48
          have f_73 : F_66 (93) = .inl (g.2 0, 28, .inl ey) := by rw [eF_66, va_up_ne _ _ (by omega)]; exact f_49
          have f_74 : F_66 (94) = .inl (g.2 0, 28, .inl ap) := by rw [eF_66, va_up_ne _ _ (by omega)]; exact f_50
          have f_75 : F_66 (95) = .inl (g.2 0, 204, .inl md) := by rw [eF_66, va_up_ne _ _ (by omega)]; exact f_51
          have hf_76 : mFr F_42 F_66 := fun x hx => by rw [eF_66, va_up_ne _ _ (by omega)]
          have hh : md_hex (mC tape rt stk) q0 = true := decide_eq_true c_58i
          have hq3 : md_from (mC tape rt stk) q0 = (q0 + 3) := by unfold md_from; rw [hh]; rfl
          have hX : (md_ref (mC tape rt stk) q0) = md_num true (mC tape rt stk) (q0 + 3) := (if_pos c_43i).trans (by rw [hh, hq3])
          rw [hX]
          exact lp_look_1 l g z0 N ad hN tape kn rt la mm stk ap tc fp me dp ou be q0 (q0 + 3) (by omega) (by omega) _ F S hr hlk hK 7 0 0 F_66 (by omega) (by omega) ⟨tp, hs, sz, tx, vl, ey, md, ⟨f_67, f_68, f_69, f_70, f_71, f_72, f_73, f_74, f_75⟩, ⟨htl, htp⟩, hT, ⟨hll, hvl⟩, hKs, hml0, hmd⟩ rfl (hf_52.tr hf_76) _ _ ls hW (lv_sub hl [4, 5, 3, 1, 2, 0] rfl)
    · have c_21i := c_21
      have c_21j := Int32.not_lt.mp c_21
      refine lv_aload_n hx hb d_M_look_24 rfl (lv_at hl 2 rfl) ?_
      refine lv_iconst (v := 1) hx hb d_M_look_25 (by decide) ?_
      refine hp_put S hK hW (87) (by omega) rfl hR.1 rfl in_kM tyok_M nm_M 16 (by decide) (hts _ (List.mem_cons_of_mem _ tq_112)) rfl rfl rfl (Nat.le_of_ble_eq_true rfl) d_M_look_26 (fun H locs hW => ?_)
      obtain ⟨F_77, eF_77⟩ : ∃ z, z = va_up F (87) (.inr (kM, [.int tc, .ref (ad 88), .int (nI tape.length), .ref (ad 89), .ref (ad 90), .ref (ad 91), .ref (ad 92), .int (nI la.length), .int fp, .int me, .int dp, .int (nI stk.length), .ref (ad 93), .ref (ad 94), .int 0, .int ou, .int 1, .int nu, .int be, .ref (ad 95), .int (nI mm.length)])) := ⟨_, rfl⟩
      replace hW : hp_W g z0 N ad F_77 s.heap H locs := by rw [eF_77]; exact hW
      have f_78 : F_77 (87) = .inr (kM, [.int tc, .ref (ad 88), .int (nI tape.length), .ref (ad 89), .ref (ad 90), .ref (ad 91), .ref (ad 92), .int (nI la.length), .int fp, .int me, .int dp, .int (nI stk.length), .ref (ad 93), .ref (ad 94), .int 0, .int ou, .int 1, .int nu, .int be, .ref (ad 95), .int (nI mm.length)]) := by rw [eF_77, va_up_self]
      have f_79 : F_77 (88) = .inl (g.2 0, 200, .inl tp) := by rw [eF_77, va_up_ne _ _ (by omega)]; exact hR.2.1
      have f_80 : F_77 (89) = .inl (g.2 2, 26, .inl hs) := by rw [eF_77, va_up_ne _ _ (by omega)]; exact hR.2.2.1
      have f_81 : F_77 (90) = .inl (g.2 0, 26, .inl sz) := by rw [eF_77, va_up_ne _ _ (by omega)]; exact hR.2.2.2.1
      have f_82 : F_77 (91) = .inl (g.2 0, 2600, .inl tx) := by rw [eF_77, va_up_ne _ _ (by omega)]; exact hR.2.2.2.2.1
      have f_83 : F_77 (92) = .inl (g.2 0, 301, .inl vl) := by rw [eF_77, va_up_ne _ _ (by omega)]; exact hR.2.2.2.2.2.1
      have f_84 : F_77 (93) = .inl (g.2 0, 28, .inl ey) := by rw [eF_77, va_up_ne _ _ (by omega)]; exact hR.2.2.2.2.2.2.1
      have f_85 : F_77 (94) = .inl (g.2 0, 28, .inl ap) := by rw [eF_77, va_up_ne _ _ (by omega)]; exact hR.2.2.2.2.2.2.2.1
      have f_86 : F_77 (95) = .inl (g.2 0, 204, .inl md) := by rw [eF_77, va_up_ne _ _ (by omega)]; exact hR.2.2.2.2.2.2.2.2
      have hf_87 : mFr F F_77 := fun x hx => by rw [eF_77, va_up_ne _ _ (by omega)]
      refine lv_aload_n hx hb d_M_look_29 rfl (lv_at hl 2 rfl) ?_
      refine lv_iload_n hx hb d_M_look_30 rfl (lv_at hl 1 rfl) ?_
      refine lv_bipush (v := 97) hx hb d_M_look_31 (by decide) ?_
      refine lv_isub hx hb d_M_look_33 ?_
      refine hp_put S hK hW (87) (by omega) rfl f_78 rfl in_kM tyok_M nm_M 17 (by decide) (hts _ (List.mem_cons_of_mem _ tq_113)) rfl rfl rfl (Nat.le_of_ble_eq_true rfl) d_M_look_34 (fun H locs hW => ?_)
      obtain ⟨F_88, eF_88⟩ : ∃ z, z = va_up F_77 (87) (.inr (kM, [.int tc, .ref (ad 88), .int (nI tape.length), .ref (ad 89), .ref (ad 90), .ref (ad 91), .ref (ad 92), .int (nI la.length), .int fp, .int me, .int dp, .int (nI stk.length), .ref (ad 93), .ref (ad 94), .int 0, .int ou, .int 1, .int ((md_at (mC tape rt stk) (q0 + 1)) - 97), .int be, .ref (ad 95), .int (nI mm.length)])) := ⟨_, rfl⟩
      replace hW : hp_W g z0 N ad F_88 s.heap H locs := by rw [eF_88]; exact hW
      have f_89 : F_88 (87) = .inr (kM, [.int tc, .ref (ad 88), .int (nI tape.length), .ref (ad 89), .ref (ad 90), .ref (ad 91), .ref (ad 92), .int (nI la.length), .int fp, .int me, .int dp, .int (nI stk.length), .ref (ad 93), .ref (ad 94), .int 0, .int ou, .int 1, .int ((md_at (mC tape rt stk) (q0 + 1)) - 97), .int be, .ref (ad 95), .int (nI mm.length)]) := by rw [eF_88, va_up_self]
      have f_90 : F_88 (88) = .inl (g.2 0, 200, .inl tp) := by rw [eF_88, va_up_ne _ _ (by omega)]; exact f_79
      have f_91 : F_88 (89) = .inl (g.2 2, 26, .inl hs) := by rw [eF_88, va_up_ne _ _ (by omega)]; exact f_80
      have f_92 : F_88 (90) = .inl (g.2 0, 26, .inl sz) := by rw [eF_88, va_up_ne _ _ (by omega)]; exact f_81
      have f_93 : F_88 (91) = .inl (g.2 0, 2600, .inl tx) := by rw [eF_88, va_up_ne _ _ (by omega)]; exact f_82
      have f_94 : F_88 (92) = .inl (g.2 0, 301, .inl vl) := by rw [eF_88, va_up_ne _ _ (by omega)]; exact f_83
      have f_95 : F_88 (93) = .inl (g.2 0, 28, .inl ey) := by rw [eF_88, va_up_ne _ _ (by omega)]; exact f_84
      have f_96 : F_88 (94) = .inl (g.2 0, 28, .inl ap) := by rw [eF_88, va_up_ne _ _ (by omega)]; exact f_85
      have f_97 : F_88 (95) = .inl (g.2 0, 204, .inl md) := by rw [eF_88, va_up_ne _ _ (by omega)]; exact f_86
      have hf_98 : mFr F_77 F_88 := fun x hx => by rw [eF_88, va_up_ne _ _ (by omega)]
      refine lv_goto (tgt := 167) hx hb d_M_look_37 (by decide) ?_
      have h97 := Int32.not_lt.mp c_15i
      have h122 := Int32.not_lt.mp c_21i
      have hX : (md_ref (mC tape rt stk) q0) = md_cl (mC tape rt stk) true (md_at (mC tape rt stk) (q0 + 1) - 97) (q0 + 2) := (if_neg (fun z => by rw [z] at h97; exact absurd h97 (by decide))).trans (if_pos ⟨h97, h122⟩)
      rw [hX]
      exact tl_look_1 l g z0 N ad F_88 hN tape kn rt la mm stk ap tc fp me dp ou _ _ ⟨tp, hs, sz, tx, vl, ey, md, ⟨f_89, f_90, f_91, f_92, f_93, f_94, f_95, f_96, f_97⟩, ⟨htl, htp⟩, hT, ⟨hll, hvl⟩, hKs, hml0, hmd⟩ q0 (q0 + 2) (by omega) (by omega) F (hf_87.tr hf_98) S hr hlk hK H locs ls hW (lv_sub hl [2, 3, 0] rfl)
end
section
/-! the reference: open -/
set_option maxHeartbeats 400000 in
set_option maxRecDepth 100000 in
theorem m_open (l : Launch) (g : hp_G) (z0 N : Nat) (ad : Nat → Nat) (F : Nat → va_E) (hN : 96 ≤ N) (tape : List Int32) (kn : Nat → Bool) (rt : Nat → List Int32) (la mm : List Int32) (stk : List Nat) (ap : Nat → Int32) (tc fp ou ki nu be : Int32) (me0 dp0 lim : Nat) (hme : me0 ≤ lim) (hlim : lim ≤ 100000) (hdp : dp0 ≤ 27) (hS : mS g ad F tape kn rt la mm stk ap tc fp (nI me0) (nI dp0) 0 ou ki nu be) (hnd : stk.Nodup) (k q0 : Nat) (hk : k < 26) (hq0 : q0 < 1000) : hp_Mv l g z0 N ad y_M_open ws_M_open (rk 1) [.ref (ad 87), .int (nI k), .int (nI q0), .int (nI lim)] F (fun F' => (if opf kn stk k (rt k).length me0 lim = 0 then mS g ad F' tape kn rt la mm (k :: stk) (upd (upd ap stk.length be) (stk.length + 1) 0) tc fp (nI (me0 + (rt k).length)) (nI (max dp0 (stk.length + 1))) 0 (if stk.length = 0 then (nI q0) else ou) ki nu be else mS g ad F' tape kn rt la mm stk ap tc (if stk.length = 0 then (nI q0) else ou) (nI me0) (nI dp0) (nI (opf kn stk k (rt k).length me0 lim)) ou ki nu be) ∧ mFr F F') := by
  have hsl := hS.sl
  obtain ⟨tp, hs, sz, tx, vl, ey, md, hR, ⟨htl, htp⟩, hT, ⟨hll, hvl⟩, hKs, hml0, hmd⟩ := id hS
  refine hp_enter (cc := cc_M_open) (maxL := 4) (ret := none) (by decide) rfl (Nat.le_of_ble_eq_true rfl) ?_
  intro p e s m below meth c S hr hlk hnm hK hW ls hl
  have hl : lv_has ls 4 [(0, .ref (ad 87)), (1, .int (nI k)), (2, .int (nI q0)), (3, .int (nI lim))] := hl
  obtain ⟨hx, hb, hml, hown, hts⟩ := id S
  have in_kM : ∀ w ∈ u_ws R_M T_M 21, w ∈ ws_M_open := fun w h => List.mem_cons_of_mem _ (in0_M w h)
  refine lv_aload_n hx hb d_M_open_0 rfl (lv_at hl 0 rfl) ?_
  refine hp_get S hK hW (87) (by omega) rfl hR.1 rfl in_kM 3 (by decide) (hts _ (List.mem_cons_of_mem _ tq_99)) rfl d_M_open_1 ?_
  refine lv_iload_n hx hb d_M_open_4 rfl (lv_at hl 1 rfl) ?_
  refine hp_zald S hK hW (89) (by omega) rfl hR.2.2.1 (vp_in_nI hk (by omega)) d_M_open_5 ?_
  rw [show (hs ((nI k) : Int32).toNatClampNeg) = (b2 (kn k)) from (by rw [nI_clamp (by omega)]; exact (hT k hk).1)]
  refine lv_if_ne (tgt := 18) hx hb d_M_open_6 (by decide) (fun c_6 => ?_) (fun c_6 => ?_)
  · have c_6i := c_6
    have hkn := b2_n0.mp c_6i
    have hTk := (hT k hk).2 hkn
    have hkl := hTk.2.1
    refine lv_aload_n hx hb d_M_open_18 rfl (lv_at hl 0 rfl) ?_
    refine lv_iload_n hx hb d_M_open_19 rfl (lv_at hl 1 rfl) ?_
    refine hp_goi hW (va_runV S (m_isOpen l g z0 N ad F hN tape kn rt la mm stk ap tc fp (nI me0) (nI dp0) 0 ou ki nu be hS k hk) (cwV 1 hts (tb_V cd_M_isOpen tq_134 tq_135 tq_136 tq_118) rfl rfl rfl hd_M_isOpen (rk_ok (by omega) (by omega))) (hp_preV hK hW (by omega) rfl hR.1 rfl) rfl rfl hl.1 rfl (lv_room (Nat.le_of_ble_eq_true rfl)) d_M_open_20 ⟨Nat.zero_le _, Nat.zero_le _⟩) (fun r_1 F_2 H locs hw hW => ?_)
    obtain ⟨hvq, hFq⟩ := hw
    rw [hFq] at hW
    rw [hvq]
    refine lv_if_eq (tgt := 35) hx hb d_M_open_23 (by decide) (fun c_23 => ?_) (fun c_23 => ?_)
    · have c_23i := c_23
      have hkt : ¬ kn k = false := by rw [hkn]; exact fun z => by cases z
      have hns : k ∉ stk := of_decide_eq_false (b2_0.mp c_23i)
      refine lv_aload_n hx hb d_M_open_35 rfl (lv_at hl 0 rfl) ?_
      refine hp_get S hK hW (87) (by omega) rfl hR.1 rfl in_kM 9 (by decide) (hts _ (List.mem_cons_of_mem _ tq_105)) rfl d_M_open_36 ?_
      refine lv_aload_n hx hb d_M_open_39 rfl (lv_at hl 0 rfl) ?_
      refine hp_get S hK hW (87) (by omega) rfl hR.1 rfl in_kM 4 (by decide) (hts _ (List.mem_cons_of_mem _ tq_100)) rfl d_M_open_40 ?_
      refine lv_iload_n hx hb d_M_open_43 rfl (lv_at hl 1 rfl) ?_
      refine hp_iald S hK hW (90) (by omega) rfl hR.2.2.2.1 (vp_in_nI hk (by omega)) d_M_open_44 ?_
      rw [show (sz ((nI k) : Int32).toNatClampNeg) = (nI (rt k).length) from (by rw [nI_clamp (by omega)]; exact hTk.1)]
      refine lv_iadd hx hb d_M_open_45 ?_
      rw [show ((nI me0) + (nI (rt k).length)) = (nI (me0 + (rt k).length)) from nI_add _ _]
      refine lv_iload_n hx hb d_M_open_46 rfl (lv_at hl 3 rfl) ?_
      refine lv_icmp_le (tgt := 60) hx hb d_M_open_47 (by decide) (fun c_47 => ?_) (fun c_47 => ?_)
      · have c_47i := c_47
        replace c_47 : (me0 + (rt k).length) ≤ lim := (nI_leI (a := (me0 + (rt k).length)) (b := lim) (by omega) (by omega)).mp c_47
        have hO : opf kn stk k (rt k).length me0 lim = 0 := (if_neg hkt).trans ((if_neg hns).trans (if_neg (by omega)))
        have hpg := pig 26 (k :: stk) (List.nodup_cons.mpr ⟨hns, hnd⟩) (fun x hx => by rcases List.mem_cons.mp hx with rfl | h2; exact hk; exact (hKs.2.2 x h2).1)
        rw [List.length_cons] at hpg
        refine lv_aload_n hx hb d_M_open_60 rfl (lv_at hl 0 rfl) ?_
        refine hp_get S hK hW (87) (by omega) rfl hR.1 rfl in_kM 11 (by decide) (hts _ (List.mem_cons_of_mem _ tq_107)) rfl d_M_open_61 ?_
        refine lv_if_ne (tgt := 72) hx hb d_M_open_64 (by decide) (fun c_64 => ?_) (fun c_64 => ?_)
        · have c_64i := c_64
          replace c_64 : ¬ stk.length = 0 := fun zz9 => c_64 ((nI_eq (a := stk.length) (b := 0) (by omega) (by omega)).mpr zz9)
          refine lv_aload_n hx hb d_M_open_72 rfl (lv_at hl 0 rfl) ?_
          refine hp_get S hK hW (87) (by omega) rfl hR.1 rfl in_kM 13 (by decide) (hts _ (List.mem_cons_of_mem _ tq_109)) rfl d_M_open_73 ?_
          refine lv_aload_n hx hb d_M_open_76 rfl (lv_at hl 0 rfl) ?_
          refine hp_get S hK hW (87) (by omega) rfl hR.1 rfl in_kM 11 (by decide) (hts _ (List.mem_cons_of_mem _ tq_107)) rfl d_M_open_77 ?_
          refine lv_aload_n hx hb d_M_open_80 rfl (lv_at hl 0 rfl) ?_
          refine hp_get S hK hW (87) (by omega) rfl hR.1 rfl in_kM 18 (by decide) (hts _ (List.mem_cons_of_mem _ tq_114)) rfl d_M_open_81 ?_
          refine hp_iast S hK hW (94) (by omega) rfl hR.2.2.2.2.2.2.2.1 (x := be) (vp_in_nI (by omega) (by omega)) d_M_open_84 (fun H locs hW => ?_)
          obtain ⟨F_3, eF_3⟩ : ∃ z, z = va_up F (94) (.inl (g.2 0, 28, .inl (upd ap stk.length be))) := ⟨_, rfl⟩
          rw [show (((nI stk.length) : Int32).toNatClampNeg) = stk.length from nI_clamp (by omega)] at hW
          replace hW : hp_W g z0 N ad F_3 s.heap H locs := by rw [eF_3]; exact hW
          have f_4 : F_3 (87) = .inr (kM, [.int tc, .ref (ad 88), .int (nI tape.length), .ref (ad 89), .ref (ad 90), .ref (ad 91), .ref (ad 92), .int (nI la.length), .int fp, .int (nI me0), .int (nI dp0), .int (nI stk.length), .ref (ad 93), .ref (ad 94), .int 0, .int ou, .int ki, .int nu, .int be, .ref (ad 95), .int (nI mm.length)]) := by rw [eF_3, va_up_ne _ _ (by omega)]; exact hR.1
          have f_5 : F_3 (88) = .inl (g.2 0, 200, .inl tp) := by rw [eF_3, va_up_ne _ _ (by omega)]; exact hR.2.1
          have f_6 : F_3 (89) = .inl (g.2 2, 26, .inl hs) := by rw [eF_3, va_up_ne _ _ (by omega)]; exact hR.2.2.1
          have f_7 : F_3 (90) = .inl (g.2 0, 26, .inl sz) := by rw [eF_3, va_up_ne _ _ (by omega)]; exact hR.2.2.2.1
          have f_8 : F_3 (91) = .inl (g.2 0, 2600, .inl tx) := by rw [eF_3, va_up_ne _ _ (by omega)]; exact hR.2.2.2.2.1
          have f_9 : F_3 (92) = .inl (g.2 0, 301, .inl vl) := by rw [eF_3, va_up_ne _ _ (by omega)]; exact hR.2.2.2.2.2.1
          have f_10 : F_3 (93) = .inl (g.2 0, 28, .inl ey) := by rw [eF_3, va_up_ne _ _ (by omega)]; exact hR.2.2.2.2.2.2.1
          have f_11 : F_3 (94) = .inl (g.2 0, 28, .inl (upd ap stk.length be)) := by rw [eF_3, va_up_self]
          have f_12 : F_3 (95) = .inl (g.2 0, 204, .inl md) := by rw [eF_3, va_up_ne _ _ (by omega)]; exact hR.2.2.2.2.2.2.2.2
          have hf_13 : mFr F F_3 := fun x hx => by rw [eF_3, va_up_ne _ _ (by omega)]
          refine lv_aload_n hx hb d_M_open_85 rfl (lv_at hl 0 rfl) ?_
          refine lv_dup hx hb d_M_open_86 rfl ?_
          refine hp_get S hK hW (87) (by omega) rfl f_4 rfl in_kM 9 (by decide) (hts _ (List.mem_cons_of_mem _ tq_105)) rfl d_M_open_87 ?_
          refine lv_aload_n hx hb d_M_open_90 rfl (lv_at hl 0 rfl) ?_
          refine hp_get S hK hW (87) (by omega) rfl f_4 rfl in_kM 4 (by decide) (hts _ (List.mem_cons_of_mem _ tq_100)) rfl d_M_open_91 ?_
          refine lv_iload_n hx hb d_M_open_94 rfl (lv_at hl 1 rfl) ?_
          refine hp_iald S hK hW (90) (by omega) rfl f_7 (vp_in_nI hk (by omega)) d_M_open_95 ?_
          rw [show (sz ((nI k) : Int32).toNatClampNeg) = (nI (rt k).length) from (by rw [nI_clamp (by omega)]; exact hTk.1)]
          refine lv_iadd hx hb d_M_open_96 ?_
          rw [show ((nI me0) + (nI (rt k).length)) = (nI (me0 + (rt k).length)) from nI_add _ _]
          refine hp_put S hK hW (87) (by omega) rfl f_4 rfl in_kM tyok_M nm_M 9 (by decide) (hts _ (List.mem_cons_of_mem _ tq_105)) rfl rfl rfl (Nat.le_of_ble_eq_true rfl) d_M_open_97 (fun H locs hW => ?_)
          obtain ⟨F_14, eF_14⟩ : ∃ z, z = va_up F_3 (87) (.inr (kM, [.int tc, .ref (ad 88), .int (nI tape.length), .ref (ad 89), .ref (ad 90), .ref (ad 91), .ref (ad 92), .int (nI la.length), .int fp, .int (nI (me0 + (rt k).length)), .int (nI dp0), .int (nI stk.length), .ref (ad 93), .ref (ad 94), .int 0, .int ou, .int ki, .int nu, .int be, .ref (ad 95), .int (nI mm.length)])) := ⟨_, rfl⟩
          replace hW : hp_W g z0 N ad F_14 s.heap H locs := by rw [eF_14]; exact hW
          have f_15 : F_14 (87) = .inr (kM, [.int tc, .ref (ad 88), .int (nI tape.length), .ref (ad 89), .ref (ad 90), .ref (ad 91), .ref (ad 92), .int (nI la.length), .int fp, .int (nI (me0 + (rt k).length)), .int (nI dp0), .int (nI stk.length), .ref (ad 93), .ref (ad 94), .int 0, .int ou, .int ki, .int nu, .int be, .ref (ad 95), .int (nI mm.length)]) := by rw [eF_14, va_up_self]
          have f_16 : F_14 (88) = .inl (g.2 0, 200, .inl tp) := by rw [eF_14, va_up_ne _ _ (by omega)]; exact f_5
          have f_17 : F_14 (89) = .inl (g.2 2, 26, .inl hs) := by rw [eF_14, va_up_ne _ _ (by omega)]; exact f_6
          have f_18 : F_14 (90) = .inl (g.2 0, 26, .inl sz) := by rw [eF_14, va_up_ne _ _ (by omega)]; exact f_7
          have f_19 : F_14 (91) = .inl (g.2 0, 2600, .inl tx) := by rw [eF_14, va_up_ne _ _ (by omega)]; exact f_8
          have f_20 : F_14 (92) = .inl (g.2 0, 301, .inl vl) := by rw [eF_14, va_up_ne _ _ (by omega)]; exact f_9
          have f_21 : F_14 (93) = .inl (g.2 0, 28, .inl ey) := by rw [eF_14, va_up_ne _ _ (by omega)]; exact f_10
          have f_22 : F_14 (94) = .inl (g.2 0, 28, .inl (upd ap stk.length be)) := by rw [eF_14, va_up_ne _ _ (by omega)]; exact f_11
          have f_23 : F_14 (95) = .inl (g.2 0, 204, .inl md) := by rw [eF_14, va_up_ne _ _ (by omega)]; exact f_12
          have hf_24 : mFr F_3 F_14 := fun x hx => by rw [eF_14, va_up_ne _ _ (by omega)]
          refine lv_aload_n hx hb d_M_open_100 rfl (lv_at hl 0 rfl) ?_
          refine lv_dup hx hb d_M_open_101 rfl ?_
          refine hp_get S hK hW (87) (by omega) rfl f_15 rfl in_kM 11 (by decide) (hts _ (List.mem_cons_of_mem _ tq_107)) rfl d_M_open_102 ?_
          refine lv_iconst (v := 1) hx hb d_M_open_105 (by decide) ?_
          refine lv_iadd hx hb d_M_open_106 ?_
          rw [show ((nI stk.length) + 1) = (nI (stk.length + 1)) from (nI_succ _).symm]
          refine hp_put S hK hW (87) (by omega) rfl f_15 rfl in_kM tyok_M nm_M 11 (by decide) (hts _ (List.mem_cons_of_mem _ tq_107)) rfl rfl rfl (Nat.le_of_ble_eq_true rfl) d_M_open_107 (fun H locs hW => ?_)
          obtain ⟨F_25, eF_25⟩ : ∃ z, z = va_up F_14 (87) (.inr (kM, [.int tc, .ref (ad 88), .int (nI tape.length), .ref (ad 89), .ref (ad 90), .ref (ad 91), .ref (ad 92), .int (nI la.length), .int fp, .int (nI (me0 + (rt k).length)), .int (nI dp0), .int (nI (stk.length + 1)), .ref (ad 93), .ref (ad 94), .int 0, .int ou, .int ki, .int nu, .int be, .ref (ad 95), .int (nI mm.length)])) := ⟨_, rfl⟩
          replace hW : hp_W g z0 N ad F_25 s.heap H locs := by rw [eF_25]; exact hW
          have f_26 : F_25 (87) = .inr (kM, [.int tc, .ref (ad 88), .int (nI tape.length), .ref (ad 89), .ref (ad 90), .ref (ad 91), .ref (ad 92), .int (nI la.length), .int fp, .int (nI (me0 + (rt k).length)), .int (nI dp0), .int (nI (stk.length + 1)), .ref (ad 93), .ref (ad 94), .int 0, .int ou, .int ki, .int nu, .int be, .ref (ad 95), .int (nI mm.length)]) := by rw [eF_25, va_up_self]
          have f_27 : F_25 (88) = .inl (g.2 0, 200, .inl tp) := by rw [eF_25, va_up_ne _ _ (by omega)]; exact f_16
          have f_28 : F_25 (89) = .inl (g.2 2, 26, .inl hs) := by rw [eF_25, va_up_ne _ _ (by omega)]; exact f_17
          have f_29 : F_25 (90) = .inl (g.2 0, 26, .inl sz) := by rw [eF_25, va_up_ne _ _ (by omega)]; exact f_18
          have f_30 : F_25 (91) = .inl (g.2 0, 2600, .inl tx) := by rw [eF_25, va_up_ne _ _ (by omega)]; exact f_19
          have f_31 : F_25 (92) = .inl (g.2 0, 301, .inl vl) := by rw [eF_25, va_up_ne _ _ (by omega)]; exact f_20
          have f_32 : F_25 (93) = .inl (g.2 0, 28, .inl ey) := by rw [eF_25, va_up_ne _ _ (by omega)]; exact f_21
          have f_33 : F_25 (94) = .inl (g.2 0, 28, .inl (upd ap stk.length be)) := by rw [eF_25, va_up_ne _ _ (by omega)]; exact f_22
          have f_34 : F_25 (95) = .inl (g.2 0, 204, .inl md) := by rw [eF_25, va_up_ne _ _ (by omega)]; exact f_23
          have hf_35 : mFr F_14 F_25 := fun x hx => by rw [eF_25, va_up_ne _ _ (by omega)]
          refine lv_aload_n hx hb d_M_open_110 rfl (lv_at hl 0 rfl) ?_
          refine hp_get S hK hW (87) (by omega) rfl f_26 rfl in_kM 12 (by decide) (hts _ (List.mem_cons_of_mem _ tq_108)) rfl d_M_open_111 ?_
          refine lv_aload_n hx hb d_M_open_114 rfl (lv_at hl 0 rfl) ?_
          refine hp_get S hK hW (87) (by omega) rfl f_26 rfl in_kM 11 (by decide) (hts _ (List.mem_cons_of_mem _ tq_107)) rfl d_M_open_115 ?_
          refine lv_iload_n hx hb d_M_open_118 rfl (lv_at hl 1 rfl) ?_
          refine hp_iast S hK hW (93) (by omega) rfl f_32 (x := (nI k)) (vp_in_nI (by omega) (by omega)) d_M_open_119 (fun H locs hW => ?_)
          obtain ⟨F_36, eF_36⟩ : ∃ z, z = va_up F_25 (93) (.inl (g.2 0, 28, .inl (upd ey (stk.length + 1) (nI k)))) := ⟨_, rfl⟩
          rw [show (((nI (stk.length + 1)) : Int32).toNatClampNeg) = (stk.length + 1) from nI_clamp (by omega)] at hW
          replace hW : hp_W g z0 N ad F_36 s.heap H locs := by rw [eF_36]; exact hW
          have f_37 : F_36 (87) = .inr (kM, [.int tc, .ref (ad 88), .int (nI tape.length), .ref (ad 89), .ref (ad 90), .ref (ad 91), .ref (ad 92), .int (nI la.length), .int fp, .int (nI (me0 + (rt k).length)), .int (nI dp0), .int (nI (stk.length + 1)), .ref (ad 93), .ref (ad 94), .int 0, .int ou, .int ki, .int nu, .int be, .ref (ad 95), .int (nI mm.length)]) := by rw [eF_36, va_up_ne _ _ (by omega)]; exact f_26
          have f_38 : F_36 (88) = .inl (g.2 0, 200, .inl tp) := by rw [eF_36, va_up_ne _ _ (by omega)]; exact f_27
          have f_39 : F_36 (89) = .inl (g.2 2, 26, .inl hs) := by rw [eF_36, va_up_ne _ _ (by omega)]; exact f_28
          have f_40 : F_36 (90) = .inl (g.2 0, 26, .inl sz) := by rw [eF_36, va_up_ne _ _ (by omega)]; exact f_29
          have f_41 : F_36 (91) = .inl (g.2 0, 2600, .inl tx) := by rw [eF_36, va_up_ne _ _ (by omega)]; exact f_30
          have f_42 : F_36 (92) = .inl (g.2 0, 301, .inl vl) := by rw [eF_36, va_up_ne _ _ (by omega)]; exact f_31
          have f_43 : F_36 (93) = .inl (g.2 0, 28, .inl (upd ey (stk.length + 1) (nI k))) := by rw [eF_36, va_up_self]
          have f_44 : F_36 (94) = .inl (g.2 0, 28, .inl (upd ap stk.length be)) := by rw [eF_36, va_up_ne _ _ (by omega)]; exact f_33
          have f_45 : F_36 (95) = .inl (g.2 0, 204, .inl md) := by rw [eF_36, va_up_ne _ _ (by omega)]; exact f_34
          have hf_46 : mFr F_25 F_36 := fun x hx => by rw [eF_36, va_up_ne _ _ (by omega)]
          refine lv_aload_n hx hb d_M_open_120 rfl (lv_at hl 0 rfl) ?_
          refine hp_get S hK hW (87) (by omega) rfl f_37 rfl in_kM 13 (by decide) (hts _ (List.mem_cons_of_mem _ tq_109)) rfl d_M_open_121 ?_
          refine lv_aload_n hx hb d_M_open_124 rfl (lv_at hl 0 rfl) ?_
          refine hp_get S hK hW (87) (by omega) rfl f_37 rfl in_kM 11 (by decide) (hts _ (List.mem_cons_of_mem _ tq_107)) rfl d_M_open_125 ?_
          refine lv_iconst (v := 0) hx hb d_M_open_128 (by decide) ?_
          refine hp_iast S hK hW (94) (by omega) rfl f_44 (x := 0) (vp_in_nI (by omega) (by omega)) d_M_open_129 (fun H locs hW => ?_)
          obtain ⟨F_47, eF_47⟩ : ∃ z, z = va_up F_36 (94) (.inl (g.2 0, 28, .inl (upd (upd ap stk.length be) (stk.length + 1) 0))) := ⟨_, rfl⟩
          rw [show (((nI (stk.length + 1)) : Int32).toNatClampNeg) = (stk.length + 1) from nI_clamp (by omega)] at hW
          replace hW : hp_W g z0 N ad F_47 s.heap H locs := by rw [eF_47]; exact hW
          have f_48 : F_47 (87) = .inr (kM, [.int tc, .ref (ad 88), .int (nI tape.length), .ref (ad 89), .ref (ad 90), .ref (ad 91), .ref (ad 92), .int (nI la.length), .int fp, .int (nI (me0 + (rt k).length)), .int (nI dp0), .int (nI (stk.length + 1)), .ref (ad 93), .ref (ad 94), .int 0, .int ou, .int ki, .int nu, .int be, .ref (ad 95), .int (nI mm.length)]) := by rw [eF_47, va_up_ne _ _ (by omega)]; exact f_37
          have f_49 : F_47 (88) = .inl (g.2 0, 200, .inl tp) := by rw [eF_47, va_up_ne _ _ (by omega)]; exact f_38
          have f_50 : F_47 (89) = .inl (g.2 2, 26, .inl hs) := by rw [eF_47, va_up_ne _ _ (by omega)]; exact f_39
          have f_51 : F_47 (90) = .inl (g.2 0, 26, .inl sz) := by rw [eF_47, va_up_ne _ _ (by omega)]; exact f_40
          have f_52 : F_47 (91) = .inl (g.2 0, 2600, .inl tx) := by rw [eF_47, va_up_ne _ _ (by omega)]; exact f_41
          have f_53 : F_47 (92) = .inl (g.2 0, 301, .inl vl) := by rw [eF_47, va_up_ne _ _ (by omega)]; exact f_42
          have f_54 : F_47 (93) = .inl (g.2 0, 28, .inl (upd ey (stk.length + 1) (nI k))) := by rw [eF_47, va_up_ne _ _ (by omega)]; exact f_43
          have f_55 : F_47 (94) = .inl (g.2 0, 28, .inl (upd (upd ap stk.length be) (stk.length + 1) 0)) := by rw [eF_47, va_up_self]
          have f_56 : F_47 (95) = .inl (g.2 0, 204, .inl md) := by rw [eF_47, va_up_ne _ _ (by omega)]; exact f_45
          have hf_57 : mFr F_36 F_47 := fun x hx => by rw [eF_47, va_up_ne _ _ (by omega)]
          refine lv_aload_n hx hb d_M_open_130 rfl (lv_at hl 0 rfl) ?_
          refine hp_get S hK hW (87) (by omega) rfl f_48 rfl in_kM 11 (by decide) (hts _ (List.mem_cons_of_mem _ tq_107)) rfl d_M_open_131 ?_
          refine lv_aload_n hx hb d_M_open_134 rfl (lv_at hl 0 rfl) ?_
          refine hp_get S hK hW (87) (by omega) rfl f_48 rfl in_kM 10 (by decide) (hts _ (List.mem_cons_of_mem _ tq_106)) rfl d_M_open_135 ?_
          refine lv_icmp_le (tgt := 149) hx hb d_M_open_138 (by decide) (fun c_138 => ?_) (fun c_138 => ?_)
          · have c_138i := c_138
            replace c_138 : (stk.length + 1) ≤ dp0 := (nI_leI (a := (stk.length + 1)) (b := dp0) (by omega) (by omega)).mp c_138
            exact hp_retv S hK hW hr hlk d_M_open_149 (by rw [hO]; refine ⟨?_, ((((hf_13.tr hf_24).tr hf_35).tr hf_46).tr hf_57)⟩; rw [if_pos rfl, if_neg c_64, Nat.max_eq_left (by omega)]; exact ⟨tp, hs, sz, tx, vl, ((upd ey (stk.length + 1) (nI k))), md, ⟨f_48, f_49, f_50, f_51, f_52, f_53, f_54, f_55, f_56⟩, ⟨htl, htp⟩, hT, ⟨hll, hvl⟩, mK_push hKs hk hkn hpg, hml0, hmd⟩)
          · have c_138i := c_138
            replace c_138 : ¬ (stk.length + 1) ≤ dp0 := fun zz9 => c_138 ((nI_leI (a := (stk.length + 1)) (b := dp0) (by omega) (by omega)).mpr zz9)
            refine lv_aload_n hx hb d_M_open_141 rfl (lv_at hl 0 rfl) ?_
            refine lv_aload_n hx hb d_M_open_142 rfl (lv_at hl 0 rfl) ?_
            refine hp_get S hK hW (87) (by omega) rfl f_48 rfl in_kM 11 (by decide) (hts _ (List.mem_cons_of_mem _ tq_107)) rfl d_M_open_143 ?_
            refine hp_put S hK hW (87) (by omega) rfl f_48 rfl in_kM tyok_M nm_M 10 (by decide) (hts _ (List.mem_cons_of_mem _ tq_106)) rfl rfl rfl (Nat.le_of_ble_eq_true rfl) d_M_open_146 (fun H locs hW => ?_)
            obtain ⟨F_58, eF_58⟩ : ∃ z, z = va_up F_47 (87) (.inr (kM, [.int tc, .ref (ad 88), .int (nI tape.length), .ref (ad 89), .ref (ad 90), .ref (ad 91), .ref (ad 92), .int (nI la.length), .int fp, .int (nI (me0 + (rt k).length)), .int (nI (stk.length + 1)), .int (nI (stk.length + 1)), .ref (ad 93), .ref (ad 94), .int 0, .int ou, .int ki, .int nu, .int be, .ref (ad 95), .int (nI mm.length)])) := ⟨_, rfl⟩
            replace hW : hp_W g z0 N ad F_58 s.heap H locs := by rw [eF_58]; exact hW
            have f_59 : F_58 (87) = .inr (kM, [.int tc, .ref (ad 88), .int (nI tape.length), .ref (ad 89), .ref (ad 90), .ref (ad 91), .ref (ad 92), .int (nI la.length), .int fp, .int (nI (me0 + (rt k).length)), .int (nI (stk.length + 1)), .int (nI (stk.length + 1)), .ref (ad 93), .ref (ad 94), .int 0, .int ou, .int ki, .int nu, .int be, .ref (ad 95), .int (nI mm.length)]) := by rw [eF_58, va_up_self]
            have f_60 : F_58 (88) = .inl (g.2 0, 200, .inl tp) := by rw [eF_58, va_up_ne _ _ (by omega)]; exact f_49
            have f_61 : F_58 (89) = .inl (g.2 2, 26, .inl hs) := by rw [eF_58, va_up_ne _ _ (by omega)]; exact f_50
            have f_62 : F_58 (90) = .inl (g.2 0, 26, .inl sz) := by rw [eF_58, va_up_ne _ _ (by omega)]; exact f_51
            have f_63 : F_58 (91) = .inl (g.2 0, 2600, .inl tx) := by rw [eF_58, va_up_ne _ _ (by omega)]; exact f_52
            have f_64 : F_58 (92) = .inl (g.2 0, 301, .inl vl) := by rw [eF_58, va_up_ne _ _ (by omega)]; exact f_53
            have f_65 : F_58 (93) = .inl (g.2 0, 28, .inl (upd ey (stk.length + 1) (nI k))) := by rw [eF_58, va_up_ne _ _ (by omega)]; exact f_54
            have f_66 : F_58 (94) = .inl (g.2 0, 28, .inl (upd (upd ap stk.length be) (stk.length + 1) 0)) := by rw [eF_58, va_up_ne _ _ (by omega)]; exact f_55
            have f_67 : F_58 (95) = .inl (g.2 0, 204, .inl md) := by rw [eF_58, va_up_ne _ _ (by omega)]; exact f_56
            have hf_68 : mFr F_47 F_58 := fun x hx => by rw [eF_58, va_up_ne _ _ (by omega)]
            exact hp_retv S hK hW hr hlk d_M_open_149 (by rw [hO]; refine ⟨?_, (((((hf_13.tr hf_24).tr hf_35).tr hf_46).tr hf_57).tr hf_68)⟩; rw [if_pos rfl, if_neg c_64, Nat.max_eq_right (by omega)]; exact ⟨tp, hs, sz, tx, vl, ((upd ey (stk.length + 1) (nI k))), md, ⟨f_59, f_60, f_61, f_62, f_63, f_64, f_65, f_66, f_67⟩, ⟨htl, htp⟩, hT, ⟨hll, hvl⟩, mK_push hKs hk hkn hpg, hml0, hmd⟩)
        · have c_64i := c_64
          replace c_64 : stk.length = 0 := (nI_eq (a := stk.length) (b := 0) (by omega) (by omega)).mp c_64
          refine lv_aload_n hx hb d_M_open_67 rfl (lv_at hl 0 rfl) ?_
          refine lv_iload_n hx hb d_M_open_68 rfl (lv_at hl 2 rfl) ?_
          refine hp_put S hK hW (87) (by omega) rfl hR.1 rfl in_kM tyok_M nm_M 15 (by decide) (hts _ (List.mem_cons_of_mem _ tq_111)) rfl rfl rfl (Nat.le_of_ble_eq_true rfl) d_M_open_69 (fun H locs hW => ?_)
          obtain ⟨F_69, eF_69⟩ : ∃ z, z = va_up F (87) (.inr (kM, [.int tc, .ref (ad 88), .int (nI tape.length), .ref (ad 89), .ref (ad 90), .ref (ad 91), .ref (ad 92), .int (nI la.length), .int fp, .int (nI me0), .int (nI dp0), .int (nI stk.length), .ref (ad 93), .ref (ad 94), .int 0, .int (nI q0), .int ki, .int nu, .int be, .ref (ad 95), .int (nI mm.length)])) := ⟨_, rfl⟩
          replace hW : hp_W g z0 N ad F_69 s.heap H locs := by rw [eF_69]; exact hW
          have f_70 : F_69 (87) = .inr (kM, [.int tc, .ref (ad 88), .int (nI tape.length), .ref (ad 89), .ref (ad 90), .ref (ad 91), .ref (ad 92), .int (nI la.length), .int fp, .int (nI me0), .int (nI dp0), .int (nI stk.length), .ref (ad 93), .ref (ad 94), .int 0, .int (nI q0), .int ki, .int nu, .int be, .ref (ad 95), .int (nI mm.length)]) := by rw [eF_69, va_up_self]
          have f_71 : F_69 (88) = .inl (g.2 0, 200, .inl tp) := by rw [eF_69, va_up_ne _ _ (by omega)]; exact hR.2.1
          have f_72 : F_69 (89) = .inl (g.2 2, 26, .inl hs) := by rw [eF_69, va_up_ne _ _ (by omega)]; exact hR.2.2.1
          have f_73 : F_69 (90) = .inl (g.2 0, 26, .inl sz) := by rw [eF_69, va_up_ne _ _ (by omega)]; exact hR.2.2.2.1
          have f_74 : F_69 (91) = .inl (g.2 0, 2600, .inl tx) := by rw [eF_69, va_up_ne _ _ (by omega)]; exact hR.2.2.2.2.1
          have f_75 : F_69 (92) = .inl (g.2 0, 301, .inl vl) := by rw [eF_69, va_up_ne _ _ (by omega)]; exact hR.2.2.2.2.2.1
          have f_76 : F_69 (93) = .inl (g.2 0, 28, .inl ey) := by rw [eF_69, va_up_ne _ _ (by omega)]; exact hR.2.2.2.2.2.2.1
          have f_77 : F_69 (94) = .inl (g.2 0, 28, .inl ap) := by rw [eF_69, va_up_ne _ _ (by omega)]; exact hR.2.2.2.2.2.2.2.1
          have f_78 : F_69 (95) = .inl (g.2 0, 204, .inl md) := by rw [eF_69, va_up_ne _ _ (by omega)]; exact hR.2.2.2.2.2.2.2.2
          have hf_79 : mFr F F_69 := fun x hx => by rw [eF_69, va_up_ne _ _ (by omega)]
          refine lv_aload_n hx hb d_M_open_72 rfl (lv_at hl 0 rfl) ?_
          refine hp_get S hK hW (87) (by omega) rfl f_70 rfl in_kM 13 (by decide) (hts _ (List.mem_cons_of_mem _ tq_109)) rfl d_M_open_73 ?_
          refine lv_aload_n hx hb d_M_open_76 rfl (lv_at hl 0 rfl) ?_
          refine hp_get S hK hW (87) (by omega) rfl f_70 rfl in_kM 11 (by decide) (hts _ (List.mem_cons_of_mem _ tq_107)) rfl d_M_open_77 ?_
          refine lv_aload_n hx hb d_M_open_80 rfl (lv_at hl 0 rfl) ?_
          refine hp_get S hK hW (87) (by omega) rfl f_70 rfl in_kM 18 (by decide) (hts _ (List.mem_cons_of_mem _ tq_114)) rfl d_M_open_81 ?_
          refine hp_iast S hK hW (94) (by omega) rfl f_77 (x := be) (vp_in_nI (by omega) (by omega)) d_M_open_84 (fun H locs hW => ?_)
          obtain ⟨F_80, eF_80⟩ : ∃ z, z = va_up F_69 (94) (.inl (g.2 0, 28, .inl (upd ap stk.length be))) := ⟨_, rfl⟩
          rw [show (((nI stk.length) : Int32).toNatClampNeg) = stk.length from nI_clamp (by omega)] at hW
          replace hW : hp_W g z0 N ad F_80 s.heap H locs := by rw [eF_80]; exact hW
          have f_81 : F_80 (87) = .inr (kM, [.int tc, .ref (ad 88), .int (nI tape.length), .ref (ad 89), .ref (ad 90), .ref (ad 91), .ref (ad 92), .int (nI la.length), .int fp, .int (nI me0), .int (nI dp0), .int (nI stk.length), .ref (ad 93), .ref (ad 94), .int 0, .int (nI q0), .int ki, .int nu, .int be, .ref (ad 95), .int (nI mm.length)]) := by rw [eF_80, va_up_ne _ _ (by omega)]; exact f_70
          have f_82 : F_80 (88) = .inl (g.2 0, 200, .inl tp) := by rw [eF_80, va_up_ne _ _ (by omega)]; exact f_71
          have f_83 : F_80 (89) = .inl (g.2 2, 26, .inl hs) := by rw [eF_80, va_up_ne _ _ (by omega)]; exact f_72
          have f_84 : F_80 (90) = .inl (g.2 0, 26, .inl sz) := by rw [eF_80, va_up_ne _ _ (by omega)]; exact f_73
          have f_85 : F_80 (91) = .inl (g.2 0, 2600, .inl tx) := by rw [eF_80, va_up_ne _ _ (by omega)]; exact f_74
          have f_86 : F_80 (92) = .inl (g.2 0, 301, .inl vl) := by rw [eF_80, va_up_ne _ _ (by omega)]; exact f_75
          have f_87 : F_80 (93) = .inl (g.2 0, 28, .inl ey) := by rw [eF_80, va_up_ne _ _ (by omega)]; exact f_76
          have f_88 : F_80 (94) = .inl (g.2 0, 28, .inl (upd ap stk.length be)) := by rw [eF_80, va_up_self]
          have f_89 : F_80 (95) = .inl (g.2 0, 204, .inl md) := by rw [eF_80, va_up_ne _ _ (by omega)]; exact f_78
          have hf_90 : mFr F_69 F_80 := fun x hx => by rw [eF_80, va_up_ne _ _ (by omega)]
          refine lv_aload_n hx hb d_M_open_85 rfl (lv_at hl 0 rfl) ?_
          refine lv_dup hx hb d_M_open_86 rfl ?_
          refine hp_get S hK hW (87) (by omega) rfl f_81 rfl in_kM 9 (by decide) (hts _ (List.mem_cons_of_mem _ tq_105)) rfl d_M_open_87 ?_
          refine lv_aload_n hx hb d_M_open_90 rfl (lv_at hl 0 rfl) ?_
          refine hp_get S hK hW (87) (by omega) rfl f_81 rfl in_kM 4 (by decide) (hts _ (List.mem_cons_of_mem _ tq_100)) rfl d_M_open_91 ?_
          refine lv_iload_n hx hb d_M_open_94 rfl (lv_at hl 1 rfl) ?_
          refine hp_iald S hK hW (90) (by omega) rfl f_84 (vp_in_nI hk (by omega)) d_M_open_95 ?_
          rw [show (sz ((nI k) : Int32).toNatClampNeg) = (nI (rt k).length) from (by rw [nI_clamp (by omega)]; exact hTk.1)]
          refine lv_iadd hx hb d_M_open_96 ?_
          rw [show ((nI me0) + (nI (rt k).length)) = (nI (me0 + (rt k).length)) from nI_add _ _]
          refine hp_put S hK hW (87) (by omega) rfl f_81 rfl in_kM tyok_M nm_M 9 (by decide) (hts _ (List.mem_cons_of_mem _ tq_105)) rfl rfl rfl (Nat.le_of_ble_eq_true rfl) d_M_open_97 (fun H locs hW => ?_)
          obtain ⟨F_91, eF_91⟩ : ∃ z, z = va_up F_80 (87) (.inr (kM, [.int tc, .ref (ad 88), .int (nI tape.length), .ref (ad 89), .ref (ad 90), .ref (ad 91), .ref (ad 92), .int (nI la.length), .int fp, .int (nI (me0 + (rt k).length)), .int (nI dp0), .int (nI stk.length), .ref (ad 93), .ref (ad 94), .int 0, .int (nI q0), .int ki, .int nu, .int be, .ref (ad 95), .int (nI mm.length)])) := ⟨_, rfl⟩
          replace hW : hp_W g z0 N ad F_91 s.heap H locs := by rw [eF_91]; exact hW
          have f_92 : F_91 (87) = .inr (kM, [.int tc, .ref (ad 88), .int (nI tape.length), .ref (ad 89), .ref (ad 90), .ref (ad 91), .ref (ad 92), .int (nI la.length), .int fp, .int (nI (me0 + (rt k).length)), .int (nI dp0), .int (nI stk.length), .ref (ad 93), .ref (ad 94), .int 0, .int (nI q0), .int ki, .int nu, .int be, .ref (ad 95), .int (nI mm.length)]) := by rw [eF_91, va_up_self]
          have f_93 : F_91 (88) = .inl (g.2 0, 200, .inl tp) := by rw [eF_91, va_up_ne _ _ (by omega)]; exact f_82
          have f_94 : F_91 (89) = .inl (g.2 2, 26, .inl hs) := by rw [eF_91, va_up_ne _ _ (by omega)]; exact f_83
          have f_95 : F_91 (90) = .inl (g.2 0, 26, .inl sz) := by rw [eF_91, va_up_ne _ _ (by omega)]; exact f_84
          have f_96 : F_91 (91) = .inl (g.2 0, 2600, .inl tx) := by rw [eF_91, va_up_ne _ _ (by omega)]; exact f_85
          have f_97 : F_91 (92) = .inl (g.2 0, 301, .inl vl) := by rw [eF_91, va_up_ne _ _ (by omega)]; exact f_86
          have f_98 : F_91 (93) = .inl (g.2 0, 28, .inl ey) := by rw [eF_91, va_up_ne _ _ (by omega)]; exact f_87
          have f_99 : F_91 (94) = .inl (g.2 0, 28, .inl (upd ap stk.length be)) := by rw [eF_91, va_up_ne _ _ (by omega)]; exact f_88
          have f_100 : F_91 (95) = .inl (g.2 0, 204, .inl md) := by rw [eF_91, va_up_ne _ _ (by omega)]; exact f_89
          have hf_101 : mFr F_80 F_91 := fun x hx => by rw [eF_91, va_up_ne _ _ (by omega)]
          refine lv_aload_n hx hb d_M_open_100 rfl (lv_at hl 0 rfl) ?_
          refine lv_dup hx hb d_M_open_101 rfl ?_
          refine hp_get S hK hW (87) (by omega) rfl f_92 rfl in_kM 11 (by decide) (hts _ (List.mem_cons_of_mem _ tq_107)) rfl d_M_open_102 ?_
          refine lv_iconst (v := 1) hx hb d_M_open_105 (by decide) ?_
          refine lv_iadd hx hb d_M_open_106 ?_
          rw [show ((nI stk.length) + 1) = (nI (stk.length + 1)) from (nI_succ _).symm]
          refine hp_put S hK hW (87) (by omega) rfl f_92 rfl in_kM tyok_M nm_M 11 (by decide) (hts _ (List.mem_cons_of_mem _ tq_107)) rfl rfl rfl (Nat.le_of_ble_eq_true rfl) d_M_open_107 (fun H locs hW => ?_)
          obtain ⟨F_102, eF_102⟩ : ∃ z, z = va_up F_91 (87) (.inr (kM, [.int tc, .ref (ad 88), .int (nI tape.length), .ref (ad 89), .ref (ad 90), .ref (ad 91), .ref (ad 92), .int (nI la.length), .int fp, .int (nI (me0 + (rt k).length)), .int (nI dp0), .int (nI (stk.length + 1)), .ref (ad 93), .ref (ad 94), .int 0, .int (nI q0), .int ki, .int nu, .int be, .ref (ad 95), .int (nI mm.length)])) := ⟨_, rfl⟩
          replace hW : hp_W g z0 N ad F_102 s.heap H locs := by rw [eF_102]; exact hW
          have f_103 : F_102 (87) = .inr (kM, [.int tc, .ref (ad 88), .int (nI tape.length), .ref (ad 89), .ref (ad 90), .ref (ad 91), .ref (ad 92), .int (nI la.length), .int fp, .int (nI (me0 + (rt k).length)), .int (nI dp0), .int (nI (stk.length + 1)), .ref (ad 93), .ref (ad 94), .int 0, .int (nI q0), .int ki, .int nu, .int be, .ref (ad 95), .int (nI mm.length)]) := by rw [eF_102, va_up_self]
          have f_104 : F_102 (88) = .inl (g.2 0, 200, .inl tp) := by rw [eF_102, va_up_ne _ _ (by omega)]; exact f_93
          have f_105 : F_102 (89) = .inl (g.2 2, 26, .inl hs) := by rw [eF_102, va_up_ne _ _ (by omega)]; exact f_94
          have f_106 : F_102 (90) = .inl (g.2 0, 26, .inl sz) := by rw [eF_102, va_up_ne _ _ (by omega)]; exact f_95
          have f_107 : F_102 (91) = .inl (g.2 0, 2600, .inl tx) := by rw [eF_102, va_up_ne _ _ (by omega)]; exact f_96
          have f_108 : F_102 (92) = .inl (g.2 0, 301, .inl vl) := by rw [eF_102, va_up_ne _ _ (by omega)]; exact f_97
          have f_109 : F_102 (93) = .inl (g.2 0, 28, .inl ey) := by rw [eF_102, va_up_ne _ _ (by omega)]; exact f_98
          have f_110 : F_102 (94) = .inl (g.2 0, 28, .inl (upd ap stk.length be)) := by rw [eF_102, va_up_ne _ _ (by omega)]; exact f_99
          have f_111 : F_102 (95) = .inl (g.2 0, 204, .inl md) := by rw [eF_102, va_up_ne _ _ (by omega)]; exact f_100
          have hf_112 : mFr F_91 F_102 := fun x hx => by rw [eF_102, va_up_ne _ _ (by omega)]
          refine lv_aload_n hx hb d_M_open_110 rfl (lv_at hl 0 rfl) ?_
          refine hp_get S hK hW (87) (by omega) rfl f_103 rfl in_kM 12 (by decide) (hts _ (List.mem_cons_of_mem _ tq_108)) rfl d_M_open_111 ?_
          refine lv_aload_n hx hb d_M_open_114 rfl (lv_at hl 0 rfl) ?_
          refine hp_get S hK hW (87) (by omega) rfl f_103 rfl in_kM 11 (by decide) (hts _ (List.mem_cons_of_mem _ tq_107)) rfl d_M_open_115 ?_
          refine lv_iload_n hx hb d_M_open_118 rfl (lv_at hl 1 rfl) ?_
          refine hp_iast S hK hW (93) (by omega) rfl f_109 (x := (nI k)) (vp_in_nI (by omega) (by omega)) d_M_open_119 (fun H locs hW => ?_)
          obtain ⟨F_113, eF_113⟩ : ∃ z, z = va_up F_102 (93) (.inl (g.2 0, 28, .inl (upd ey (stk.length + 1) (nI k)))) := ⟨_, rfl⟩
          rw [show (((nI (stk.length + 1)) : Int32).toNatClampNeg) = (stk.length + 1) from nI_clamp (by omega)] at hW
          replace hW : hp_W g z0 N ad F_113 s.heap H locs := by rw [eF_113]; exact hW
          have f_114 : F_113 (87) = .inr (kM, [.int tc, .ref (ad 88), .int (nI tape.length), .ref (ad 89), .ref (ad 90), .ref (ad 91), .ref (ad 92), .int (nI la.length), .int fp, .int (nI (me0 + (rt k).length)), .int (nI dp0), .int (nI (stk.length + 1)), .ref (ad 93), .ref (ad 94), .int 0, .int (nI q0), .int ki, .int nu, .int be, .ref (ad 95), .int (nI mm.length)]) := by rw [eF_113, va_up_ne _ _ (by omega)]; exact f_103
          have f_115 : F_113 (88) = .inl (g.2 0, 200, .inl tp) := by rw [eF_113, va_up_ne _ _ (by omega)]; exact f_104
          have f_116 : F_113 (89) = .inl (g.2 2, 26, .inl hs) := by rw [eF_113, va_up_ne _ _ (by omega)]; exact f_105
          have f_117 : F_113 (90) = .inl (g.2 0, 26, .inl sz) := by rw [eF_113, va_up_ne _ _ (by omega)]; exact f_106
          have f_118 : F_113 (91) = .inl (g.2 0, 2600, .inl tx) := by rw [eF_113, va_up_ne _ _ (by omega)]; exact f_107
          have f_119 : F_113 (92) = .inl (g.2 0, 301, .inl vl) := by rw [eF_113, va_up_ne _ _ (by omega)]; exact f_108
          have f_120 : F_113 (93) = .inl (g.2 0, 28, .inl (upd ey (stk.length + 1) (nI k))) := by rw [eF_113, va_up_self]
          have f_121 : F_113 (94) = .inl (g.2 0, 28, .inl (upd ap stk.length be)) := by rw [eF_113, va_up_ne _ _ (by omega)]; exact f_110
          have f_122 : F_113 (95) = .inl (g.2 0, 204, .inl md) := by rw [eF_113, va_up_ne _ _ (by omega)]; exact f_111
          have hf_123 : mFr F_102 F_113 := fun x hx => by rw [eF_113, va_up_ne _ _ (by omega)]
          refine lv_aload_n hx hb d_M_open_120 rfl (lv_at hl 0 rfl) ?_
          refine hp_get S hK hW (87) (by omega) rfl f_114 rfl in_kM 13 (by decide) (hts _ (List.mem_cons_of_mem _ tq_109)) rfl d_M_open_121 ?_
          refine lv_aload_n hx hb d_M_open_124 rfl (lv_at hl 0 rfl) ?_
          refine hp_get S hK hW (87) (by omega) rfl f_114 rfl in_kM 11 (by decide) (hts _ (List.mem_cons_of_mem _ tq_107)) rfl d_M_open_125 ?_
          refine lv_iconst (v := 0) hx hb d_M_open_128 (by decide) ?_
          refine hp_iast S hK hW (94) (by omega) rfl f_121 (x := 0) (vp_in_nI (by omega) (by omega)) d_M_open_129 (fun H locs hW => ?_)
          obtain ⟨F_124, eF_124⟩ : ∃ z, z = va_up F_113 (94) (.inl (g.2 0, 28, .inl (upd (upd ap stk.length be) (stk.length + 1) 0))) := ⟨_, rfl⟩
          rw [show (((nI (stk.length + 1)) : Int32).toNatClampNeg) = (stk.length + 1) from nI_clamp (by omega)] at hW
          replace hW : hp_W g z0 N ad F_124 s.heap H locs := by rw [eF_124]; exact hW
          have f_125 : F_124 (87) = .inr (kM, [.int tc, .ref (ad 88), .int (nI tape.length), .ref (ad 89), .ref (ad 90), .ref (ad 91), .ref (ad 92), .int (nI la.length), .int fp, .int (nI (me0 + (rt k).length)), .int (nI dp0), .int (nI (stk.length + 1)), .ref (ad 93), .ref (ad 94), .int 0, .int (nI q0), .int ki, .int nu, .int be, .ref (ad 95), .int (nI mm.length)]) := by rw [eF_124, va_up_ne _ _ (by omega)]; exact f_114
          have f_126 : F_124 (88) = .inl (g.2 0, 200, .inl tp) := by rw [eF_124, va_up_ne _ _ (by omega)]; exact f_115
          have f_127 : F_124 (89) = .inl (g.2 2, 26, .inl hs) := by rw [eF_124, va_up_ne _ _ (by omega)]; exact f_116
          have f_128 : F_124 (90) = .inl (g.2 0, 26, .inl sz) := by rw [eF_124, va_up_ne _ _ (by omega)]; exact f_117
          have f_129 : F_124 (91) = .inl (g.2 0, 2600, .inl tx) := by rw [eF_124, va_up_ne _ _ (by omega)]; exact f_118
          have f_130 : F_124 (92) = .inl (g.2 0, 301, .inl vl) := by rw [eF_124, va_up_ne _ _ (by omega)]; exact f_119
          have f_131 : F_124 (93) = .inl (g.2 0, 28, .inl (upd ey (stk.length + 1) (nI k))) := by rw [eF_124, va_up_ne _ _ (by omega)]; exact f_120
          have f_132 : F_124 (94) = .inl (g.2 0, 28, .inl (upd (upd ap stk.length be) (stk.length + 1) 0)) := by rw [eF_124, va_up_self]
          have f_133 : F_124 (95) = .inl (g.2 0, 204, .inl md) := by rw [eF_124, va_up_ne _ _ (by omega)]; exact f_122
          have hf_134 : mFr F_113 F_124 := fun x hx => by rw [eF_124, va_up_ne _ _ (by omega)]
          refine lv_aload_n hx hb d_M_open_130 rfl (lv_at hl 0 rfl) ?_
          refine hp_get S hK hW (87) (by omega) rfl f_125 rfl in_kM 11 (by decide) (hts _ (List.mem_cons_of_mem _ tq_107)) rfl d_M_open_131 ?_
          refine lv_aload_n hx hb d_M_open_134 rfl (lv_at hl 0 rfl) ?_
          refine hp_get S hK hW (87) (by omega) rfl f_125 rfl in_kM 10 (by decide) (hts _ (List.mem_cons_of_mem _ tq_106)) rfl d_M_open_135 ?_
          refine lv_icmp_le (tgt := 149) hx hb d_M_open_138 (by decide) (fun c_138 => ?_) (fun c_138 => ?_)
          · have c_138i := c_138
            replace c_138 : (stk.length + 1) ≤ dp0 := (nI_leI (a := (stk.length + 1)) (b := dp0) (by omega) (by omega)).mp c_138
            exact hp_retv S hK hW hr hlk d_M_open_149 (by rw [hO]; refine ⟨?_, (((((hf_79.tr hf_90).tr hf_101).tr hf_112).tr hf_123).tr hf_134)⟩; rw [if_pos rfl, if_pos c_64, Nat.max_eq_left (by omega)]; exact ⟨tp, hs, sz, tx, vl, ((upd ey (stk.length + 1) (nI k))), md, ⟨f_125, f_126, f_127, f_128, f_129, f_130, f_131, f_132, f_133⟩, ⟨htl, htp⟩, hT, ⟨hll, hvl⟩, mK_push hKs hk hkn hpg, hml0, hmd⟩)
          · have c_138i := c_138
            replace c_138 : ¬ (stk.length + 1) ≤ dp0 := fun zz9 => c_138 ((nI_leI (a := (stk.length + 1)) (b := dp0) (by omega) (by omega)).mpr zz9)
            refine lv_aload_n hx hb d_M_open_141 rfl (lv_at hl 0 rfl) ?_
            refine lv_aload_n hx hb d_M_open_142 rfl (lv_at hl 0 rfl) ?_
            refine hp_get S hK hW (87) (by omega) rfl f_125 rfl in_kM 11 (by decide) (hts _ (List.mem_cons_of_mem _ tq_107)) rfl d_M_open_143 ?_
            refine hp_put S hK hW (87) (by omega) rfl f_125 rfl in_kM tyok_M nm_M 10 (by decide) (hts _ (List.mem_cons_of_mem _ tq_106)) rfl rfl rfl (Nat.le_of_ble_eq_true rfl) d_M_open_146 (fun H locs hW => ?_)
            obtain ⟨F_135, eF_135⟩ : ∃ z, z = va_up F_124 (87) (.inr (kM, [.int tc, .ref (ad 88), .int (nI tape.length), .ref (ad 89), .ref (ad 90), .ref (ad 91), .ref (ad 92), .int (nI la.length), .int fp, .int (nI (me0 + (rt k).length)), .int (nI (stk.length + 1)), .int (nI (stk.length + 1)), .ref (ad 93), .ref (ad 94), .int 0, .int (nI q0), .int ki, .int nu, .int be, .ref (ad 95), .int (nI mm.length)])) := ⟨_, rfl⟩
            replace hW : hp_W g z0 N ad F_135 s.heap H locs := by rw [eF_135]; exact hW
            have f_136 : F_135 (87) = .inr (kM, [.int tc, .ref (ad 88), .int (nI tape.length), .ref (ad 89), .ref (ad 90), .ref (ad 91), .ref (ad 92), .int (nI la.length), .int fp, .int (nI (me0 + (rt k).length)), .int (nI (stk.length + 1)), .int (nI (stk.length + 1)), .ref (ad 93), .ref (ad 94), .int 0, .int (nI q0), .int ki, .int nu, .int be, .ref (ad 95), .int (nI mm.length)]) := by rw [eF_135, va_up_self]
            have f_137 : F_135 (88) = .inl (g.2 0, 200, .inl tp) := by rw [eF_135, va_up_ne _ _ (by omega)]; exact f_126
            have f_138 : F_135 (89) = .inl (g.2 2, 26, .inl hs) := by rw [eF_135, va_up_ne _ _ (by omega)]; exact f_127
            have f_139 : F_135 (90) = .inl (g.2 0, 26, .inl sz) := by rw [eF_135, va_up_ne _ _ (by omega)]; exact f_128
            have f_140 : F_135 (91) = .inl (g.2 0, 2600, .inl tx) := by rw [eF_135, va_up_ne _ _ (by omega)]; exact f_129
            have f_141 : F_135 (92) = .inl (g.2 0, 301, .inl vl) := by rw [eF_135, va_up_ne _ _ (by omega)]; exact f_130
            have f_142 : F_135 (93) = .inl (g.2 0, 28, .inl (upd ey (stk.length + 1) (nI k))) := by rw [eF_135, va_up_ne _ _ (by omega)]; exact f_131
            have f_143 : F_135 (94) = .inl (g.2 0, 28, .inl (upd (upd ap stk.length be) (stk.length + 1) 0)) := by rw [eF_135, va_up_ne _ _ (by omega)]; exact f_132
            have f_144 : F_135 (95) = .inl (g.2 0, 204, .inl md) := by rw [eF_135, va_up_ne _ _ (by omega)]; exact f_133
            have hf_145 : mFr F_124 F_135 := fun x hx => by rw [eF_135, va_up_ne _ _ (by omega)]
            exact hp_retv S hK hW hr hlk d_M_open_149 (by rw [hO]; refine ⟨?_, ((((((hf_79.tr hf_90).tr hf_101).tr hf_112).tr hf_123).tr hf_134).tr hf_145)⟩; rw [if_pos rfl, if_pos c_64, Nat.max_eq_right (by omega)]; exact ⟨tp, hs, sz, tx, vl, ((upd ey (stk.length + 1) (nI k))), md, ⟨f_136, f_137, f_138, f_139, f_140, f_141, f_142, f_143, f_144⟩, ⟨htl, htp⟩, hT, ⟨hll, hvl⟩, mK_push hKs hk hkn hpg, hml0, hmd⟩)
      · have c_47i := c_47
        replace c_47 : ¬ (me0 + (rt k).length) ≤ lim := fun zz9 => c_47 ((nI_leI (a := (me0 + (rt k).length)) (b := lim) (by omega) (by omega)).mpr zz9)
        have hO : opf kn stk k (rt k).length me0 lim = 6 := (if_neg hkt).trans ((if_neg hns).trans (if_pos (by omega)))
        refine lv_aload_n hx hb d_M_open_50 rfl (lv_at hl 0 rfl) ?_
        refine lv_bipush (v := 6) hx hb d_M_open_51 (by decide) ?_
        refine lv_iload_n hx hb d_M_open_53 rfl (lv_at hl 2 rfl) ?_
        refine hp_gov hW (va_runV S (m_fails l g z0 N ad F hN tape kn rt la mm stk ap tc fp (nI me0) (nI dp0) 0 ou ki nu be hS 6 (nI q0)) (cwV 2 hts (tb_V cd_M_fails tq_121 tq_122 tq_123 tq_118) rfl rfl rfl hd_M_fails (rk_ok (by omega) (by omega))) (hp_preV hK hW (by omega) rfl hR.1 rfl) rfl rfl hl.1 rfl (lv_room (Nat.le_of_ble_eq_true rfl)) d_M_open_54 ⟨Nat.zero_le _, Nat.zero_le _⟩) (fun F_147 H locs hw hW => ?_)
        obtain ⟨hS1, hg1⟩ := hw
        obtain ⟨tp, hs, sz, tx, vl, ey, md, hR, ⟨htl, htp⟩, hT, ⟨hll, hvl⟩, hKs, hml0, hmd⟩ := id hS1
        refine lv_goto (tgt := 149) hx hb d_M_open_57 (by decide) ?_
        exact hp_retv S hK hW hr hlk d_M_open_149 (by rw [hO]; exact ⟨hS1, hg1⟩)
    · have c_23i := c_23
      have hkt : ¬ kn k = false := by rw [hkn]; exact fun z => by cases z
      have hO : opf kn stk k (rt k).length me0 lim = 3 := (if_neg hkt).trans (if_pos (of_decide_eq_true (b2_n0.mp c_23i)))
      refine lv_aload_n hx hb d_M_open_26 rfl (lv_at hl 0 rfl) ?_
      refine lv_iconst (v := 3) hx hb d_M_open_27 (by decide) ?_
      refine lv_iload_n hx hb d_M_open_28 rfl (lv_at hl 2 rfl) ?_
      refine hp_gov hW (va_runV S (m_fails l g z0 N ad F hN tape kn rt la mm stk ap tc fp (nI me0) (nI dp0) 0 ou ki nu be hS 3 (nI q0)) (cwV 2 hts (tb_V cd_M_fails tq_121 tq_122 tq_123 tq_118) rfl rfl rfl hd_M_fails (rk_ok (by omega) (by omega))) (hp_preV hK hW (by omega) rfl hR.1 rfl) rfl rfl hl.1 rfl (lv_room (Nat.le_of_ble_eq_true rfl)) d_M_open_29 ⟨Nat.zero_le _, Nat.zero_le _⟩) (fun F_149 H locs hw hW => ?_)
      obtain ⟨hS1, hg1⟩ := hw
      obtain ⟨tp, hs, sz, tx, vl, ey, md, hR, ⟨htl, htp⟩, hT, ⟨hll, hvl⟩, hKs, hml0, hmd⟩ := id hS1
      refine lv_goto (tgt := 149) hx hb d_M_open_32 (by decide) ?_
      exact hp_retv S hK hW hr hlk d_M_open_149 (by rw [hO]; exact ⟨hS1, hg1⟩)
  · have c_6i := c_6
    have hkn := b2_0.mp c_6i
    have hO : opf kn stk k (rt k).length me0 lim = 2 := if_pos hkn
    refine lv_aload_n hx hb d_M_open_9 rfl (lv_at hl 0 rfl) ?_
    refine lv_iconst (v := 2) hx hb d_M_open_10 (by decide) ?_
    refine lv_iload_n hx hb d_M_open_11 rfl (lv_at hl 2 rfl) ?_
    refine hp_gov hW (va_runV S (m_fails l g z0 N ad F hN tape kn rt la mm stk ap tc fp (nI me0) (nI dp0) 0 ou ki nu be hS 2 (nI q0)) (cwV 2 hts (tb_V cd_M_fails tq_121 tq_122 tq_123 tq_118) rfl rfl rfl hd_M_fails (rk_ok (by omega) (by omega))) (hp_preV hK hW (by omega) rfl hR.1 rfl) rfl rfl hl.1 rfl (lv_room (Nat.le_of_ble_eq_true rfl)) d_M_open_12 ⟨Nat.zero_le _, Nat.zero_le _⟩) (fun F_151 H locs hw hW => ?_)
    obtain ⟨hS1, hg1⟩ := hw
    obtain ⟨tp, hs, sz, tx, vl, ey, md, hR, ⟨htl, htp⟩, hT, ⟨hll, hvl⟩, hKs, hml0, hmd⟩ := id hS1
    refine lv_goto (tgt := 149) hx hb d_M_open_15 (by decide) ?_
    exact hp_retv S hK hW hr hlk d_M_open_149 (by rw [hO]; exact ⟨hS1, hg1⟩)
end
section
/-- behind a step at place i -/
def isPush (kn : Nat → Bool) (rt : Nat → List Int32) (stk : List Nat) (xs : List Int32) (i me0 lim : Nat) : Prop := md_at xs i = 38 ∧ (md_ref xs i).1 = true ∧ (md_ref xs i).2.1 = true ∧ opf kn stk (md_ref xs i).2.2.1.toNatClampNeg (rt (md_ref xs i).2.2.1.toNatClampNeg).length me0 lim = 0
def STP (g : hp_G) (ad : Nat → Nat) (F : Nat → va_E) (tape : List Int32) (kn : Nat → Bool) (rt : Nat → List Int32) (la mm : List Int32) (stk : List Nat) (ap : Nat → Int32) (tc fp ou : Int32) (i oN me0 dp0 lim : Nat) (sub : Nat → List Int32 → md_S → Nat → md_R) (F' : Nat → va_E) : Prop :=
  (isPush kn rt stk (mC tape rt stk) i me0 lim → ∃ (ap' : Nat → Int32) (ki nu be : Int32), mS g ad F' tape kn rt la mm ((md_ref (mC tape rt stk) i).2.2.1.toNatClampNeg :: stk) ap' tc fp (nI (me0 + (rt (md_ref (mC tape rt stk) i).2.2.1.toNatClampNeg).length)) (nI (max dp0 (stk.length + 1))) 0 (if stk.length = 0 then (nI i) else ou) ki nu be ∧ ap' (stk.length + 1) = 0 ∧ ap' stk.length = nI (md_ref (mC tape rt stk) i).2.2.2 ∧ ∀ j, j < stk.length → ap' j = ap j) ∧
  (¬ isPush kn rt stk (mC tape rt stk) i me0 lim → ∃ (ap' : Nat → Int32) (ki nu be : Int32), mS g ad F' tape kn rt (md_it (txR kn rt) lim sub stk oN (mC tape rt stk) i (la, me0, dp0)).1.1 mm stk ap' tc (pf (md_it (txR kn rt) lim sub stk oN (mC tape rt stk) i (la, me0, dp0)).2.1 fp (nI (md_it (txR kn rt) lim sub stk oN (mC tape rt stk) i (la, me0, dp0)).2.2)) (nI (md_it (txR kn rt) lim sub stk oN (mC tape rt stk) i (la, me0, dp0)).1.2.1) (nI (md_it (txR kn rt) lim sub stk oN (mC tape rt stk) i (la, me0, dp0)).1.2.2) (nI (md_it (txR kn rt) lim sub stk oN (mC tape rt stk) i (la, me0, dp0)).2.1) ou ki nu be ∧ ((md_it (txR kn rt) lim sub stk oN (mC tape rt stk) i (la, me0, dp0)).2.1 = 0 → ap' stk.length = nI (md_nx (mC tape rt stk) i)) ∧ ∀ j, j < stk.length → ap' j = ap j) ∧ mFr F F'
theorem opf_en {kn : Nat → Bool} {rt : Nat → List Int32} {stk : List Nat} {k me0 dp0 lim h : Nat} {sub : Nat → List Int32 → md_S → Nat → md_R} {la : List Int32} (ho : ¬ opf kn stk k (rt k).length me0 lim = 0) : md_en (txR kn rt) lim sub stk k (la, me0, dp0) h = ((la, me0, dp0), opf kn stk k (rt k).length me0 lim, h) := by
  unfold opf at ho ⊢
  unfold md_en txR
  cases hk : kn k with
  | false => simp
  | true =>
    rw [hk] at ho
    simp only [if_pos] at ho ⊢
    by_cases h1 : k ∈ stk
    · simp [h1]
    · simp only [h1, if_false, Bool.true_eq_false] at ho ⊢
      by_cases h2 : lim < me0 + (rt k).length
      · simp [h2]
      · simp [h2] at ho

theorem hhere {stk : List Nat} {ou : Int32} {oN : Nat} (h : stk.length ≠ 0 → ou = nI oN) (x : Nat) : (if stk.length = 0 then nI x else ou) = nI (md_here stk oN x) := by
  unfold md_here
  split
  · rfl
  · rename_i h1
    exact h h1
theorem lkf_w {t n : Nat} {X : Bool × Bool × Int32 × Nat} (h : lkf t n X = 0) : X.1 = true := by
  unfold lkf at h
  split at h
  · assumption
  · split at h <;> omega
theorem lkf_t {t n : Nat} {X : Bool × Bool × Int32 × Nat} (h1 : X.1 = true) (h2 : X.2.1 = true) : lkf t n X = 0 := by
  unfold lkf
  rw [if_pos h1, if_pos (Or.inl h2)]
theorem lkf_c {t n : Nat} {X : Bool × Bool × Int32 × Nat} (h : lkf t n X = 0) (h2 : X.2.1 = false) : md_ch X.2.2.1 = true := by
  unfold lkf at h
  split at h
  · split at h
    · rename_i h3
      rcases h3 with h3 | h3
      · rw [h2] at h3; cases h3
      · exact h3
    · omega
  · split at h <;> omega
theorem ad_pf {m : Nat} {a : List Int32} {c : Int32} : pf (md_ad m a c).2 0 8 = nI (md_ad m a c).2 := by
  unfold md_ad
  split <;> rfl
section ITS
variable {tx : Nat → Option (List Int32)} {lim : Nat} {sub : Nat → List Int32 → md_S → Nat → md_R} {stk : List Nat} {oN : Nat} {xs : List Int32} {i : Nat} {la : List Int32} {me0 dp0 : Nat}
theorem it_bad (h : md_at xs i = 38) (hL : ¬ lkf stk.length xs.length (md_ref xs i) = 0) : md_it tx lim sub stk oN xs i (la, me0, dp0) = ((la, me0, dp0), lkf stk.length xs.length (md_ref xs i), md_here stk oN (lkp i (md_ref xs i))) := by
  unfold md_it lkp
  rw [if_pos h]
  unfold lkf at hL ⊢
  by_cases h1 : (md_ref xs i).1 = true
  · rw [if_pos h1] at hL
    rw [if_pos h1, if_pos h1, if_pos h1]
    unfold md_wr
    have h2 : ¬ ((md_ref xs i).2.1 = true ∨ md_ch (md_ref xs i).2.2.1 = true) := fun z => hL (if_pos z)
    rw [if_neg (fun z => h2 (Or.inl z)), if_neg h2]
    unfold md_nu
    rw [if_neg (fun z => h2 (Or.inr z))]
  · rw [if_neg h1, if_neg h1, if_neg h1]
theorem it_ent (h : md_at xs i = 38) (h1 : (md_ref xs i).1 = true) (h2 : (md_ref xs i).2.1 = true) : md_it tx lim sub stk oN xs i (la, me0, dp0) = md_en tx lim sub stk (md_ref xs i).2.2.1.toNatClampNeg (la, me0, dp0) (md_here stk oN i) := by
  unfold md_it md_wr
  rw [if_pos h, if_pos h1, if_pos h2]
theorem it_num (h : md_at xs i = 38) (h1 : (md_ref xs i).1 = true) (h2 : (md_ref xs i).2.1 = false) (h3 : md_ch (md_ref xs i).2.2.1 = true) : md_it tx lim sub stk oN xs i (la, me0, dp0) = (((md_ad 300 la (md_ref xs i).2.2.1).1, me0, dp0), (md_ad 300 la (md_ref xs i).2.2.1).2, md_here stk oN i) := by
  unfold md_it md_wr
  rw [if_pos h, if_pos h1, if_neg (by rw [h2]; exact fun z => by cases z)]
  unfold md_nu
  rw [if_pos h3]
theorem it_by {X : List Int32 × Nat} (h : ¬ md_at xs i = 38) (h1 : md_by la (md_at xs i) = X) : md_it tx lim sub stk oN xs i (la, me0, dp0) = ((X.1, me0, dp0), X.2, md_here stk oN i) := by
  unfold md_it
  rw [if_neg h, h1]
end ITS

/-! the reference: step -/
set_option maxHeartbeats 400000 in
set_option maxRecDepth 100000 in
theorem m_step (l : Launch) (g : hp_G) (z0 N : Nat) (ad : Nat → Nat) (F : Nat → va_E) (hN : 96 ≤ N) (tape : List Int32) (kn : Nat → Bool) (rt : Nat → List Int32) (la mm : List Int32) (stk : List Nat) (ap : Nat → Int32) (tc fp ou ki nu be : Int32) (me0 dp0 lim : Nat) (hme : me0 ≤ lim) (hlim : lim ≤ 100000) (hdp : dp0 ≤ 27) (hS : mS g ad F tape kn rt la mm stk ap tc fp (nI me0) (nI dp0) 0 ou ki nu be) (hnd : stk.Nodup) (i oN : Nat) (hou : stk.length ≠ 0 → ou = nI oN) (hap : ap stk.length = nI i) (hi : i < (mC tape rt stk).length) (sub : Nat → List Int32 → md_S → Nat → md_R) : hp_Mv l g z0 N ad y_M_step ws_M_step (rk 3) [.ref (ad 87), .int (nI lim)] F (STP g ad F tape kn rt la mm stk ap tc fp ou i oN me0 dp0 lim sub) := by
  have hcl := hS.cl
  have hsl := hS.sl
  have hre := md_ref_end (mC tape rt stk) i
  obtain ⟨tp, hs, sz, tx, vl, ey, md, hR, ⟨htl, htp⟩, hT, ⟨hll, hvl⟩, hKs, hml0, hmd⟩ := id hS
  refine hp_enter (cc := cc_M_step) (maxL := 4) (ret := none) (by decide) rfl (Nat.le_of_ble_eq_true rfl) ?_
  intro p e s m below meth c S hr hlk hnm hK hW ls hl
  have hl : lv_has ls 4 [(0, .ref (ad 87)), (1, .int (nI lim))] := hl
  obtain ⟨hx, hb, hml, hown, hts⟩ := id S
  have in_kM : ∀ w ∈ u_ws R_M T_M 21, w ∈ ws_M_step := fun w h => List.mem_cons_of_mem _ (in0_M w h)
  refine lv_aload_n hx hb d_M_step_0 rfl (lv_at hl 0 rfl) ?_
  refine hp_get S hK hW (87) (by omega) rfl hR.1 rfl in_kM 13 (by decide) (hts _ (List.mem_cons_of_mem _ tq_109)) rfl d_M_step_1 ?_
  refine lv_aload_n hx hb d_M_step_4 rfl (lv_at hl 0 rfl) ?_
  refine hp_get S hK hW (87) (by omega) rfl hR.1 rfl in_kM 11 (by decide) (hts _ (List.mem_cons_of_mem _ tq_107)) rfl d_M_step_5 ?_
  refine hp_iald S hK hW (94) (by omega) rfl hR.2.2.2.2.2.2.2.1 (vp_in_nI (by omega) (by omega)) d_M_step_8 ?_
  rw [show (ap ((nI stk.length) : Int32).toNatClampNeg) = (nI i) from (by rw [nI_clamp (by omega)]; exact hap)]
  refine lv_istore_n (lv' := [(2, .int (nI i)), (0, .ref (ad 87)), (1, .int (nI lim))]) hx hb d_M_step_9 rfl hl (by decide) rfl (fun ls hl => ?_)
  refine lv_aload_n hx hb d_M_step_10 rfl (lv_at hl 1 rfl) ?_
  refine lv_iload_n hx hb d_M_step_11 rfl (lv_at hl 0 rfl) ?_
  refine hp_goi hW (va_runV S (m_byteOf l g z0 N ad F hN tape kn rt la mm stk ap tc fp (nI me0) (nI dp0) 0 ou ki nu be hS i (by omega)) (cwV 1 hts (tb_V cd_M_byteOf tq_124 tq_125 tq_126 tq_118) rfl rfl rfl hd_M_byteOf (rk_ok (by omega) (by omega))) (hp_preV hK hW (by omega) rfl hR.1 rfl) rfl rfl hl.1 rfl (lv_room (Nat.le_of_ble_eq_true rfl)) d_M_step_12 ⟨Nat.zero_le _, Nat.zero_le _⟩) (fun r_1 F_2 H locs hw hW => ?_)
  obtain ⟨hvq, hFq⟩ := hw
  rw [hFq] at hW
  rw [hvq]
  refine lv_istore_n (lv' := [(3, .int (md_at (mC tape rt stk) i)), (2, .int (nI i)), (0, .ref (ad 87)), (1, .int (nI lim))]) hx hb d_M_step_15 rfl hl (by decide) rfl (fun ls hl => ?_)
  refine lv_iload_n hx hb d_M_step_16 rfl (lv_at hl 0 rfl) ?_
  refine lv_bipush (v := 38) hx hb d_M_step_17 (by decide) ?_
  refine lv_icmp_ne (tgt := 87) hx hb d_M_step_19 (by decide) (fun c_19 => ?_) (fun c_19 => ?_)
  · have c_19i := c_19
    refine lv_iload_n hx hb d_M_step_87 rfl (lv_at hl 0 rfl) ?_
    refine lv_bipush (v := 60) hx hb d_M_step_88 (by decide) ?_
    refine lv_icmp_ne (tgt := 102) hx hb d_M_step_90 (by decide) (fun c_90 => ?_) (fun c_90 => ?_)
    · have c_90i := c_90
      refine lv_iload_n hx hb d_M_step_102 rfl (lv_at hl 0 rfl) ?_
      refine hp_goi hW (va_runS S (m_isCharacter l g z0 N ad F (md_at (mC tape rt stk) i)) (va_cwS 1 hts (tb_S cd_M_isCharacter tq_132 tq_133 tq_118) rfl rfl rfl hd_M_isCharacter.2 (rk_ok (by omega) (by omega))) (hp_preS hK hW) rfl rfl hl.1 rfl (lv_room (Nat.le_of_ble_eq_true rfl)) d_M_step_103 ⟨Nat.zero_le _, Nat.zero_le _⟩) (fun r_3 F_4 H locs hw hW => ?_)
      obtain ⟨hvq, hFq⟩ := hw
      rw [hFq] at hW
      rw [hvq]
      refine lv_if_ne (tgt := 118) hx hb d_M_step_106 (by decide) (fun c_106 => ?_) (fun c_106 => ?_)
      · have c_106i := c_106
        refine lv_aload_n hx hb d_M_step_118 rfl (lv_at hl 2 rfl) ?_
        refine lv_iload_n hx hb d_M_step_119 rfl (lv_at hl 0 rfl) ?_
        refine lv_bipush (v := 32) hx hb d_M_step_120 (by decide) ?_
        refine lv_icmp_ge (tgt := 130) hx hb d_M_step_122 (by decide) (fun c_122 => ?_) (fun c_122 => ?_)
        · have c_122i := c_122
          have c_122j := Int32.not_lt.mpr c_122
          refine lv_iload_n hx hb d_M_step_130 rfl (lv_at hl 0 rfl) ?_
          refine lv_iload_n hx hb d_M_step_131 rfl (lv_at hl 1 rfl) ?_
          refine hp_gov hW (va_runV S (m_add l g z0 N ad F hN tape kn rt la mm stk ap tc fp (nI me0) (nI dp0) 0 ou ki nu be hS (md_at (mC tape rt stk) i) (nI i)) (cwV 2 hts (tb_V cd_M_add tq_143 tq_144 tq_145 tq_118) rfl rfl rfl hd_M_add (rk_ok (by omega) (by omega))) (hp_preV hK hW (by omega) rfl hR.1 rfl) rfl rfl hl.1 rfl (lv_room (Nat.le_of_ble_eq_true rfl)) d_M_step_132 ⟨Nat.zero_le _, Nat.zero_le _⟩) (fun F_6 H locs hw hW => ?_)
          obtain ⟨hS1, hg1⟩ := hw
          obtain ⟨tp, hs, sz, tx, vl, ey, md, hR, ⟨htl, htp⟩, hT, ⟨hll, hvl⟩, hKs, hml0, hmd⟩ := id hS1
          refine lv_aload_n hx hb d_M_step_135 rfl (lv_at hl 2 rfl) ?_
          refine hp_get S hK hW (87) (by omega) rfl hR.1 rfl in_kM 13 (by decide) (hts _ (List.mem_cons_of_mem _ tq_109)) rfl d_M_step_136 ?_
          refine lv_aload_n hx hb d_M_step_139 rfl (lv_at hl 2 rfl) ?_
          refine hp_get S hK hW (87) (by omega) rfl hR.1 rfl in_kM 11 (by decide) (hts _ (List.mem_cons_of_mem _ tq_107)) rfl d_M_step_140 ?_
          refine lv_iload_n hx hb d_M_step_143 rfl (lv_at hl 1 rfl) ?_
          refine lv_iconst (v := 1) hx hb d_M_step_144 (by decide) ?_
          refine lv_iadd hx hb d_M_step_145 ?_
          rw [show ((nI i) + 1) = (nI (i + 1)) from (nI_succ i).symm]
          refine hp_iast S hK hW (94) (by omega) rfl hR.2.2.2.2.2.2.2.1 (x := (nI (i + 1))) (vp_in_nI (by omega) (by omega)) d_M_step_146 (fun H locs hW => ?_)
          obtain ⟨F_7, eF_7⟩ : ∃ z, z = va_up F_6 (94) (.inl (g.2 0, 28, .inl (upd ap stk.length (nI (i + 1))))) := ⟨_, rfl⟩
          rw [show (((nI stk.length) : Int32).toNatClampNeg) = stk.length from nI_clamp (by omega)] at hW
          replace hW : hp_W g z0 N ad F_7 s.heap H locs := by rw [eF_7]; exact hW
          have f_8 : F_7 (87) = .inr (kM, [.int tc, .ref (ad 88), .int (nI tape.length), .ref (ad 89), .ref (ad 90), .ref (ad 91), .ref (ad 92), .int (nI ((md_ad 300 la (md_at (mC tape rt stk) i)).1).length), .int (pf (md_ad 300 la (md_at (mC tape rt stk) i)).2 fp (if stk.length = 0 then (nI i) else ou)), .int (nI me0), .int (nI dp0), .int (nI stk.length), .ref (ad 93), .ref (ad 94), .int (pf (md_ad 300 la (md_at (mC tape rt stk) i)).2 0 8), .int ou, .int ki, .int nu, .int be, .ref (ad 95), .int (nI mm.length)]) := by rw [eF_7, va_up_ne _ _ (by omega)]; exact hR.1
          have f_9 : F_7 (88) = .inl (g.2 0, 200, .inl tp) := by rw [eF_7, va_up_ne _ _ (by omega)]; exact hR.2.1
          have f_10 : F_7 (89) = .inl (g.2 2, 26, .inl hs) := by rw [eF_7, va_up_ne _ _ (by omega)]; exact hR.2.2.1
          have f_11 : F_7 (90) = .inl (g.2 0, 26, .inl sz) := by rw [eF_7, va_up_ne _ _ (by omega)]; exact hR.2.2.2.1
          have f_12 : F_7 (91) = .inl (g.2 0, 2600, .inl tx) := by rw [eF_7, va_up_ne _ _ (by omega)]; exact hR.2.2.2.2.1
          have f_13 : F_7 (92) = .inl (g.2 0, 301, .inl vl) := by rw [eF_7, va_up_ne _ _ (by omega)]; exact hR.2.2.2.2.2.1
          have f_14 : F_7 (93) = .inl (g.2 0, 28, .inl ey) := by rw [eF_7, va_up_ne _ _ (by omega)]; exact hR.2.2.2.2.2.2.1
          have f_15 : F_7 (94) = .inl (g.2 0, 28, .inl (upd ap stk.length (nI (i + 1)))) := by rw [eF_7, va_up_self]
          have f_16 : F_7 (95) = .inl (g.2 0, 204, .inl md) := by rw [eF_7, va_up_ne _ _ (by omega)]; exact hR.2.2.2.2.2.2.2.2
          have hf_17 : mFr F_6 F_7 := fun x hx => by rw [eF_7, va_up_ne _ _ (by omega)]
          have hgo := True.intro
          have h38 := c_19i
          have hnp : ¬ isPush kn rt stk (mC tape rt stk) i me0 lim := fun hp => h38 hp.1
          have hIT : (md_it (txR kn rt) lim sub stk oN (mC tape rt stk) i (la, me0, dp0)) = (((md_ad 300 la (md_at (mC tape rt stk) i)).1, me0, dp0), (md_ad 300 la (md_at (mC tape rt stk) i)).2, md_here stk oN i) := it_by h38 (by unfold md_by; rw [if_neg c_90i, if_pos (b2_n0.mp c_106i), if_neg (Int32.not_lt.mpr c_122i)])
          have hnx : md_nx (mC tape rt stk) i = i + 1 := if_neg h38
          exact hp_retv S hK hW hr hlk d_M_step_147 (⟨fun hp => absurd hp hnp, fun _ => ⟨_, _, _, _, by rw [hIT, ← hhere hou, ← ad_pf]; exact ⟨tp, hs, sz, tx, vl, ey, md, ⟨f_8, f_9, f_10, f_11, f_12, f_13, f_14, f_15, f_16⟩, ⟨htl, htp⟩, hT, ⟨hll, hvl⟩, hKs, hml0, hmd⟩, fun _ => by rw [hnx, pk_us], fun j hj => pk_un (by omega)⟩, (hg1.tr hf_17)⟩)
        · have c_122i := c_122
          have c_122j := Int32.not_le.mp c_122
          refine lv_bipush (v := 32) hx hb d_M_step_125 (by decide) ?_
          refine lv_goto (tgt := 131) hx hb d_M_step_127 (by decide) ?_
          refine lv_iload_n hx hb d_M_step_131 rfl (lv_at hl 1 rfl) ?_
          refine hp_gov hW (va_runV S (m_add l g z0 N ad F hN tape kn rt la mm stk ap tc fp (nI me0) (nI dp0) 0 ou ki nu be hS 32 (nI i)) (cwV 2 hts (tb_V cd_M_add tq_143 tq_144 tq_145 tq_118) rfl rfl rfl hd_M_add (rk_ok (by omega) (by omega))) (hp_preV hK hW (by omega) rfl hR.1 rfl) rfl rfl hl.1 rfl (lv_room (Nat.le_of_ble_eq_true rfl)) d_M_step_132 ⟨Nat.zero_le _, Nat.zero_le _⟩) (fun F_19 H locs hw hW => ?_)
          obtain ⟨hS1, hg1⟩ := hw
          obtain ⟨tp, hs, sz, tx, vl, ey, md, hR, ⟨htl, htp⟩, hT, ⟨hll, hvl⟩, hKs, hml0, hmd⟩ := id hS1
          refine lv_aload_n hx hb d_M_step_135 rfl (lv_at hl 2 rfl) ?_
          refine hp_get S hK hW (87) (by omega) rfl hR.1 rfl in_kM 13 (by decide) (hts _ (List.mem_cons_of_mem _ tq_109)) rfl d_M_step_136 ?_
          refine lv_aload_n hx hb d_M_step_139 rfl (lv_at hl 2 rfl) ?_
          refine hp_get S hK hW (87) (by omega) rfl hR.1 rfl in_kM 11 (by decide) (hts _ (List.mem_cons_of_mem _ tq_107)) rfl d_M_step_140 ?_
          refine lv_iload_n hx hb d_M_step_143 rfl (lv_at hl 1 rfl) ?_
          refine lv_iconst (v := 1) hx hb d_M_step_144 (by decide) ?_
          refine lv_iadd hx hb d_M_step_145 ?_
          rw [show ((nI i) + 1) = (nI (i + 1)) from (nI_succ i).symm]
          refine hp_iast S hK hW (94) (by omega) rfl hR.2.2.2.2.2.2.2.1 (x := (nI (i + 1))) (vp_in_nI (by omega) (by omega)) d_M_step_146 (fun H locs hW => ?_)
          obtain ⟨F_20, eF_20⟩ : ∃ z, z = va_up F_19 (94) (.inl (g.2 0, 28, .inl (upd ap stk.length (nI (i + 1))))) := ⟨_, rfl⟩
          rw [show (((nI stk.length) : Int32).toNatClampNeg) = stk.length from nI_clamp (by omega)] at hW
          replace hW : hp_W g z0 N ad F_20 s.heap H locs := by rw [eF_20]; exact hW
          have f_21 : F_20 (87) = .inr (kM, [.int tc, .ref (ad 88), .int (nI tape.length), .ref (ad 89), .ref (ad 90), .ref (ad 91), .ref (ad 92), .int (nI ((md_ad 300 la 32).1).length), .int (pf (md_ad 300 la 32).2 fp (if stk.length = 0 then (nI i) else ou)), .int (nI me0), .int (nI dp0), .int (nI stk.length), .ref (ad 93), .ref (ad 94), .int (pf (md_ad 300 la 32).2 0 8), .int ou, .int ki, .int nu, .int be, .ref (ad 95), .int (nI mm.length)]) := by rw [eF_20, va_up_ne _ _ (by omega)]; exact hR.1
          have f_22 : F_20 (88) = .inl (g.2 0, 200, .inl tp) := by rw [eF_20, va_up_ne _ _ (by omega)]; exact hR.2.1
          have f_23 : F_20 (89) = .inl (g.2 2, 26, .inl hs) := by rw [eF_20, va_up_ne _ _ (by omega)]; exact hR.2.2.1
          have f_24 : F_20 (90) = .inl (g.2 0, 26, .inl sz) := by rw [eF_20, va_up_ne _ _ (by omega)]; exact hR.2.2.2.1
          have f_25 : F_20 (91) = .inl (g.2 0, 2600, .inl tx) := by rw [eF_20, va_up_ne _ _ (by omega)]; exact hR.2.2.2.2.1
          have f_26 : F_20 (92) = .inl (g.2 0, 301, .inl vl) := by rw [eF_20, va_up_ne _ _ (by omega)]; exact hR.2.2.2.2.2.1
          have f_27 : F_20 (93) = .inl (g.2 0, 28, .inl ey) := by rw [eF_20, va_up_ne _ _ (by omega)]; exact hR.2.2.2.2.2.2.1
          have f_28 : F_20 (94) = .inl (g.2 0, 28, .inl (upd ap stk.length (nI (i + 1)))) := by rw [eF_20, va_up_self]
          have f_29 : F_20 (95) = .inl (g.2 0, 204, .inl md) := by rw [eF_20, va_up_ne _ _ (by omega)]; exact hR.2.2.2.2.2.2.2.2
          have hf_30 : mFr F_19 F_20 := fun x hx => by rw [eF_20, va_up_ne _ _ (by omega)]
          have hgo := True.intro
          have h38 := c_19i
          have hnp : ¬ isPush kn rt stk (mC tape rt stk) i me0 lim := fun hp => h38 hp.1
          have hIT : (md_it (txR kn rt) lim sub stk oN (mC tape rt stk) i (la, me0, dp0)) = (((md_ad 300 la 32).1, me0, dp0), (md_ad 300 la 32).2, md_here stk oN i) := it_by h38 (by unfold md_by; rw [if_neg c_90i, if_pos (b2_n0.mp c_106i), if_pos (Int32.not_le.mp c_122i)])
          have hnx : md_nx (mC tape rt stk) i = i + 1 := if_neg h38
          exact hp_retv S hK hW hr hlk d_M_step_147 (⟨fun hp => absurd hp hnp, fun _ => ⟨_, _, _, _, by rw [hIT, ← hhere hou, ← ad_pf]; exact ⟨tp, hs, sz, tx, vl, ey, md, ⟨f_21, f_22, f_23, f_24, f_25, f_26, f_27, f_28, f_29⟩, ⟨htl, htp⟩, hT, ⟨hll, hvl⟩, hKs, hml0, hmd⟩, fun _ => by rw [hnx, pk_us], fun j hj => pk_un (by omega)⟩, (hg1.tr hf_30)⟩)
      · have c_106i := c_106
        refine lv_aload_n hx hb d_M_step_109 rfl (lv_at hl 2 rfl) ?_
        refine lv_iconst (v := 1) hx hb d_M_step_110 (by decide) ?_
        refine lv_iload_n hx hb d_M_step_111 rfl (lv_at hl 1 rfl) ?_
        refine hp_gov hW (va_runV S (m_fails l g z0 N ad F hN tape kn rt la mm stk ap tc fp (nI me0) (nI dp0) 0 ou ki nu be hS 1 (nI i)) (cwV 2 hts (tb_V cd_M_fails tq_121 tq_122 tq_123 tq_118) rfl rfl rfl hd_M_fails (rk_ok (by omega) (by omega))) (hp_preV hK hW (by omega) rfl hR.1 rfl) rfl rfl hl.1 rfl (lv_room (Nat.le_of_ble_eq_true rfl)) d_M_step_112 ⟨Nat.zero_le _, Nat.zero_le _⟩) (fun F_32 H locs hw hW => ?_)
        obtain ⟨hS1, hg1⟩ := hw
        obtain ⟨tp, hs, sz, tx, vl, ey, md, hR, ⟨htl, htp⟩, hT, ⟨hll, hvl⟩, hKs, hml0, hmd⟩ := id hS1
        refine lv_goto (tgt := 147) hx hb d_M_step_115 (by decide) ?_
        have hgo := True.intro
        have h38 := c_19i
        have hnp : ¬ isPush kn rt stk (mC tape rt stk) i me0 lim := fun hp => h38 hp.1
        have hIT : (md_it (txR kn rt) lim sub stk oN (mC tape rt stk) i (la, me0, dp0)) = ((la, me0, dp0), 1, md_here stk oN i) := it_by h38 (by unfold md_by; rw [if_neg c_90i, if_neg (by rw [b2_0.mp c_106i]; exact fun z => by cases z)])
        exact hp_retv S hK hW hr hlk d_M_step_147 (⟨fun hp => absurd hp hnp, fun _ => ⟨ap, _, _, _, by rw [hIT, ← hhere hou]; exact hS1, fun z => absurd z (by rw [hIT]; show ¬ (1 : Nat) = 0; decide), fun _ _ => rfl⟩, hg1⟩)
    · have c_90i := c_90
      refine lv_aload_n hx hb d_M_step_93 rfl (lv_at hl 2 rfl) ?_
      refine lv_iconst (v := 4) hx hb d_M_step_94 (by decide) ?_
      refine lv_iload_n hx hb d_M_step_95 rfl (lv_at hl 1 rfl) ?_
      refine hp_gov hW (va_runV S (m_fails l g z0 N ad F hN tape kn rt la mm stk ap tc fp (nI me0) (nI dp0) 0 ou ki nu be hS 4 (nI i)) (cwV 2 hts (tb_V cd_M_fails tq_121 tq_122 tq_123 tq_118) rfl rfl rfl hd_M_fails (rk_ok (by omega) (by omega))) (hp_preV hK hW (by omega) rfl hR.1 rfl) rfl rfl hl.1 rfl (lv_room (Nat.le_of_ble_eq_true rfl)) d_M_step_96 ⟨Nat.zero_le _, Nat.zero_le _⟩) (fun F_34 H locs hw hW => ?_)
      obtain ⟨hS1, hg1⟩ := hw
      obtain ⟨tp, hs, sz, tx, vl, ey, md, hR, ⟨htl, htp⟩, hT, ⟨hll, hvl⟩, hKs, hml0, hmd⟩ := id hS1
      refine lv_goto (tgt := 147) hx hb d_M_step_99 (by decide) ?_
      have hgo := True.intro
      have h38 := c_19i
      have hnp : ¬ isPush kn rt stk (mC tape rt stk) i me0 lim := fun hp => h38 hp.1
      have hIT : (md_it (txR kn rt) lim sub stk oN (mC tape rt stk) i (la, me0, dp0)) = ((la, me0, dp0), 4, md_here stk oN i) := it_by h38 (by unfold md_by; rw [if_pos c_90i])
      exact hp_retv S hK hW hr hlk d_M_step_147 (⟨fun hp => absurd hp hnp, fun _ => ⟨ap, _, _, _, by rw [hIT, ← hhere hou]; exact hS1, fun z => absurd z (by rw [hIT]; show ¬ (4 : Nat) = 0; decide), fun _ _ => rfl⟩, hg1⟩)
  · have c_19i := c_19
    refine lv_aload_n hx hb d_M_step_22 rfl (lv_at hl 2 rfl) ?_
    refine lv_iload_n hx hb d_M_step_23 rfl (lv_at hl 1 rfl) ?_
    refine hp_gov hW (va_runV S (m_look l g z0 N ad F hN tape kn rt la mm stk ap tc fp (nI me0) (nI dp0) ou ki nu be hS i (by omega)) (cwV 1 hts (tb_V cd_M_look tq_137 tq_138 tq_139 tq_118) rfl rfl rfl hd_M_look (rk_ok (by omega) (by omega))) (hp_preV hK hW (by omega) rfl hR.1 rfl) rfl rfl hl.1 rfl (lv_room (Nat.le_of_ble_eq_true rfl)) d_M_step_24 ⟨Nat.zero_le _, Nat.zero_le _⟩) (fun F_36 H locs hw hW => ?_)
    obtain ⟨ki1, nu1, be1, hS1, hw1, hg1⟩ := hw
    have hLl : lkf stk.length (mC tape rt stk).length (md_ref (mC tape rt stk) i) ≤ 8 := lkf_le _ _ _
    obtain ⟨tp, hs, sz, tx, vl, ey, md, hR, ⟨htl, htp⟩, hT, ⟨hll, hvl⟩, hKs, hml0, hmd⟩ := id hS1
    refine lv_aload_n hx hb d_M_step_27 rfl (lv_at hl 2 rfl) ?_
    refine hp_get S hK hW (87) (by omega) rfl hR.1 rfl in_kM 14 (by decide) (hts _ (List.mem_cons_of_mem _ tq_110)) rfl d_M_step_28 ?_
    refine lv_if_ne (tgt := 55) hx hb d_M_step_31 (by decide) (fun c_31 => ?_) (fun c_31 => ?_)
    · have c_31i := c_31
      replace c_31 : ¬ (lkf stk.length (mC tape rt stk).length (md_ref (mC tape rt stk) i)) = 0 := fun zz9 => c_31 ((nI_eq (a := (lkf stk.length (mC tape rt stk).length (md_ref (mC tape rt stk) i))) (b := 0) (by omega) (by omega)).mpr zz9)
      have hL := c_31
      refine lv_aload_n hx hb d_M_step_55 rfl (lv_at hl 2 rfl) ?_
      refine hp_get S hK hW (87) (by omega) rfl hR.1 rfl in_kM 14 (by decide) (hts _ (List.mem_cons_of_mem _ tq_110)) rfl d_M_step_56 ?_
      refine lv_if_ne (tgt := 147) hx hb d_M_step_59 (by decide) (fun c_59 => ?_) (fun c_59 => absurd c_59 (show ¬ ((nI (lkf stk.length (mC tape rt stk).length (md_ref (mC tape rt stk) i))) : Int32) = 0 from c_31i))
      have hgo := True.intro
      have h38 := c_19i
      have hIT : (md_it (txR kn rt) lim sub stk oN (mC tape rt stk) i (la, me0, dp0)) = ((la, me0, dp0), lkf stk.length (mC tape rt stk).length (md_ref (mC tape rt stk) i), md_here stk oN (lkp i (md_ref (mC tape rt stk) i))) := it_bad h38 hL
      exact hp_retv S hK hW hr hlk d_M_step_147 (⟨fun hp => absurd (lkf_t hp.2.1 hp.2.2.1) hL, fun _ => ⟨ap, ki1, nu1, be1, by rw [hIT, ← hhere hou]; rw [pf_n hL] at hS1 ⊢; exact hS1, fun z => absurd z (by rw [hIT]; exact hL), fun _ _ => rfl⟩, hg1⟩)
    · have c_31i := c_31
      replace c_31 : (lkf stk.length (mC tape rt stk).length (md_ref (mC tape rt stk) i)) = 0 := (nI_eq (a := (lkf stk.length (mC tape rt stk).length (md_ref (mC tape rt stk) i))) (b := 0) (by omega) (by omega)).mp c_31
      have hL := c_31
      have hWt : (md_ref (mC tape rt stk) i).1 = true := lkf_w hL
      obtain ⟨eb, enu, ek⟩ := hw1 hWt
      subst eb enu ek
      rw [hL, pf_0 rfl] at hS1
      obtain ⟨tp, hs, sz, tx, vl, ey, md, hR, ⟨htl, htp⟩, hT, ⟨hll, hvl⟩, hKs, hml0, hmd⟩ := id hS1
      refine lv_aload_n hx hb d_M_step_34 rfl (lv_at hl 2 rfl) ?_
      refine hp_get S hK hW (87) (by omega) rfl hR.1 rfl in_kM 16 (by decide) (hts _ (List.mem_cons_of_mem _ tq_112)) rfl d_M_step_35 ?_
      refine lv_iconst (v := 1) hx hb d_M_step_38 (by decide) ?_
      refine lv_icmp_ne (tgt := 55) hx hb d_M_step_39 (by decide) (fun c_39 => ?_) (fun c_39 => ?_)
      · have c_39i := c_39
        have hTf : (md_ref (mC tape rt stk) i).2.1 = false := by cases hz : (md_ref (mC tape rt stk) i).2.1 with | false => rfl | true => exact absurd (by rw [hz]; rfl) c_39i
        refine lv_aload_n hx hb d_M_step_55 rfl (lv_at hl 2 rfl) ?_
        refine hp_get S hK hW (87) (by omega) rfl hR.1 rfl in_kM 14 (by decide) (hts _ (List.mem_cons_of_mem _ tq_110)) rfl d_M_step_56 ?_
        refine lv_if_ne (tgt := 147) hx hb d_M_step_59 (by decide) (fun c_59 => absurd c_59 (show ¬ (¬ (0 : Int32) = 0) from fun z => z rfl)) (fun c_59 => ?_)
        refine lv_aload_n hx hb d_M_step_62 rfl (lv_at hl 2 rfl) ?_
        refine lv_aload_n hx hb d_M_step_63 rfl (lv_at hl 2 rfl) ?_
        refine hp_get S hK hW (87) (by omega) rfl hR.1 rfl in_kM 17 (by decide) (hts _ (List.mem_cons_of_mem _ tq_113)) rfl d_M_step_64 ?_
        refine lv_iload_n hx hb d_M_step_67 rfl (lv_at hl 1 rfl) ?_
        refine hp_gov hW (va_runV S (m_add l g z0 N ad F_36 hN tape kn rt la mm stk ap tc fp (nI me0) (nI dp0) 0 ou (if (md_ref (mC tape rt stk) i).2.1 = true then 1 else 2) ((md_ref (mC tape rt stk) i).2.2.1) (nI (md_ref (mC tape rt stk) i).2.2.2) hS1 (md_ref (mC tape rt stk) i).2.2.1 (nI i)) (cwV 2 hts (tb_V cd_M_add tq_143 tq_144 tq_145 tq_118) rfl rfl rfl hd_M_add (rk_ok (by omega) (by omega))) (hp_preV hK hW (by omega) rfl hR.1 rfl) rfl rfl hl.1 rfl (lv_room (Nat.le_of_ble_eq_true rfl)) d_M_step_68 ⟨Nat.zero_le _, Nat.zero_le _⟩) (fun F_38 H locs hw hW => ?_)
        obtain ⟨hS2, hg2⟩ := hw
        obtain ⟨tp, hs, sz, tx, vl, ey, md, hR, ⟨htl, htp⟩, hT, ⟨hll, hvl⟩, hKs, hml0, hmd⟩ := id hS2
        refine lv_aload_n hx hb d_M_step_71 rfl (lv_at hl 2 rfl) ?_
        refine hp_get S hK hW (87) (by omega) rfl hR.1 rfl in_kM 13 (by decide) (hts _ (List.mem_cons_of_mem _ tq_109)) rfl d_M_step_72 ?_
        refine lv_aload_n hx hb d_M_step_75 rfl (lv_at hl 2 rfl) ?_
        refine hp_get S hK hW (87) (by omega) rfl hR.1 rfl in_kM 11 (by decide) (hts _ (List.mem_cons_of_mem _ tq_107)) rfl d_M_step_76 ?_
        refine lv_aload_n hx hb d_M_step_79 rfl (lv_at hl 2 rfl) ?_
        refine hp_get S hK hW (87) (by omega) rfl hR.1 rfl in_kM 18 (by decide) (hts _ (List.mem_cons_of_mem _ tq_114)) rfl d_M_step_80 ?_
        refine hp_iast S hK hW (94) (by omega) rfl hR.2.2.2.2.2.2.2.1 (x := (nI (md_ref (mC tape rt stk) i).2.2.2)) (vp_in_nI (by omega) (by omega)) d_M_step_83 (fun H locs hW => ?_)
        obtain ⟨F_39, eF_39⟩ : ∃ z, z = va_up F_38 (94) (.inl (g.2 0, 28, .inl (upd ap stk.length (nI (md_ref (mC tape rt stk) i).2.2.2)))) := ⟨_, rfl⟩
        rw [show (((nI stk.length) : Int32).toNatClampNeg) = stk.length from nI_clamp (by omega)] at hW
        replace hW : hp_W g z0 N ad F_39 s.heap H locs := by rw [eF_39]; exact hW
        have f_40 : F_39 (87) = .inr (kM, [.int tc, .ref (ad 88), .int (nI tape.length), .ref (ad 89), .ref (ad 90), .ref (ad 91), .ref (ad 92), .int (nI ((md_ad 300 la (md_ref (mC tape rt stk) i).2.2.1).1).length), .int (pf (md_ad 300 la (md_ref (mC tape rt stk) i).2.2.1).2 fp (if stk.length = 0 then (nI i) else ou)), .int (nI me0), .int (nI dp0), .int (nI stk.length), .ref (ad 93), .ref (ad 94), .int (pf (md_ad 300 la (md_ref (mC tape rt stk) i).2.2.1).2 0 8), .int ou, .int (if (md_ref (mC tape rt stk) i).2.1 = true then 1 else 2), .int ((md_ref (mC tape rt stk) i).2.2.1), .int (nI (md_ref (mC tape rt stk) i).2.2.2), .ref (ad 95), .int (nI mm.length)]) := by rw [eF_39, va_up_ne _ _ (by omega)]; exact hR.1
        have f_41 : F_39 (88) = .inl (g.2 0, 200, .inl tp) := by rw [eF_39, va_up_ne _ _ (by omega)]; exact hR.2.1
        have f_42 : F_39 (89) = .inl (g.2 2, 26, .inl hs) := by rw [eF_39, va_up_ne _ _ (by omega)]; exact hR.2.2.1
        have f_43 : F_39 (90) = .inl (g.2 0, 26, .inl sz) := by rw [eF_39, va_up_ne _ _ (by omega)]; exact hR.2.2.2.1
        have f_44 : F_39 (91) = .inl (g.2 0, 2600, .inl tx) := by rw [eF_39, va_up_ne _ _ (by omega)]; exact hR.2.2.2.2.1
        have f_45 : F_39 (92) = .inl (g.2 0, 301, .inl vl) := by rw [eF_39, va_up_ne _ _ (by omega)]; exact hR.2.2.2.2.2.1
        have f_46 : F_39 (93) = .inl (g.2 0, 28, .inl ey) := by rw [eF_39, va_up_ne _ _ (by omega)]; exact hR.2.2.2.2.2.2.1
        have f_47 : F_39 (94) = .inl (g.2 0, 28, .inl (upd ap stk.length (nI (md_ref (mC tape rt stk) i).2.2.2))) := by rw [eF_39, va_up_self]
        have f_48 : F_39 (95) = .inl (g.2 0, 204, .inl md) := by rw [eF_39, va_up_ne _ _ (by omega)]; exact hR.2.2.2.2.2.2.2.2
        have hf_49 : mFr F_38 F_39 := fun x hx => by rw [eF_39, va_up_ne _ _ (by omega)]
        refine lv_goto (tgt := 147) hx hb d_M_step_84 (by decide) ?_
        have hgo := True.intro
        have h38 := c_19i
        have hch : md_ch (md_ref (mC tape rt stk) i).2.2.1 = true := lkf_c hL hTf
        have hIT : (md_it (txR kn rt) lim sub stk oN (mC tape rt stk) i (la, me0, dp0)) = (((md_ad 300 la (md_ref (mC tape rt stk) i).2.2.1).1, me0, dp0), (md_ad 300 la (md_ref (mC tape rt stk) i).2.2.1).2, md_here stk oN i) := it_num h38 hWt hTf hch
        have hnx : md_nx (mC tape rt stk) i = (md_ref (mC tape rt stk) i).2.2.2 := if_pos h38
        exact hp_retv S hK hW hr hlk d_M_step_147 (⟨fun hp => absurd hp.2.2.1 (by rw [hTf]; exact fun z => by cases z), fun _ => ⟨_, _, _, _, by rw [hIT, ← hhere hou, ← ad_pf]; exact ⟨tp, hs, sz, tx, vl, ey, md, ⟨f_40, f_41, f_42, f_43, f_44, f_45, f_46, f_47, f_48⟩, ⟨htl, htp⟩, hT, ⟨hll, hvl⟩, hKs, hml0, hmd⟩, fun _ => by rw [hnx, pk_us], fun j hj => pk_un (by omega)⟩, ((hg1.tr hg2).tr hf_49)⟩)
      · have c_39i := c_39
        have hTt : (md_ref (mC tape rt stk) i).2.1 = true := by cases hz : (md_ref (mC tape rt stk) i).2.1 with | true => rfl | false => exact absurd c_39i (by rw [hz]; decide)
        refine lv_aload_n hx hb d_M_step_42 rfl (lv_at hl 2 rfl) ?_
        refine lv_aload_n hx hb d_M_step_43 rfl (lv_at hl 2 rfl) ?_
        refine hp_get S hK hW (87) (by omega) rfl hR.1 rfl in_kM 17 (by decide) (hts _ (List.mem_cons_of_mem _ tq_113)) rfl d_M_step_44 ?_
        refine lv_iload_n hx hb d_M_step_47 rfl (lv_at hl 1 rfl) ?_
        refine lv_iload_n hx hb d_M_step_48 rfl (lv_at hl 3 rfl) ?_
        have h9 := md_ref_ent hWt hTt
        obtain ⟨k, hk, ek⟩ := nu_k h9.1.1 h9.1.2
        have ek2 : (md_ref (mC tape rt stk) i).2.2.1 = nI k := h9.2.1.trans ek
        have ekc : (md_ref (mC tape rt stk) i).2.2.1.toNatClampNeg = k := by rw [ek2]; exact nI_clamp (by omega)
        rw [ek2] at hS1 ⊢
        obtain ⟨tp, hs, sz, tx, vl, ey, md, hR, ⟨htl, htp⟩, hT, ⟨hll, hvl⟩, hKs, hml0, hmd⟩ := id hS1
        refine hp_gov hW (va_runV S (m_open l g z0 N ad F_36 hN tape kn rt la mm stk ap tc fp ou (if (md_ref (mC tape rt stk) i).2.1 = true then 1 else 2) (nI k) (nI (md_ref (mC tape rt stk) i).2.2.2) me0 dp0 lim hme hlim hdp hS1 hnd k i hk (by omega)) (cwV 3 hts (tb_V cd_M_open tq_140 tq_141 tq_142 tq_118) rfl rfl rfl hd_M_open (rk_ok (by omega) (by omega))) (hp_preV hK hW (by omega) rfl hR.1 rfl) rfl rfl hl.1 rfl (lv_room (Nat.le_of_ble_eq_true rfl)) d_M_step_49 ⟨Nat.zero_le _, Nat.zero_le _⟩) (fun F_51 H locs hw hW => ?_)
        obtain ⟨hO2, hg2⟩ := hw
        refine lv_goto (tgt := 147) hx hb d_M_step_52 (by decide) ?_
        have hgo := True.intro
        have h38 := c_19i
        rw [← ekc] at hO2
        exact hp_retv S hK hW hr hlk d_M_step_147 (⟨fun hp => by rw [if_pos hp.2.2.2] at hO2; exact ⟨_, _, _, _, hO2, by rw [pk_us], by rw [pk_un (by omega), pk_us], fun j hj => by rw [pk_un (by omega), pk_un (by omega)]⟩, fun hp => by have hne : ¬ opf kn stk (md_ref (mC tape rt stk) i).2.2.1.toNatClampNeg (rt (md_ref (mC tape rt stk) i).2.2.1.toNatClampNeg).length me0 lim = 0 := fun z => hp ⟨h38, hWt, hTt, z⟩; rw [if_neg hne, hhere hou] at hO2; rw [it_ent h38 hWt hTt, opf_en hne]; exact ⟨_, _, _, _, by rw [pf_n hne]; exact hO2, fun z => absurd z hne, fun _ _ => rfl⟩, (hg1.tr hg2)⟩)
end
section
theorem le25 {x : Int32} (h : x ≤ 25) : x < 26 := by
  rw [Int32.le_iff_toInt_le] at h
  rw [Int32.lt_iff_toInt_lt]
  have e1 : (25 : Int32).toInt = 25 := rfl
  have e2 : (26 : Int32).toInt = 26 := rfl
  omega

/-! the reference: trim, its loop -/
set_option maxHeartbeats 400000 in
set_option maxRecDepth 100000 in
theorem lp_trim {p : Program} {e : Env} {s : State} {m : MethodId} {args : Array Value} {below : List Frame} {meth : Method} {c : Code} (l : Launch) (g : hp_G) (z0 N : Nat) (ad : Nat → Nat)  (hN : 96 ≤ N) (tape : List Int32) (kn : Nat → Bool) (rt : Nat → List Int32) (la mm : List Int32) (stk : List Nat) (ap : Nat → Int32) (tc fp me dp fa ou ki nu be : Int32) (tp hs sz tx ey md : Nat → Int32) (htl : tape.length ≤ 200) (htp : mL tp 0 tape) (hT : mT kn rt hs sz tx) (hll : la.length ≤ 300) (hKs : mK kn ey stk) (hml0 : mm.length ≤ 100) (hmd : mL md 0 mm) (Fz : Nat → va_E) (S : CallFix p m c cc_M_trim 4 s args ws_M_trim R_M) (hr : meth.sig.returnType = none) (hlk : meth.locks = false) (hK : hp_K g s) : ∀ (j : Nat) (i : Nat) (F : Nat → va_E) (vl : Nat → Int32), i ≤ la.length → la.length + 1 ≤ i + j → mSt g ad F tc (nI tape.length) (nI la.length) fp me dp (nI stk.length) fa ou ki nu be (nI mm.length) tp hs sz tx vl ey ap md → sqI vl la i → mFr Fz F → ∀ (H : Heap) (locs : List Loc) (ls : Array Slot), hp_W g z0 N ad F s.heap H locs → lv_has ls 4 [(0, .ref (ad 87)), (1, .int (nI (md_sqs la i).length)), (2, .int (nI i))] → W p l e (rk 0) s m args below meth c H locs 0 0 (MQ below (va_Qv (fun F' => mS g ad F' tape kn rt (md_sq la) mm stk ap tc fp me dp fa ou ki nu be ∧ mFr Fz F') (hp_B g z0 N ad) (hp_A z0)) args s 0 0 (hp_A z0)) (F0 m 4 ls []) := by
  obtain ⟨hx, hb, hml, hown, hts⟩ := id S
  have in_kM : ∀ w ∈ u_ws R_M T_M 21, w ∈ ws_M_trim := fun w h => List.mem_cons_of_mem _ (in0_M w h)
  intro j
  induction j with
  | zero =>
    intro i F vl hi hj hR hI hfr H locs ls hW hl
    exact absurd hj (by omega)
  | succ j ih =>
    intro i F vl hi hj hR hI hfr H locs ls hW hl
    refine lv_iload_n hx hb d_M_trim_4 rfl (lv_at hl 2 rfl) ?_
    refine lv_aload_n hx hb d_M_trim_5 rfl (lv_at hl 0 rfl) ?_
    refine hp_get S hK hW (87) (by omega) rfl hR.1 rfl in_kM 7 (by decide) (hts _ (List.mem_cons_of_mem _ tq_103)) rfl d_M_trim_6 ?_
    refine lv_icmp_ge (tgt := 71) hx hb d_M_trim_9 (by decide) (fun c_9 => ?_) (fun c_9 => ?_)
    · have c_9i := c_9
      replace c_9 : la.length ≤ i := (nI_leI (a := la.length) (b := i) (by omega) (by omega)).mp c_9
      have hlen := md_sqs_len la i
      refine lv_iload_n hx hb d_M_trim_71 rfl (lv_at hl 1 rfl) ?_
      refine lv_if_le (tgt := 91) hx hb d_M_trim_72 (by decide) (fun c_72 => ?_) (fun c_72 => ?_)
      · have c_72i := c_72
        replace c_72 : (md_sqs la i).length ≤ 0 := (nI_leI (a := (md_sqs la i).length) (b := 0) (by omega) (by omega)).mp c_72
        refine lv_aload_n hx hb d_M_trim_91 rfl (lv_at hl 0 rfl) ?_
        refine lv_iload_n hx hb d_M_trim_92 rfl (lv_at hl 1 rfl) ?_
        refine hp_put S hK hW (87) (by omega) rfl hR.1 rfl in_kM tyok_M nm_M 7 (by decide) (hts _ (List.mem_cons_of_mem _ tq_103)) rfl rfl rfl (Nat.le_of_ble_eq_true rfl) d_M_trim_93 (fun H locs hW => ?_)
        obtain ⟨F_1, eF_1⟩ : ∃ z, z = va_up F (87) (.inr (kM, [.int tc, .ref (ad 88), .int (nI tape.length), .ref (ad 89), .ref (ad 90), .ref (ad 91), .ref (ad 92), .int (nI (md_sqs la i).length), .int fp, .int me, .int dp, .int (nI stk.length), .ref (ad 93), .ref (ad 94), .int fa, .int ou, .int ki, .int nu, .int be, .ref (ad 95), .int (nI mm.length)])) := ⟨_, rfl⟩
        replace hW : hp_W g z0 N ad F_1 s.heap H locs := by rw [eF_1]; exact hW
        have f_2 : F_1 (87) = .inr (kM, [.int tc, .ref (ad 88), .int (nI tape.length), .ref (ad 89), .ref (ad 90), .ref (ad 91), .ref (ad 92), .int (nI (md_sqs la i).length), .int fp, .int me, .int dp, .int (nI stk.length), .ref (ad 93), .ref (ad 94), .int fa, .int ou, .int ki, .int nu, .int be, .ref (ad 95), .int (nI mm.length)]) := by rw [eF_1, va_up_self]
        have f_3 : F_1 (88) = .inl (g.2 0, 200, .inl tp) := by rw [eF_1, va_up_ne _ _ (by omega)]; exact hR.2.1
        have f_4 : F_1 (89) = .inl (g.2 2, 26, .inl hs) := by rw [eF_1, va_up_ne _ _ (by omega)]; exact hR.2.2.1
        have f_5 : F_1 (90) = .inl (g.2 0, 26, .inl sz) := by rw [eF_1, va_up_ne _ _ (by omega)]; exact hR.2.2.2.1
        have f_6 : F_1 (91) = .inl (g.2 0, 2600, .inl tx) := by rw [eF_1, va_up_ne _ _ (by omega)]; exact hR.2.2.2.2.1
        have f_7 : F_1 (92) = .inl (g.2 0, 301, .inl vl) := by rw [eF_1, va_up_ne _ _ (by omega)]; exact hR.2.2.2.2.2.1
        have f_8 : F_1 (93) = .inl (g.2 0, 28, .inl ey) := by rw [eF_1, va_up_ne _ _ (by omega)]; exact hR.2.2.2.2.2.2.1
        have f_9 : F_1 (94) = .inl (g.2 0, 28, .inl ap) := by rw [eF_1, va_up_ne _ _ (by omega)]; exact hR.2.2.2.2.2.2.2.1
        have f_10 : F_1 (95) = .inl (g.2 0, 204, .inl md) := by rw [eF_1, va_up_ne _ _ (by omega)]; exact hR.2.2.2.2.2.2.2.2
        have hf_11 : mFr F F_1 := fun x hx => by rw [eF_1, va_up_ne _ _ (by omega)]
        have ei : i = la.length := by omega
        subst ei
        have e87 := f_2
        have hcut := cut_f (a := md_sqs la la.length) (fun q => by omega)
        exact hp_retv S hK hW hr hlk d_M_trim_96 (⟨⟨tp, hs, sz, tx, vl, ey, md, ⟨(by rw [e87]; unfold md_sq; rw [hcut]), f_3, f_4, f_5, f_6, f_7, f_8, f_9, f_10⟩, ⟨htl, htp⟩, hT, ⟨by unfold md_sq; rw [hcut]; omega, fun j hj => by unfold md_sq at hj ⊢; rw [hcut] at hj ⊢; rw [Nat.zero_add]; exact hI.1 j hj⟩, hKs, hml0, hmd⟩, hfr.tr hf_11⟩)
      · have c_72i := c_72
        replace c_72 : ¬ (md_sqs la i).length ≤ 0 := fun zz9 => c_72 ((nI_leI (a := (md_sqs la i).length) (b := 0) (by omega) (by omega)).mpr zz9)
        refine lv_aload_n hx hb d_M_trim_75 rfl (lv_at hl 0 rfl) ?_
        refine hp_get S hK hW (87) (by omega) rfl hR.1 rfl in_kM 6 (by decide) (hts _ (List.mem_cons_of_mem _ tq_102)) rfl d_M_trim_76 ?_
        refine lv_iload_n hx hb d_M_trim_79 rfl (lv_at hl 1 rfl) ?_
        refine lv_iconst (v := 1) hx hb d_M_trim_80 (by decide) ?_
        refine lv_isub hx hb d_M_trim_81 ?_
        rw [show ((nI (md_sqs la i).length) - 1) = (nI ((md_sqs la i).length - 1)) from (pk_sub (b := 1) (by omega))]
        refine hp_iald S hK hW (92) (by omega) rfl hR.2.2.2.2.2.1 (vp_in_nI (by omega) (by omega)) d_M_trim_82 ?_
        rw [show (vl ((nI ((md_sqs la i).length - 1)) : Int32).toNatClampNeg) = (md_at (md_sqs la i) ((md_sqs la i).length - 1)) from (by rw [nI_clamp (by omega)]; exact hI.1 _ (by omega))]
        refine lv_bipush (v := 32) hx hb d_M_trim_83 (by decide) ?_
        refine lv_icmp_ne (tgt := 91) hx hb d_M_trim_85 (by decide) (fun c_85 => ?_) (fun c_85 => ?_)
        · have c_85i := c_85
          refine lv_aload_n hx hb d_M_trim_91 rfl (lv_at hl 0 rfl) ?_
          refine lv_iload_n hx hb d_M_trim_92 rfl (lv_at hl 1 rfl) ?_
          refine hp_put S hK hW (87) (by omega) rfl hR.1 rfl in_kM tyok_M nm_M 7 (by decide) (hts _ (List.mem_cons_of_mem _ tq_103)) rfl rfl rfl (Nat.le_of_ble_eq_true rfl) d_M_trim_93 (fun H locs hW => ?_)
          obtain ⟨F_12, eF_12⟩ : ∃ z, z = va_up F (87) (.inr (kM, [.int tc, .ref (ad 88), .int (nI tape.length), .ref (ad 89), .ref (ad 90), .ref (ad 91), .ref (ad 92), .int (nI (md_sqs la i).length), .int fp, .int me, .int dp, .int (nI stk.length), .ref (ad 93), .ref (ad 94), .int fa, .int ou, .int ki, .int nu, .int be, .ref (ad 95), .int (nI mm.length)])) := ⟨_, rfl⟩
          replace hW : hp_W g z0 N ad F_12 s.heap H locs := by rw [eF_12]; exact hW
          have f_13 : F_12 (87) = .inr (kM, [.int tc, .ref (ad 88), .int (nI tape.length), .ref (ad 89), .ref (ad 90), .ref (ad 91), .ref (ad 92), .int (nI (md_sqs la i).length), .int fp, .int me, .int dp, .int (nI stk.length), .ref (ad 93), .ref (ad 94), .int fa, .int ou, .int ki, .int nu, .int be, .ref (ad 95), .int (nI mm.length)]) := by rw [eF_12, va_up_self]
          have f_14 : F_12 (88) = .inl (g.2 0, 200, .inl tp) := by rw [eF_12, va_up_ne _ _ (by omega)]; exact hR.2.1
          have f_15 : F_12 (89) = .inl (g.2 2, 26, .inl hs) := by rw [eF_12, va_up_ne _ _ (by omega)]; exact hR.2.2.1
          have f_16 : F_12 (90) = .inl (g.2 0, 26, .inl sz) := by rw [eF_12, va_up_ne _ _ (by omega)]; exact hR.2.2.2.1
          have f_17 : F_12 (91) = .inl (g.2 0, 2600, .inl tx) := by rw [eF_12, va_up_ne _ _ (by omega)]; exact hR.2.2.2.2.1
          have f_18 : F_12 (92) = .inl (g.2 0, 301, .inl vl) := by rw [eF_12, va_up_ne _ _ (by omega)]; exact hR.2.2.2.2.2.1
          have f_19 : F_12 (93) = .inl (g.2 0, 28, .inl ey) := by rw [eF_12, va_up_ne _ _ (by omega)]; exact hR.2.2.2.2.2.2.1
          have f_20 : F_12 (94) = .inl (g.2 0, 28, .inl ap) := by rw [eF_12, va_up_ne _ _ (by omega)]; exact hR.2.2.2.2.2.2.2.1
          have f_21 : F_12 (95) = .inl (g.2 0, 204, .inl md) := by rw [eF_12, va_up_ne _ _ (by omega)]; exact hR.2.2.2.2.2.2.2.2
          have hf_22 : mFr F F_12 := fun x hx => by rw [eF_12, va_up_ne _ _ (by omega)]
          have ei : i = la.length := by omega
          subst ei
          have e87 := f_13
          have hcut := cut_f (a := md_sqs la la.length) (fun q => c_85i q.2)
          exact hp_retv S hK hW hr hlk d_M_trim_96 (⟨⟨tp, hs, sz, tx, vl, ey, md, ⟨(by rw [e87]; unfold md_sq; rw [hcut]), f_14, f_15, f_16, f_17, f_18, f_19, f_20, f_21⟩, ⟨htl, htp⟩, hT, ⟨by unfold md_sq; rw [hcut]; omega, fun j hj => by unfold md_sq at hj ⊢; rw [hcut] at hj ⊢; rw [Nat.zero_add]; exact hI.1 j hj⟩, hKs, hml0, hmd⟩, hfr.tr hf_22⟩)
        · have c_85i := c_85
          refine lv_iinc (v := (nI ((md_sqs la i).length - 1))) (lv' := [(1, .int (nI ((md_sqs la i).length - 1))), (0, .ref (ad 87)), (2, .int (nI i))]) hx hb d_M_trim_88 hl (k := 1) rfl ((by rw [show (md_sqs la i).length = ((md_sqs la i).length - 1) + 1 by omega]; exact pk_m1 _)) (by decide) rfl (fun ls hl => ?_)
          refine lv_aload_n hx hb d_M_trim_91 rfl (lv_at hl 1 rfl) ?_
          refine lv_iload_n hx hb d_M_trim_92 rfl (lv_at hl 0 rfl) ?_
          refine hp_put S hK hW (87) (by omega) rfl hR.1 rfl in_kM tyok_M nm_M 7 (by decide) (hts _ (List.mem_cons_of_mem _ tq_103)) rfl rfl rfl (Nat.le_of_ble_eq_true rfl) d_M_trim_93 (fun H locs hW => ?_)
          obtain ⟨F_23, eF_23⟩ : ∃ z, z = va_up F (87) (.inr (kM, [.int tc, .ref (ad 88), .int (nI tape.length), .ref (ad 89), .ref (ad 90), .ref (ad 91), .ref (ad 92), .int (nI ((md_sqs la i).length - 1)), .int fp, .int me, .int dp, .int (nI stk.length), .ref (ad 93), .ref (ad 94), .int fa, .int ou, .int ki, .int nu, .int be, .ref (ad 95), .int (nI mm.length)])) := ⟨_, rfl⟩
          replace hW : hp_W g z0 N ad F_23 s.heap H locs := by rw [eF_23]; exact hW
          have f_24 : F_23 (87) = .inr (kM, [.int tc, .ref (ad 88), .int (nI tape.length), .ref (ad 89), .ref (ad 90), .ref (ad 91), .ref (ad 92), .int (nI ((md_sqs la i).length - 1)), .int fp, .int me, .int dp, .int (nI stk.length), .ref (ad 93), .ref (ad 94), .int fa, .int ou, .int ki, .int nu, .int be, .ref (ad 95), .int (nI mm.length)]) := by rw [eF_23, va_up_self]
          have f_25 : F_23 (88) = .inl (g.2 0, 200, .inl tp) := by rw [eF_23, va_up_ne _ _ (by omega)]; exact hR.2.1
          have f_26 : F_23 (89) = .inl (g.2 2, 26, .inl hs) := by rw [eF_23, va_up_ne _ _ (by omega)]; exact hR.2.2.1
          have f_27 : F_23 (90) = .inl (g.2 0, 26, .inl sz) := by rw [eF_23, va_up_ne _ _ (by omega)]; exact hR.2.2.2.1
          have f_28 : F_23 (91) = .inl (g.2 0, 2600, .inl tx) := by rw [eF_23, va_up_ne _ _ (by omega)]; exact hR.2.2.2.2.1
          have f_29 : F_23 (92) = .inl (g.2 0, 301, .inl vl) := by rw [eF_23, va_up_ne _ _ (by omega)]; exact hR.2.2.2.2.2.1
          have f_30 : F_23 (93) = .inl (g.2 0, 28, .inl ey) := by rw [eF_23, va_up_ne _ _ (by omega)]; exact hR.2.2.2.2.2.2.1
          have f_31 : F_23 (94) = .inl (g.2 0, 28, .inl ap) := by rw [eF_23, va_up_ne _ _ (by omega)]; exact hR.2.2.2.2.2.2.2.1
          have f_32 : F_23 (95) = .inl (g.2 0, 204, .inl md) := by rw [eF_23, va_up_ne _ _ (by omega)]; exact hR.2.2.2.2.2.2.2.2
          have hf_33 : mFr F F_23 := fun x hx => by rw [eF_23, va_up_ne _ _ (by omega)]
          have ei : i = la.length := by omega
          subst ei
          have e87 := f_24
          have hcut := cut_len_t (a := md_sqs la la.length) ⟨by omega, c_85i⟩
          exact hp_retv S hK hW hr hlk d_M_trim_96 (⟨⟨tp, hs, sz, tx, vl, ey, md, ⟨(by rw [e87]; unfold md_sq; rw [hcut]), f_25, f_26, f_27, f_28, f_29, f_30, f_31, f_32⟩, ⟨htl, htp⟩, hT, ⟨by unfold md_sq; rw [hcut]; omega, fun j hj => by unfold md_sq at hj ⊢; rw [cut_at hj, Nat.zero_add]; exact hI.1 j (by rw [hcut] at hj; omega)⟩, hKs, hml0, hmd⟩, hfr.tr hf_33⟩)
    · have c_9i := c_9
      replace c_9 : ¬ la.length ≤ i := fun zz9 => c_9 ((nI_leI (a := la.length) (b := i) (by omega) (by omega)).mpr zz9)
      have hlen := md_sqs_len la i
      refine lv_aload_n hx hb d_M_trim_12 rfl (lv_at hl 0 rfl) ?_
      refine hp_get S hK hW (87) (by omega) rfl hR.1 rfl in_kM 6 (by decide) (hts _ (List.mem_cons_of_mem _ tq_102)) rfl d_M_trim_13 ?_
      refine lv_iload_n hx hb d_M_trim_16 rfl (lv_at hl 2 rfl) ?_
      refine hp_iald S hK hW (92) (by omega) rfl hR.2.2.2.2.2.1 (vp_in_nI (by omega) (by omega)) d_M_trim_17 ?_
      rw [show (vl ((nI i) : Int32).toNatClampNeg) = (md_at la i) from (by rw [nI_clamp (by omega)]; exact hI.2 i (Nat.le_refl _) (by omega))]
      refine lv_bipush (v := 32) hx hb d_M_trim_18 (by decide) ?_
      refine lv_icmp_ne (tgt := 27) hx hb d_M_trim_20 (by decide) (fun c_20 => ?_) (fun c_20 => ?_)
      · have c_20i := c_20
        have hadd := sqs_add (xs := la) (i := i) (Or.inl c_20i)
        refine lv_iconst (v := 0) hx hb d_M_trim_27 (by decide) ?_
        refine lv_istore_n (lv' := [(3, .int 0), (0, .ref (ad 87)), (1, .int (nI (md_sqs la i).length)), (2, .int (nI i))]) hx hb d_M_trim_28 rfl hl (by decide) rfl (fun ls hl => ?_)
        refine lv_iload_n hx hb d_M_trim_29 rfl (lv_at hl 0 rfl) ?_
        refine lv_if_eq (tgt := 50) hx hb d_M_trim_30 (by decide) (fun c_30 => ?_) (fun c_30 => absurd (show (0 : Int32) = 0 from by decide) c_30)
        refine lv_aload_n hx hb d_M_trim_50 rfl (lv_at hl 1 rfl) ?_
        refine hp_get S hK hW (87) (by omega) rfl hR.1 rfl in_kM 6 (by decide) (hts _ (List.mem_cons_of_mem _ tq_102)) rfl d_M_trim_51 ?_
        refine lv_iload_n hx hb d_M_trim_54 rfl (lv_at hl 2 rfl) ?_
        refine lv_aload_n hx hb d_M_trim_55 rfl (lv_at hl 1 rfl) ?_
        refine hp_get S hK hW (87) (by omega) rfl hR.1 rfl in_kM 6 (by decide) (hts _ (List.mem_cons_of_mem _ tq_102)) rfl d_M_trim_56 ?_
        refine lv_iload_n hx hb d_M_trim_59 rfl (lv_at hl 3 rfl) ?_
        refine hp_iald S hK hW (92) (by omega) rfl hR.2.2.2.2.2.1 (vp_in_nI (by omega) (by omega)) d_M_trim_60 ?_
        rw [show (vl ((nI i) : Int32).toNatClampNeg) = (md_at la i) from (by rw [nI_clamp (by omega)]; exact hI.2 i (Nat.le_refl _) (by omega))]
        refine hp_iast S hK hW (92) (by omega) rfl hR.2.2.2.2.2.1 (x := (md_at la i)) (vp_in_nI (by omega) (by omega)) d_M_trim_61 (fun H locs hW => ?_)
        obtain ⟨F_34, eF_34⟩ : ∃ z, z = va_up F (92) (.inl (g.2 0, 301, .inl (upd vl (md_sqs la i).length (md_at la i)))) := ⟨_, rfl⟩
        rw [show (((nI (md_sqs la i).length) : Int32).toNatClampNeg) = (md_sqs la i).length from nI_clamp (by omega)] at hW
        replace hW : hp_W g z0 N ad F_34 s.heap H locs := by rw [eF_34]; exact hW
        have f_35 : F_34 (87) = .inr (kM, [.int tc, .ref (ad 88), .int (nI tape.length), .ref (ad 89), .ref (ad 90), .ref (ad 91), .ref (ad 92), .int (nI la.length), .int fp, .int me, .int dp, .int (nI stk.length), .ref (ad 93), .ref (ad 94), .int fa, .int ou, .int ki, .int nu, .int be, .ref (ad 95), .int (nI mm.length)]) := by rw [eF_34, va_up_ne _ _ (by omega)]; exact hR.1
        have f_36 : F_34 (88) = .inl (g.2 0, 200, .inl tp) := by rw [eF_34, va_up_ne _ _ (by omega)]; exact hR.2.1
        have f_37 : F_34 (89) = .inl (g.2 2, 26, .inl hs) := by rw [eF_34, va_up_ne _ _ (by omega)]; exact hR.2.2.1
        have f_38 : F_34 (90) = .inl (g.2 0, 26, .inl sz) := by rw [eF_34, va_up_ne _ _ (by omega)]; exact hR.2.2.2.1
        have f_39 : F_34 (91) = .inl (g.2 0, 2600, .inl tx) := by rw [eF_34, va_up_ne _ _ (by omega)]; exact hR.2.2.2.2.1
        have f_40 : F_34 (92) = .inl (g.2 0, 301, .inl (upd vl (md_sqs la i).length (md_at la i))) := by rw [eF_34, va_up_self]
        have f_41 : F_34 (93) = .inl (g.2 0, 28, .inl ey) := by rw [eF_34, va_up_ne _ _ (by omega)]; exact hR.2.2.2.2.2.2.1
        have f_42 : F_34 (94) = .inl (g.2 0, 28, .inl ap) := by rw [eF_34, va_up_ne _ _ (by omega)]; exact hR.2.2.2.2.2.2.2.1
        have f_43 : F_34 (95) = .inl (g.2 0, 204, .inl md) := by rw [eF_34, va_up_ne _ _ (by omega)]; exact hR.2.2.2.2.2.2.2.2
        have hf_44 : mFr F F_34 := fun x hx => by rw [eF_34, va_up_ne _ _ (by omega)]
        refine lv_iinc (v := (nI ((md_sqs la i).length + 1))) (lv' := [(1, .int (nI ((md_sqs la i).length + 1))), (3, .int 0), (0, .ref (ad 87)), (2, .int (nI i))]) hx hb d_M_trim_62 hl (k := 2) rfl ((nI_succ ((md_sqs la i).length)).symm) (by decide) rfl (fun ls hl => ?_)
        refine lv_iinc (v := (nI (i + 1))) (lv' := [(2, .int (nI (i + 1))), (1, .int (nI ((md_sqs la i).length + 1))), (3, .int 0), (0, .ref (ad 87))]) hx hb d_M_trim_65 hl (k := 3) rfl ((nI_succ (i)).symm) (by decide) rfl (fun ls hl => ?_)
        refine lv_goto (tgt := 4) hx hb d_M_trim_68 (by decide) ?_
        exact ih (i + 1) F_34 ((upd vl (md_sqs la i).length (md_at la i))) (by omega) (by omega) ⟨f_35, f_36, f_37, f_38, f_39, f_40, f_41, f_42, f_43⟩ (hI.add hadd) (hfr.tr hf_44) H locs ls hW (by rw [hadd, List.length_append, List.length_singleton]; exact (lv_sub hl [3, 1, 0] rfl))
      · have c_20i := c_20
        refine lv_iconst (v := 1) hx hb d_M_trim_23 (by decide) ?_
        refine lv_goto (tgt := 28) hx hb d_M_trim_24 (by decide) ?_
        refine lv_istore_n (lv' := [(3, .int 1), (0, .ref (ad 87)), (1, .int (nI (md_sqs la i).length)), (2, .int (nI i))]) hx hb d_M_trim_28 rfl hl (by decide) rfl (fun ls hl => ?_)
        refine lv_iload_n hx hb d_M_trim_29 rfl (lv_at hl 0 rfl) ?_
        refine lv_if_eq (tgt := 50) hx hb d_M_trim_30 (by decide) (fun c_30 => absurd c_30 (show ¬ ((1 : Int32) = 0) from by decide)) (fun c_30 => ?_)
        refine lv_iload_n hx hb d_M_trim_33 rfl (lv_at hl 2 rfl) ?_
        refine lv_if_le (tgt := 65) hx hb d_M_trim_34 (by decide) (fun c_34 => ?_) (fun c_34 => ?_)
        · have c_34i := c_34
          replace c_34 : (md_sqs la i).length ≤ 0 := (nI_leI (a := (md_sqs la i).length) (b := 0) (by omega) (by omega)).mp c_34
          have hskip := sqs_skip (xs := la) (i := i) (fun h => by rcases h with h | h <;> first | exact h c_20i | omega)
          refine lv_iinc (v := (nI (i + 1))) (lv' := [(2, .int (nI (i + 1))), (3, .int 1), (0, .ref (ad 87)), (1, .int (nI (md_sqs la i).length))]) hx hb d_M_trim_65 hl (k := 3) rfl ((nI_succ (i)).symm) (by decide) rfl (fun ls hl => ?_)
          refine lv_goto (tgt := 4) hx hb d_M_trim_68 (by decide) ?_
          exact ih (i + 1) F vl (by omega) (by omega) ⟨hR.1, hR.2.1, hR.2.2.1, hR.2.2.2.1, hR.2.2.2.2.1, hR.2.2.2.2.2.1, hR.2.2.2.2.2.2.1, hR.2.2.2.2.2.2.2.1, hR.2.2.2.2.2.2.2.2⟩ (hI.skip hskip) (hfr.tr mFr.rf) H locs ls hW (by rw [hskip]; exact (lv_sub hl [2, 3, 0] rfl))
        · have c_34i := c_34
          replace c_34 : ¬ (md_sqs la i).length ≤ 0 := fun zz9 => c_34 ((nI_leI (a := (md_sqs la i).length) (b := 0) (by omega) (by omega)).mpr zz9)
          refine lv_aload_n hx hb d_M_trim_37 rfl (lv_at hl 1 rfl) ?_
          refine hp_get S hK hW (87) (by omega) rfl hR.1 rfl in_kM 6 (by decide) (hts _ (List.mem_cons_of_mem _ tq_102)) rfl d_M_trim_38 ?_
          refine lv_iload_n hx hb d_M_trim_41 rfl (lv_at hl 2 rfl) ?_
          refine lv_iconst (v := 1) hx hb d_M_trim_42 (by decide) ?_
          refine lv_isub hx hb d_M_trim_43 ?_
          rw [show ((nI (md_sqs la i).length) - 1) = (nI ((md_sqs la i).length - 1)) from (pk_sub (b := 1) (by omega))]
          refine hp_iald S hK hW (92) (by omega) rfl hR.2.2.2.2.2.1 (vp_in_nI (by omega) (by omega)) d_M_trim_44 ?_
          rw [show (vl ((nI ((md_sqs la i).length - 1)) : Int32).toNatClampNeg) = (md_at (md_sqs la i) ((md_sqs la i).length - 1)) from (by rw [nI_clamp (by omega)]; exact hI.1 _ (by omega))]
          refine lv_bipush (v := 32) hx hb d_M_trim_45 (by decide) ?_
          refine lv_icmp_eq (tgt := 65) hx hb d_M_trim_47 (by decide) (fun c_47 => ?_) (fun c_47 => ?_)
          · have c_47i := c_47
            have hskip := sqs_skip (xs := la) (i := i) (fun h => by rcases h with h | h <;> first | exact h c_20i | exact h.2 c_47i)
            refine lv_iinc (v := (nI (i + 1))) (lv' := [(2, .int (nI (i + 1))), (3, .int 1), (0, .ref (ad 87)), (1, .int (nI (md_sqs la i).length))]) hx hb d_M_trim_65 hl (k := 3) rfl ((nI_succ (i)).symm) (by decide) rfl (fun ls hl => ?_)
            refine lv_goto (tgt := 4) hx hb d_M_trim_68 (by decide) ?_
            exact ih (i + 1) F vl (by omega) (by omega) ⟨hR.1, hR.2.1, hR.2.2.1, hR.2.2.2.1, hR.2.2.2.2.1, hR.2.2.2.2.2.1, hR.2.2.2.2.2.2.1, hR.2.2.2.2.2.2.2.1, hR.2.2.2.2.2.2.2.2⟩ (hI.skip hskip) (hfr.tr mFr.rf) H locs ls hW (by rw [hskip]; exact (lv_sub hl [2, 3, 0] rfl))
          · have c_47i := c_47
            have hadd := sqs_add (xs := la) (i := i) (Or.inr ⟨by omega, c_47i⟩)
            refine lv_aload_n hx hb d_M_trim_50 rfl (lv_at hl 1 rfl) ?_
            refine hp_get S hK hW (87) (by omega) rfl hR.1 rfl in_kM 6 (by decide) (hts _ (List.mem_cons_of_mem _ tq_102)) rfl d_M_trim_51 ?_
            refine lv_iload_n hx hb d_M_trim_54 rfl (lv_at hl 2 rfl) ?_
            refine lv_aload_n hx hb d_M_trim_55 rfl (lv_at hl 1 rfl) ?_
            refine hp_get S hK hW (87) (by omega) rfl hR.1 rfl in_kM 6 (by decide) (hts _ (List.mem_cons_of_mem _ tq_102)) rfl d_M_trim_56 ?_
            refine lv_iload_n hx hb d_M_trim_59 rfl (lv_at hl 3 rfl) ?_
            refine hp_iald S hK hW (92) (by omega) rfl hR.2.2.2.2.2.1 (vp_in_nI (by omega) (by omega)) d_M_trim_60 ?_
            rw [show (vl ((nI i) : Int32).toNatClampNeg) = (md_at la i) from (by rw [nI_clamp (by omega)]; exact hI.2 i (Nat.le_refl _) (by omega))]
            refine hp_iast S hK hW (92) (by omega) rfl hR.2.2.2.2.2.1 (x := (md_at la i)) (vp_in_nI (by omega) (by omega)) d_M_trim_61 (fun H locs hW => ?_)
            obtain ⟨F_45, eF_45⟩ : ∃ z, z = va_up F (92) (.inl (g.2 0, 301, .inl (upd vl (md_sqs la i).length (md_at la i)))) := ⟨_, rfl⟩
            rw [show (((nI (md_sqs la i).length) : Int32).toNatClampNeg) = (md_sqs la i).length from nI_clamp (by omega)] at hW
            replace hW : hp_W g z0 N ad F_45 s.heap H locs := by rw [eF_45]; exact hW
            have f_46 : F_45 (87) = .inr (kM, [.int tc, .ref (ad 88), .int (nI tape.length), .ref (ad 89), .ref (ad 90), .ref (ad 91), .ref (ad 92), .int (nI la.length), .int fp, .int me, .int dp, .int (nI stk.length), .ref (ad 93), .ref (ad 94), .int fa, .int ou, .int ki, .int nu, .int be, .ref (ad 95), .int (nI mm.length)]) := by rw [eF_45, va_up_ne _ _ (by omega)]; exact hR.1
            have f_47 : F_45 (88) = .inl (g.2 0, 200, .inl tp) := by rw [eF_45, va_up_ne _ _ (by omega)]; exact hR.2.1
            have f_48 : F_45 (89) = .inl (g.2 2, 26, .inl hs) := by rw [eF_45, va_up_ne _ _ (by omega)]; exact hR.2.2.1
            have f_49 : F_45 (90) = .inl (g.2 0, 26, .inl sz) := by rw [eF_45, va_up_ne _ _ (by omega)]; exact hR.2.2.2.1
            have f_50 : F_45 (91) = .inl (g.2 0, 2600, .inl tx) := by rw [eF_45, va_up_ne _ _ (by omega)]; exact hR.2.2.2.2.1
            have f_51 : F_45 (92) = .inl (g.2 0, 301, .inl (upd vl (md_sqs la i).length (md_at la i))) := by rw [eF_45, va_up_self]
            have f_52 : F_45 (93) = .inl (g.2 0, 28, .inl ey) := by rw [eF_45, va_up_ne _ _ (by omega)]; exact hR.2.2.2.2.2.2.1
            have f_53 : F_45 (94) = .inl (g.2 0, 28, .inl ap) := by rw [eF_45, va_up_ne _ _ (by omega)]; exact hR.2.2.2.2.2.2.2.1
            have f_54 : F_45 (95) = .inl (g.2 0, 204, .inl md) := by rw [eF_45, va_up_ne _ _ (by omega)]; exact hR.2.2.2.2.2.2.2.2
            have hf_55 : mFr F F_45 := fun x hx => by rw [eF_45, va_up_ne _ _ (by omega)]
            refine lv_iinc (v := (nI ((md_sqs la i).length + 1))) (lv' := [(1, .int (nI ((md_sqs la i).length + 1))), (3, .int 1), (0, .ref (ad 87)), (2, .int (nI i))]) hx hb d_M_trim_62 hl (k := 2) rfl ((nI_succ ((md_sqs la i).length)).symm) (by decide) rfl (fun ls hl => ?_)
            refine lv_iinc (v := (nI (i + 1))) (lv' := [(2, .int (nI (i + 1))), (1, .int (nI ((md_sqs la i).length + 1))), (3, .int 1), (0, .ref (ad 87))]) hx hb d_M_trim_65 hl (k := 3) rfl ((nI_succ (i)).symm) (by decide) rfl (fun ls hl => ?_)
            refine lv_goto (tgt := 4) hx hb d_M_trim_68 (by decide) ?_
            exact ih (i + 1) F_45 ((upd vl (md_sqs la i).length (md_at la i))) (by omega) (by omega) ⟨f_46, f_47, f_48, f_49, f_50, f_51, f_52, f_53, f_54⟩ (hI.add hadd) (hfr.tr hf_55) H locs ls hW (by rw [hadd, List.length_append, List.length_singleton]; exact (lv_sub hl [3, 1, 0] rfl))

/-! the reference: trim -/
set_option maxHeartbeats 400000 in
set_option maxRecDepth 100000 in
theorem m_trim (l : Launch) (g : hp_G) (z0 N : Nat) (ad : Nat → Nat) (F : Nat → va_E) (hN : 96 ≤ N) (tape : List Int32) (kn : Nat → Bool) (rt : Nat → List Int32) (la mm : List Int32) (stk : List Nat) (ap : Nat → Int32) (tc fp me dp fa ou ki nu be : Int32) (hS : mS g ad F tape kn rt la mm stk ap tc fp me dp fa ou ki nu be) : hp_Mv l g z0 N ad y_M_trim ws_M_trim (rk 0) [.ref (ad 87)] F (fun F' => mS g ad F' tape kn rt (md_sq la) mm stk ap tc fp me dp fa ou ki nu be ∧ mFr F F') := by
  obtain ⟨tp, hs, sz, tx, vl, ey, md, hR, ⟨htl, htp⟩, hT, ⟨hll, hvl⟩, hKs, hml0, hmd⟩ := id hS
  refine hp_enter (cc := cc_M_trim) (maxL := 4) (ret := none) (by decide) rfl (Nat.le_of_ble_eq_true rfl) ?_
  intro p e s m below meth c S hr hlk hnm hK hW ls hl
  have hl : lv_has ls 4 [(0, .ref (ad 87))] := hl
  obtain ⟨hx, hb, hml, hown, hts⟩ := id S
  have in_kM : ∀ w ∈ u_ws R_M T_M 21, w ∈ ws_M_trim := fun w h => List.mem_cons_of_mem _ (in0_M w h)
  refine lv_iconst (v := 0) hx hb d_M_trim_0 (by decide) ?_
  refine lv_istore_n (lv' := [(1, .int 0), (0, .ref (ad 87))]) hx hb d_M_trim_1 rfl hl (by decide) rfl (fun ls hl => ?_)
  refine lv_iconst (v := 0) hx hb d_M_trim_2 (by decide) ?_
  refine lv_istore_n (lv' := [(2, .int 0), (1, .int 0), (0, .ref (ad 87))]) hx hb d_M_trim_3 rfl hl (by decide) rfl (fun ls hl => ?_)
  exact lp_trim l g z0 N ad hN tape kn rt la mm stk ap tc fp me dp fa ou ki nu be tp hs sz tx ey md htl htp hT hll hKs hml0 hmd F S hr hlk hK (la.length + 1) 0 F vl (Nat.zero_le _) (by omega) hR ⟨fun j hj => absurd hj (Nat.not_lt_zero _), fun j _ hj => by have := hvl j hj; rwa [Nat.zero_add] at this⟩ mFr.rf _ _ ls hW (lv_sub hl [2, 1, 0] rfl)

/-! the reference: eight, its loop -/
set_option maxHeartbeats 400000 in
set_option maxRecDepth 100000 in
theorem lp_eight {p : Program} {e : Env} {s : State} {m : MethodId} {args : Array Value} {below : List Frame} {meth : Method} {c : Code} (l : Launch) (g : hp_G) (z0 N : Nat) (ad : Nat → Nat)  (F : Nat → va_E) (P c0 fr : Nat) (hP : P < N) (xs : List Int32) (f : Nat → Int32) (h2 : F P = .inl (g.2 0, c0, .inl f)) (hc0 : fr + xs.length ≤ c0) (hcc : c0 < 1000000) (h4 : mL f fr xs) (k : Int32) (hk : ¬ k < 0) (S : CallFix p m c cc_M_eight 7 s args ws_M_eight R_M) (hr : meth.sig.returnType = (some .long)) (hlk : meth.locks = false) (hK : hp_K g s) : ∀ (j : Nat) (i : Nat), i ≤ 8 → 9 ≤ i + j → ∀ (H : Heap) (locs : List Loc) (ls : Array Slot), hp_W g z0 N ad F s.heap H locs → lv_has ls 7 [(0, .ref (ad P)), (1, .int (nI fr)), (2, .int (nI xs.length)), (3, .int k), (4, .long (md_w (fun i => xs.getD (k.toNatClampNeg + i) 0) i)), (6, .int (nI i))] → W p l e (rk 0) s m args below meth c H locs 0 0 (MQ below (va_Ql (fun v F' => v = md_w (fun i => xs.getD (k.toNatClampNeg + i) 0) 8 ∧ F' = F) (hp_B g z0 N ad) (hp_A z0)) args s 0 0 (hp_A z0)) (F0 m 6 ls []) := by
  obtain ⟨hx, hb, hml, hown, hts⟩ := id S
  intro j
  induction j with
  | zero =>
    intro i hi hj H locs ls hW hl
    exact absurd hj (by omega)
  | succ j ih =>
    intro i hi hj H locs ls hW hl
    refine lv_iload hx hb d_M_eight_6 (lv_at hl 5 rfl) ?_
    refine lv_bipush (v := 8) hx hb d_M_eight_8 (by decide) ?_
    refine lv_icmp_ge (tgt := 48) hx hb d_M_eight_10 (by decide) (fun c_10 => ?_) (fun c_10 => ?_)
    · have c_10i := c_10
      replace c_10 : 8 ≤ i := (nI_leI (a := 8) (b := i) (by omega) (by omega)).mp c_10
      refine lv_lload hx hb d_M_eight_48 (lv_at hl 4 rfl) ?_
      exact hp_retl S hK hW hr hlk d_M_eight_50 (⟨by rw [show i = 8 by omega], rfl⟩)
    · have c_10i := c_10
      replace c_10 : ¬ 8 ≤ i := fun zz9 => c_10 ((nI_leI (a := 8) (b := i) (by omega) (by omega)).mpr zz9)
      refine lv_lload hx hb d_M_eight_13 (lv_at hl 4 rfl) ?_
      refine lv_bipush (v := 8) hx hb d_M_eight_15 (by decide) ?_
      refine lv_lshl hx hb d_M_eight_17 rfl ?_
      refine lv_iload_n hx hb d_M_eight_18 rfl (lv_at hl 3 rfl) ?_
      refine lv_iload_n hx hb d_M_eight_19 rfl (lv_at hl 2 rfl) ?_
      refine lv_iload hx hb d_M_eight_20 (lv_at hl 5 rfl) ?_
      refine lv_isub hx hb d_M_eight_22 ?_
      refine lv_icmp_ge (tgt := 37) hx hb d_M_eight_23 (by decide) (fun c_23 => ?_) (fun c_23 => ?_)
      · have c_23i := c_23
        have c_23j := Int32.not_lt.mpr c_23
        obtain ⟨kk, hkk, ekk⟩ := nI_of hk
        have ecl : k.toNatClampNeg = kk := by rw [ekk]; exact nI_clamp hkk
        have hge : xs.length ≤ kk + i := wd_ge (by omega) (by omega) hkk (by rw [← ekk]; exact c_23)
        have hval : (0 : Int32) = xs.getD (k.toNatClampNeg + i) 0 := by rw [ecl, wd_out hge]
        refine lv_iconst (v := 0) hx hb d_M_eight_37 (by decide) ?_
        refine lv_i2l hx hb d_M_eight_38 rfl ?_
        refine lv_lor hx hb d_M_eight_39 ?_
        rw [show (((md_w (fun i => xs.getD (k.toNatClampNeg + i) 0) i) <<< ((8 : Int32).toInt64 &&& 63)) ||| (0 : Int32).toInt64) = md_w (fun i => xs.getD (k.toNatClampNeg + i) 0) (i + 1) from (by show _ = md_w (fun i => xs.getD (k.toNatClampNeg + i) 0) i <<< _ ||| (xs.getD (k.toNatClampNeg + i) 0).toInt64; rw [← hval])]
        refine lv_lstore (lv' := [(4, .long (md_w (fun i => xs.getD (k.toNatClampNeg + i) 0) (i + 1))), (0, .ref (ad P)), (1, .int (nI fr)), (2, .int (nI xs.length)), (3, .int k), (6, .int (nI i))]) hx hb d_M_eight_40 hl (by decide) rfl (fun ls hl => ?_)
        refine lv_iinc (v := (nI (i + 1))) (lv' := [(6, .int (nI (i + 1))), (4, .long (md_w (fun i => xs.getD (k.toNatClampNeg + i) 0) (i + 1))), (0, .ref (ad P)), (1, .int (nI fr)), (2, .int (nI xs.length)), (3, .int k)]) hx hb d_M_eight_42 hl (k := 5) rfl ((nI_succ (i)).symm) (by decide) rfl (fun ls hl => ?_)
        refine lv_goto (tgt := 6) hx hb d_M_eight_45 (by decide) ?_
        exact ih (i + 1) (by omega) (by omega) H locs ls hW (lv_sub hl [2, 3, 4, 5, 1, 0] rfl)
      · have c_23i := c_23
        have c_23j := Int32.not_le.mp c_23
        obtain ⟨kk, hkk, ekk⟩ := nI_of hk
        have ecl : k.toNatClampNeg = kk := by rw [ekk]; exact nI_clamp hkk
        have hlt : kk + i < xs.length := wd_lt (by omega) (by omega) hkk (by rw [← ekk]; exact c_23)
        have eki : nI fr + k + nI i = nI (fr + (kk + i)) := by rw [ekk, nI_add, nI_add, Nat.add_assoc]
        refine lv_aload_n hx hb d_M_eight_26 rfl (lv_at hl 0 rfl) ?_
        refine lv_iload_n hx hb d_M_eight_27 rfl (lv_at hl 1 rfl) ?_
        refine lv_iload_n hx hb d_M_eight_28 rfl (lv_at hl 3 rfl) ?_
        refine lv_iadd hx hb d_M_eight_29 ?_
        refine lv_iload hx hb d_M_eight_30 (lv_at hl 5 rfl) ?_
        refine lv_iadd hx hb d_M_eight_32 ?_
        refine hp_iald S hK hW (P) (by omega) rfl h2 (by rw [eki]; exact vp_in_nI (by omega) (by omega)) d_M_eight_33 ?_
        rw [show (f ((((nI fr) + k) + (nI i)) : Int32).toNatClampNeg) = (xs.getD (k.toNatClampNeg + i) 0) from (by rw [eki, nI_clamp (by omega), h4 _ hlt, ecl, wd_in hlt])]
        refine lv_goto (tgt := 38) hx hb d_M_eight_34 (by decide) ?_
        refine lv_i2l hx hb d_M_eight_38 rfl ?_
        refine lv_lor hx hb d_M_eight_39 ?_
        rw [show (((md_w (fun i => xs.getD (k.toNatClampNeg + i) 0) i) <<< ((8 : Int32).toInt64 &&& 63)) ||| ((xs.getD (k.toNatClampNeg + i) 0) : Int32).toInt64) = md_w (fun i => xs.getD (k.toNatClampNeg + i) 0) (i + 1) from rfl]
        refine lv_lstore (lv' := [(4, .long (md_w (fun i => xs.getD (k.toNatClampNeg + i) 0) (i + 1))), (0, .ref (ad P)), (1, .int (nI fr)), (2, .int (nI xs.length)), (3, .int k), (6, .int (nI i))]) hx hb d_M_eight_40 hl (by decide) rfl (fun ls hl => ?_)
        refine lv_iinc (v := (nI (i + 1))) (lv' := [(6, .int (nI (i + 1))), (4, .long (md_w (fun i => xs.getD (k.toNatClampNeg + i) 0) (i + 1))), (0, .ref (ad P)), (1, .int (nI fr)), (2, .int (nI xs.length)), (3, .int k)]) hx hb d_M_eight_42 hl (k := 5) rfl ((nI_succ (i)).symm) (by decide) rfl (fun ls hl => ?_)
        refine lv_goto (tgt := 6) hx hb d_M_eight_45 (by decide) ?_
        exact ih (i + 1) (by omega) (by omega) H locs ls hW (lv_sub hl [2, 3, 4, 5, 1, 0] rfl)

/-! the reference: eight -/
set_option maxHeartbeats 400000 in
set_option maxRecDepth 100000 in
theorem m_eight (l : Launch) (g : hp_G) (z0 N : Nat) (ad : Nat → Nat) (F : Nat → va_E) (P c0 fr : Nat) (hP : P < N) (xs : List Int32) (f : Nat → Int32) (h2 : F P = .inl (g.2 0, c0, .inl f)) (hc0 : fr + xs.length ≤ c0) (hcc : c0 < 1000000) (h4 : mL f fr xs) (k : Int32) (hk : ¬ k < 0) : hp_Ml l g z0 N ad y_M_eight ws_M_eight (rk 0) [.ref (ad P), .int (nI fr), .int (nI xs.length), .int k] F (fun v F' => v = md_w (fun i => xs.getD (k.toNatClampNeg + i) 0) 8 ∧ F' = F) := by
  refine hp_enter (cc := cc_M_eight) (maxL := 7) (ret := (some .long)) (by decide) rfl (Nat.le_of_ble_eq_true rfl) ?_
  intro p e s m below meth c S hr hlk hnm hK hW ls hl
  have hl : lv_has ls 7 [(0, .ref (ad P)), (1, .int (nI fr)), (2, .int (nI xs.length)), (3, .int k)] := hl
  obtain ⟨hx, hb, hml, hown, hts⟩ := id S
  refine lv_lconst (v := 0) hx hb d_M_eight_0 (by decide) ?_
  refine lv_lstore (lv' := [(4, .long 0), (0, .ref (ad P)), (1, .int (nI fr)), (2, .int (nI xs.length)), (3, .int k)]) hx hb d_M_eight_1 hl (by decide) rfl (fun ls hl => ?_)
  refine lv_iconst (v := 0) hx hb d_M_eight_3 (by decide) ?_
  refine lv_istore (lv' := [(6, .int 0), (4, .long 0), (0, .ref (ad P)), (1, .int (nI fr)), (2, .int (nI xs.length)), (3, .int k)]) hx hb d_M_eight_4 hl (by decide) rfl (fun ls hl => ?_)
  exact lp_eight l g z0 N ad F P c0 fr hP xs f h2 hc0 hcc h4 k hk S hr hlk hK 9 0 (by omega) (by omega) _ _ ls hW (lv_sub hl [2, 3, 4, 5, 1, 0] rfl)

/-! the reference: place -/
set_option maxHeartbeats 400000 in
set_option maxRecDepth 100000 in
theorem m_place (l : Launch) (g : hp_G) (z0 N : Nat) (ad : Nat → Nat) (F : Nat → va_E) (hN : 96 ≤ N) (tape : List Int32) (kn : Nat → Bool) (rt : Nat → List Int32) (la mm : List Int32) (stk : List Nat) (ap : Nat → Int32) (tc fp me dp fa ou ki nu be : Int32) (hS : mS g ad F tape kn rt la mm stk ap tc fp me dp fa ou ki nu be) : hp_Mi l g z0 N ad y_M_place ws_M_place (rk 0) [.ref (ad 87)] F (fun v F' => v = fp ∧ mS g ad F' tape kn rt la mm stk ap 0 fp me dp fa ou ki nu be ∧ mFr F F') := by
  obtain ⟨tp, hs, sz, tx, vl, ey, md, hR, ⟨htl, htp⟩, hT, ⟨hll, hvl⟩, hKs, hml0, hmd⟩ := id hS
  refine hp_enter (cc := cc_M_place) (maxL := 1) (ret := (some .int)) (by decide) rfl (Nat.le_of_ble_eq_true rfl) ?_
  intro p e s m below meth c S hr hlk hnm hK hW ls hl
  have hl : lv_has ls 1 [(0, .ref (ad 87))] := hl
  obtain ⟨hx, hb, hml, hown, hts⟩ := id S
  have in_kM : ∀ w ∈ u_ws R_M T_M 21, w ∈ ws_M_place := fun w h => List.mem_cons_of_mem _ (in0_M w h)
  refine lv_aload_n hx hb d_M_place_0 rfl (lv_at hl 0 rfl) ?_
  refine lv_iconst (v := 0) hx hb d_M_place_1 (by decide) ?_
  refine hp_put S hK hW (87) (by omega) rfl hR.1 rfl in_kM tyok_M nm_M 0 (by decide) (hts _ (List.mem_cons_of_mem _ tq_96)) rfl rfl rfl (Nat.le_of_ble_eq_true rfl) d_M_place_2 (fun H locs hW => ?_)
  obtain ⟨F_1, eF_1⟩ : ∃ z, z = va_up F (87) (.inr (kM, [.int 0, .ref (ad 88), .int (nI tape.length), .ref (ad 89), .ref (ad 90), .ref (ad 91), .ref (ad 92), .int (nI la.length), .int fp, .int me, .int dp, .int (nI stk.length), .ref (ad 93), .ref (ad 94), .int fa, .int ou, .int ki, .int nu, .int be, .ref (ad 95), .int (nI mm.length)])) := ⟨_, rfl⟩
  replace hW : hp_W g z0 N ad F_1 s.heap H locs := by rw [eF_1]; exact hW
  have f_2 : F_1 (87) = .inr (kM, [.int 0, .ref (ad 88), .int (nI tape.length), .ref (ad 89), .ref (ad 90), .ref (ad 91), .ref (ad 92), .int (nI la.length), .int fp, .int me, .int dp, .int (nI stk.length), .ref (ad 93), .ref (ad 94), .int fa, .int ou, .int ki, .int nu, .int be, .ref (ad 95), .int (nI mm.length)]) := by rw [eF_1, va_up_self]
  have f_3 : F_1 (88) = .inl (g.2 0, 200, .inl tp) := by rw [eF_1, va_up_ne _ _ (by omega)]; exact hR.2.1
  have f_4 : F_1 (89) = .inl (g.2 2, 26, .inl hs) := by rw [eF_1, va_up_ne _ _ (by omega)]; exact hR.2.2.1
  have f_5 : F_1 (90) = .inl (g.2 0, 26, .inl sz) := by rw [eF_1, va_up_ne _ _ (by omega)]; exact hR.2.2.2.1
  have f_6 : F_1 (91) = .inl (g.2 0, 2600, .inl tx) := by rw [eF_1, va_up_ne _ _ (by omega)]; exact hR.2.2.2.2.1
  have f_7 : F_1 (92) = .inl (g.2 0, 301, .inl vl) := by rw [eF_1, va_up_ne _ _ (by omega)]; exact hR.2.2.2.2.2.1
  have f_8 : F_1 (93) = .inl (g.2 0, 28, .inl ey) := by rw [eF_1, va_up_ne _ _ (by omega)]; exact hR.2.2.2.2.2.2.1
  have f_9 : F_1 (94) = .inl (g.2 0, 28, .inl ap) := by rw [eF_1, va_up_ne _ _ (by omega)]; exact hR.2.2.2.2.2.2.2.1
  have f_10 : F_1 (95) = .inl (g.2 0, 204, .inl md) := by rw [eF_1, va_up_ne _ _ (by omega)]; exact hR.2.2.2.2.2.2.2.2
  have hf_11 : mFr F F_1 := fun x hx => by rw [eF_1, va_up_ne _ _ (by omega)]
  refine lv_aload_n hx hb d_M_place_5 rfl (lv_at hl 0 rfl) ?_
  refine hp_get S hK hW (87) (by omega) rfl f_2 rfl in_kM 8 (by decide) (hts _ (List.mem_cons_of_mem _ tq_104)) rfl d_M_place_6 ?_
  exact hp_reti S hK hW hr hlk d_M_place_9 (⟨rfl, ⟨tp, hs, sz, tx, vl, ey, md, ⟨f_2, f_3, f_4, f_5, f_6, f_7, f_8, f_9, f_10⟩, ⟨htl, htp⟩, hT, ⟨hll, hvl⟩, hKs, hml0, hmd⟩, hf_11⟩)

/-! the reference: characters -/
set_option maxHeartbeats 400000 in
set_option maxRecDepth 100000 in
theorem m_characters (l : Launch) (g : hp_G) (z0 N : Nat) (ad : Nat → Nat) (F : Nat → va_E) (hN : 96 ≤ N) (tape : List Int32) (kn : Nat → Bool) (rt : Nat → List Int32) (la mm : List Int32) (stk : List Nat) (ap : Nat → Int32) (tc fp me dp fa ou ki nu be : Int32) (hS : mS g ad F tape kn rt la mm stk ap tc fp me dp fa ou ki nu be) (k : Int32) : hp_Ml l g z0 N ad y_M_characters ws_M_characters (rk 1) [.ref (ad 87), .int k] F (fun v F' => v = md_word la k ∧ mS g ad F' tape kn rt la mm stk ap 0 fp me dp fa ou ki nu be ∧ mFr F F') := by
  obtain ⟨tp, hs, sz, tx, vl, ey, md, hR, ⟨htl, htp⟩, hT, ⟨hll, hvl⟩, hKs, hml0, hmd⟩ := id hS
  refine hp_enter (cc := cc_M_characters) (maxL := 2) (ret := (some .long)) (by decide) rfl (Nat.le_of_ble_eq_true rfl) ?_
  intro p e s m below meth c S hr hlk hnm hK hW ls hl
  have hl : lv_has ls 2 [(0, .ref (ad 87)), (1, .int k)] := hl
  obtain ⟨hx, hb, hml, hown, hts⟩ := id S
  have in_kM : ∀ w ∈ u_ws R_M T_M 21, w ∈ ws_M_characters := fun w h => List.mem_cons_of_mem _ (in0_M w h)
  refine lv_aload_n hx hb d_M_characters_0 rfl (lv_at hl 0 rfl) ?_
  refine lv_iconst (v := 0) hx hb d_M_characters_1 (by decide) ?_
  refine hp_put S hK hW (87) (by omega) rfl hR.1 rfl in_kM tyok_M nm_M 0 (by decide) (hts _ (List.mem_cons_of_mem _ tq_96)) rfl rfl rfl (Nat.le_of_ble_eq_true rfl) d_M_characters_2 (fun H locs hW => ?_)
  obtain ⟨F_1, eF_1⟩ : ∃ z, z = va_up F (87) (.inr (kM, [.int 0, .ref (ad 88), .int (nI tape.length), .ref (ad 89), .ref (ad 90), .ref (ad 91), .ref (ad 92), .int (nI la.length), .int fp, .int me, .int dp, .int (nI stk.length), .ref (ad 93), .ref (ad 94), .int fa, .int ou, .int ki, .int nu, .int be, .ref (ad 95), .int (nI mm.length)])) := ⟨_, rfl⟩
  replace hW : hp_W g z0 N ad F_1 s.heap H locs := by rw [eF_1]; exact hW
  have f_2 : F_1 (87) = .inr (kM, [.int 0, .ref (ad 88), .int (nI tape.length), .ref (ad 89), .ref (ad 90), .ref (ad 91), .ref (ad 92), .int (nI la.length), .int fp, .int me, .int dp, .int (nI stk.length), .ref (ad 93), .ref (ad 94), .int fa, .int ou, .int ki, .int nu, .int be, .ref (ad 95), .int (nI mm.length)]) := by rw [eF_1, va_up_self]
  have f_3 : F_1 (88) = .inl (g.2 0, 200, .inl tp) := by rw [eF_1, va_up_ne _ _ (by omega)]; exact hR.2.1
  have f_4 : F_1 (89) = .inl (g.2 2, 26, .inl hs) := by rw [eF_1, va_up_ne _ _ (by omega)]; exact hR.2.2.1
  have f_5 : F_1 (90) = .inl (g.2 0, 26, .inl sz) := by rw [eF_1, va_up_ne _ _ (by omega)]; exact hR.2.2.2.1
  have f_6 : F_1 (91) = .inl (g.2 0, 2600, .inl tx) := by rw [eF_1, va_up_ne _ _ (by omega)]; exact hR.2.2.2.2.1
  have f_7 : F_1 (92) = .inl (g.2 0, 301, .inl vl) := by rw [eF_1, va_up_ne _ _ (by omega)]; exact hR.2.2.2.2.2.1
  have f_8 : F_1 (93) = .inl (g.2 0, 28, .inl ey) := by rw [eF_1, va_up_ne _ _ (by omega)]; exact hR.2.2.2.2.2.2.1
  have f_9 : F_1 (94) = .inl (g.2 0, 28, .inl ap) := by rw [eF_1, va_up_ne _ _ (by omega)]; exact hR.2.2.2.2.2.2.2.1
  have f_10 : F_1 (95) = .inl (g.2 0, 204, .inl md) := by rw [eF_1, va_up_ne _ _ (by omega)]; exact hR.2.2.2.2.2.2.2.2
  have hf_11 : mFr F F_1 := fun x hx => by rw [eF_1, va_up_ne _ _ (by omega)]
  refine lv_iload_n hx hb d_M_characters_5 rfl (lv_at hl 1 rfl) ?_
  refine lv_if_ge (tgt := 15) hx hb d_M_characters_6 (by decide) (fun c_6 => ?_) (fun c_6 => ?_)
  · have c_6i := c_6
    have c_6j := Int32.not_lt.mpr c_6
    have hk0 : ¬ k < 0 := Int32.not_lt.mpr c_6
    refine lv_aload_n hx hb d_M_characters_15 rfl (lv_at hl 0 rfl) ?_
    refine hp_get S hK hW (87) (by omega) rfl f_2 rfl in_kM 6 (by decide) (hts _ (List.mem_cons_of_mem _ tq_102)) rfl d_M_characters_16 ?_
    refine lv_iconst (v := 0) hx hb d_M_characters_19 (by decide) ?_
    refine lv_aload_n hx hb d_M_characters_20 rfl (lv_at hl 0 rfl) ?_
    refine hp_get S hK hW (87) (by omega) rfl f_2 rfl in_kM 7 (by decide) (hts _ (List.mem_cons_of_mem _ tq_103)) rfl d_M_characters_21 ?_
    refine lv_iload_n hx hb d_M_characters_24 rfl (lv_at hl 1 rfl) ?_
    have f92 := f_7
    refine hp_gol hW (va_runS S (m_eight l g z0 N ad F_1 92 301 0 (by omega) la vl f92 (by omega) (by omega) hvl k hk0) (va_cwS 4 hts (tb_S cd_M_eight tq_160 tq_161 tq_118) rfl rfl rfl hd_M_eight.2 (rk_ok (by omega) (by omega))) (hp_preS hK hW) rfl rfl hl.1 rfl (lv_room (Nat.le_of_ble_eq_true rfl)) d_M_characters_25 ⟨Nat.zero_le _, Nat.zero_le _⟩) (fun r_12 F_13 H locs hw hW => ?_)
    obtain ⟨hvq, hFq⟩ := hw
    rw [hFq] at hW
    rw [hvq]
    exact hp_retl S hK hW hr hlk d_M_characters_28 (⟨by rw [md_word, if_neg hk0], ⟨tp, hs, sz, tx, vl, ey, md, ⟨f_2, f_3, f_4, f_5, f_6, f_7, f_8, f_9, f_10⟩, ⟨htl, htp⟩, hT, ⟨hll, hvl⟩, hKs, hml0, hmd⟩, hf_11⟩)
  · have c_6i := c_6
    have c_6j := Int32.not_le.mp c_6
    have hk0 : k < 0 := Int32.not_le.mp c_6
    refine lv_ldc2 (v := (-1)) hx hb hown (hts _ (List.mem_cons_of_mem _ tq_159)) d_M_characters_9 ?_
    refine lv_goto (tgt := 28) hx hb d_M_characters_12 (by decide) ?_
    exact hp_retl S hK hW hr hlk d_M_characters_28 (⟨by rw [md_word, if_pos hk0], ⟨tp, hs, sz, tx, vl, ey, md, ⟨f_2, f_3, f_4, f_5, f_6, f_7, f_8, f_9, f_10⟩, ⟨htl, htp⟩, hT, ⟨hll, hvl⟩, hKs, hml0, hmd⟩, hf_11⟩)

/-! the reference: text, no such entity -/
set_option maxHeartbeats 400000 in
set_option maxRecDepth 100000 in
theorem m_text_out (l : Launch) (g : hp_G) (z0 N : Nat) (ad : Nat → Nat) (F : Nat → va_E) (hN : 96 ≤ N) (tape : List Int32) (kn : Nat → Bool) (rt : Nat → List Int32) (la mm : List Int32) (stk : List Nat) (ap : Nat → Int32) (tc fp me dp fa ou ki nu be : Int32) (hS : mS g ad F tape kn rt la mm stk ap tc fp me dp fa ou ki nu be) (e0 k : Int32) (hno : ¬ (0 ≤ e0 ∧ e0 < 26)) : hp_Ml l g z0 N ad y_M_text ws_M_text (rk 1) [.ref (ad 87), .int e0, .int k] F (fun v F' => v = -1 ∧ mS g ad F' tape kn rt la mm stk ap 0 fp me dp fa ou ki nu be ∧ mFr F F') := by
  obtain ⟨tp, hs, sz, tx, vl, ey, md, hR, ⟨htl, htp⟩, hT, ⟨hll, hvl⟩, hKs, hml0, hmd⟩ := id hS
  refine hp_enter (cc := cc_M_text) (maxL := 3) (ret := (some .long)) (by decide) rfl (Nat.le_of_ble_eq_true rfl) ?_
  intro p e s m below meth c S hr hlk hnm hK hW ls hl
  have hl : lv_has ls 3 [(0, .ref (ad 87)), (1, .int e0), (2, .int k)] := hl
  obtain ⟨hx, hb, hml, hown, hts⟩ := id S
  have in_kM : ∀ w ∈ u_ws R_M T_M 21, w ∈ ws_M_text := fun w h => List.mem_cons_of_mem _ (in0_M w h)
  refine lv_aload_n hx hb d_M_text_0 rfl (lv_at hl 0 rfl) ?_
  refine lv_iconst (v := 0) hx hb d_M_text_1 (by decide) ?_
  refine hp_put S hK hW (87) (by omega) rfl hR.1 rfl in_kM tyok_M nm_M 0 (by decide) (hts _ (List.mem_cons_of_mem _ tq_96)) rfl rfl rfl (Nat.le_of_ble_eq_true rfl) d_M_text_2 (fun H locs hW => ?_)
  obtain ⟨F_1, eF_1⟩ : ∃ z, z = va_up F (87) (.inr (kM, [.int 0, .ref (ad 88), .int (nI tape.length), .ref (ad 89), .ref (ad 90), .ref (ad 91), .ref (ad 92), .int (nI la.length), .int fp, .int me, .int dp, .int (nI stk.length), .ref (ad 93), .ref (ad 94), .int fa, .int ou, .int ki, .int nu, .int be, .ref (ad 95), .int (nI mm.length)])) := ⟨_, rfl⟩
  replace hW : hp_W g z0 N ad F_1 s.heap H locs := by rw [eF_1]; exact hW
  have f_2 : F_1 (87) = .inr (kM, [.int 0, .ref (ad 88), .int (nI tape.length), .ref (ad 89), .ref (ad 90), .ref (ad 91), .ref (ad 92), .int (nI la.length), .int fp, .int me, .int dp, .int (nI stk.length), .ref (ad 93), .ref (ad 94), .int fa, .int ou, .int ki, .int nu, .int be, .ref (ad 95), .int (nI mm.length)]) := by rw [eF_1, va_up_self]
  have f_3 : F_1 (88) = .inl (g.2 0, 200, .inl tp) := by rw [eF_1, va_up_ne _ _ (by omega)]; exact hR.2.1
  have f_4 : F_1 (89) = .inl (g.2 2, 26, .inl hs) := by rw [eF_1, va_up_ne _ _ (by omega)]; exact hR.2.2.1
  have f_5 : F_1 (90) = .inl (g.2 0, 26, .inl sz) := by rw [eF_1, va_up_ne _ _ (by omega)]; exact hR.2.2.2.1
  have f_6 : F_1 (91) = .inl (g.2 0, 2600, .inl tx) := by rw [eF_1, va_up_ne _ _ (by omega)]; exact hR.2.2.2.2.1
  have f_7 : F_1 (92) = .inl (g.2 0, 301, .inl vl) := by rw [eF_1, va_up_ne _ _ (by omega)]; exact hR.2.2.2.2.2.1
  have f_8 : F_1 (93) = .inl (g.2 0, 28, .inl ey) := by rw [eF_1, va_up_ne _ _ (by omega)]; exact hR.2.2.2.2.2.2.1
  have f_9 : F_1 (94) = .inl (g.2 0, 28, .inl ap) := by rw [eF_1, va_up_ne _ _ (by omega)]; exact hR.2.2.2.2.2.2.2.1
  have f_10 : F_1 (95) = .inl (g.2 0, 204, .inl md) := by rw [eF_1, va_up_ne _ _ (by omega)]; exact hR.2.2.2.2.2.2.2.2
  have hf_11 : mFr F F_1 := fun x hx => by rw [eF_1, va_up_ne _ _ (by omega)]
  refine lv_iload_n hx hb d_M_text_5 rfl (lv_at hl 2 rfl) ?_
  refine lv_if_lt (tgt := 19) hx hb d_M_text_6 (by decide) (fun c_6 => ?_) (fun c_6 => ?_)
  · have c_6i := c_6
    have c_6j := Int32.not_le.mpr c_6
    refine lv_ldc2 (v := (-1)) hx hb hown (hts _ (List.mem_cons_of_mem _ tq_159)) d_M_text_19 ?_
    exact hp_retl S hK hW hr hlk d_M_text_22 (⟨rfl, ⟨tp, hs, sz, tx, vl, ey, md, ⟨f_2, f_3, f_4, f_5, f_6, f_7, f_8, f_9, f_10⟩, ⟨htl, htp⟩, hT, ⟨hll, hvl⟩, hKs, hml0, hmd⟩, hf_11⟩)
  · have c_6i := c_6
    have c_6j := Int32.not_lt.mp c_6
    refine lv_iload_n hx hb d_M_text_9 rfl (lv_at hl 1 rfl) ?_
    refine lv_if_lt (tgt := 19) hx hb d_M_text_10 (by decide) (fun c_10 => ?_) (fun c_10 => ?_)
    · have c_10i := c_10
      have c_10j := Int32.not_le.mpr c_10
      refine lv_ldc2 (v := (-1)) hx hb hown (hts _ (List.mem_cons_of_mem _ tq_159)) d_M_text_19 ?_
      exact hp_retl S hK hW hr hlk d_M_text_22 (⟨rfl, ⟨tp, hs, sz, tx, vl, ey, md, ⟨f_2, f_3, f_4, f_5, f_6, f_7, f_8, f_9, f_10⟩, ⟨htl, htp⟩, hT, ⟨hll, hvl⟩, hKs, hml0, hmd⟩, hf_11⟩)
    · have c_10i := c_10
      have c_10j := Int32.not_lt.mp c_10
      refine lv_iload_n hx hb d_M_text_13 rfl (lv_at hl 1 rfl) ?_
      refine lv_bipush (v := 25) hx hb d_M_text_14 (by decide) ?_
      refine lv_icmp_le (tgt := 23) hx hb d_M_text_16 (by decide) (fun c_16 => ?_) (fun c_16 => ?_)
      · have c_16i := c_16
        have c_16j := Int32.not_lt.mpr c_16
        exact absurd hno (fun h => h ⟨Int32.not_lt.mp c_10i, le25 c_16i⟩)
      · have c_16i := c_16
        have c_16j := Int32.not_le.mp c_16
        refine lv_ldc2 (v := (-1)) hx hb hown (hts _ (List.mem_cons_of_mem _ tq_159)) d_M_text_19 ?_
        exact hp_retl S hK hW hr hlk d_M_text_22 (⟨rfl, ⟨tp, hs, sz, tx, vl, ey, md, ⟨f_2, f_3, f_4, f_5, f_6, f_7, f_8, f_9, f_10⟩, ⟨htl, htp⟩, hT, ⟨hll, hvl⟩, hKs, hml0, hmd⟩, hf_11⟩)

/-! the reference: text -/
set_option maxHeartbeats 400000 in
set_option maxRecDepth 100000 in
theorem m_text_in (l : Launch) (g : hp_G) (z0 N : Nat) (ad : Nat → Nat) (F : Nat → va_E) (hN : 96 ≤ N) (tape : List Int32) (kn : Nat → Bool) (rt : Nat → List Int32) (la mm : List Int32) (stk : List Nat) (ap : Nat → Int32) (tc fp me dp fa ou ki nu be : Int32) (hS : mS g ad F tape kn rt la mm stk ap tc fp me dp fa ou ki nu be) (i : Nat) (hi : i < 26) (k : Int32) : hp_Ml l g z0 N ad y_M_text ws_M_text (rk 1) [.ref (ad 87), .int (nI i), .int k] F (fun v F' => v = (if kn i = true then md_word (rt i) k else -1) ∧ mS g ad F' tape kn rt la mm stk ap 0 fp me dp fa ou ki nu be ∧ mFr F F') := by
  obtain ⟨tp, hs, sz, tx, vl, ey, md, hR, ⟨htl, htp⟩, hT, ⟨hll, hvl⟩, hKs, hml0, hmd⟩ := id hS
  refine hp_enter (cc := cc_M_text) (maxL := 3) (ret := (some .long)) (by decide) rfl (Nat.le_of_ble_eq_true rfl) ?_
  intro p e s m below meth c S hr hlk hnm hK hW ls hl
  have hl : lv_has ls 3 [(0, .ref (ad 87)), (1, .int (nI i)), (2, .int k)] := hl
  obtain ⟨hx, hb, hml, hown, hts⟩ := id S
  have in_kM : ∀ w ∈ u_ws R_M T_M 21, w ∈ ws_M_text := fun w h => List.mem_cons_of_mem _ (in0_M w h)
  refine lv_aload_n hx hb d_M_text_0 rfl (lv_at hl 0 rfl) ?_
  refine lv_iconst (v := 0) hx hb d_M_text_1 (by decide) ?_
  refine hp_put S hK hW (87) (by omega) rfl hR.1 rfl in_kM tyok_M nm_M 0 (by decide) (hts _ (List.mem_cons_of_mem _ tq_96)) rfl rfl rfl (Nat.le_of_ble_eq_true rfl) d_M_text_2 (fun H locs hW => ?_)
  obtain ⟨F_1, eF_1⟩ : ∃ z, z = va_up F (87) (.inr (kM, [.int 0, .ref (ad 88), .int (nI tape.length), .ref (ad 89), .ref (ad 90), .ref (ad 91), .ref (ad 92), .int (nI la.length), .int fp, .int me, .int dp, .int (nI stk.length), .ref (ad 93), .ref (ad 94), .int fa, .int ou, .int ki, .int nu, .int be, .ref (ad 95), .int (nI mm.length)])) := ⟨_, rfl⟩
  replace hW : hp_W g z0 N ad F_1 s.heap H locs := by rw [eF_1]; exact hW
  have f_2 : F_1 (87) = .inr (kM, [.int 0, .ref (ad 88), .int (nI tape.length), .ref (ad 89), .ref (ad 90), .ref (ad 91), .ref (ad 92), .int (nI la.length), .int fp, .int me, .int dp, .int (nI stk.length), .ref (ad 93), .ref (ad 94), .int fa, .int ou, .int ki, .int nu, .int be, .ref (ad 95), .int (nI mm.length)]) := by rw [eF_1, va_up_self]
  have f_3 : F_1 (88) = .inl (g.2 0, 200, .inl tp) := by rw [eF_1, va_up_ne _ _ (by omega)]; exact hR.2.1
  have f_4 : F_1 (89) = .inl (g.2 2, 26, .inl hs) := by rw [eF_1, va_up_ne _ _ (by omega)]; exact hR.2.2.1
  have f_5 : F_1 (90) = .inl (g.2 0, 26, .inl sz) := by rw [eF_1, va_up_ne _ _ (by omega)]; exact hR.2.2.2.1
  have f_6 : F_1 (91) = .inl (g.2 0, 2600, .inl tx) := by rw [eF_1, va_up_ne _ _ (by omega)]; exact hR.2.2.2.2.1
  have f_7 : F_1 (92) = .inl (g.2 0, 301, .inl vl) := by rw [eF_1, va_up_ne _ _ (by omega)]; exact hR.2.2.2.2.2.1
  have f_8 : F_1 (93) = .inl (g.2 0, 28, .inl ey) := by rw [eF_1, va_up_ne _ _ (by omega)]; exact hR.2.2.2.2.2.2.1
  have f_9 : F_1 (94) = .inl (g.2 0, 28, .inl ap) := by rw [eF_1, va_up_ne _ _ (by omega)]; exact hR.2.2.2.2.2.2.2.1
  have f_10 : F_1 (95) = .inl (g.2 0, 204, .inl md) := by rw [eF_1, va_up_ne _ _ (by omega)]; exact hR.2.2.2.2.2.2.2.2
  have hf_11 : mFr F F_1 := fun x hx => by rw [eF_1, va_up_ne _ _ (by omega)]
  refine lv_iload_n hx hb d_M_text_5 rfl (lv_at hl 2 rfl) ?_
  refine lv_if_lt (tgt := 19) hx hb d_M_text_6 (by decide) (fun c_6 => ?_) (fun c_6 => ?_)
  · have c_6i := c_6
    have c_6j := Int32.not_le.mpr c_6
    refine lv_ldc2 (v := (-1)) hx hb hown (hts _ (List.mem_cons_of_mem _ tq_159)) d_M_text_19 ?_
    exact hp_retl S hK hW hr hlk d_M_text_22 (⟨by rw [md_word, if_pos c_6i]; split <;> rfl, ⟨tp, hs, sz, tx, vl, ey, md, ⟨f_2, f_3, f_4, f_5, f_6, f_7, f_8, f_9, f_10⟩, ⟨htl, htp⟩, hT, ⟨hll, hvl⟩, hKs, hml0, hmd⟩, hf_11⟩)
  · have c_6i := c_6
    have c_6j := Int32.not_lt.mp c_6
    refine lv_iload_n hx hb d_M_text_9 rfl (lv_at hl 1 rfl) ?_
    refine lv_if_lt (tgt := 19) hx hb d_M_text_10 (by decide) (fun c_10 => absurd c_10 (show ¬ (((nI i) : Int32) < 0) from nI_pos (by omega))) (fun c_10 => ?_)
    refine lv_iload_n hx hb d_M_text_13 rfl (lv_at hl 1 rfl) ?_
    refine lv_bipush (v := 25) hx hb d_M_text_14 (by decide) ?_
    refine lv_icmp_le (tgt := 23) hx hb d_M_text_16 (by decide) (fun c_16 => ?_) (fun c_16 => absurd (show ((nI i) : Int32) ≤ 25 from nI_le (b := 25) (by omega) (by omega)) c_16)
    refine lv_aload_n hx hb d_M_text_23 rfl (lv_at hl 0 rfl) ?_
    refine hp_get S hK hW (87) (by omega) rfl f_2 rfl in_kM 3 (by decide) (hts _ (List.mem_cons_of_mem _ tq_99)) rfl d_M_text_24 ?_
    refine lv_iload_n hx hb d_M_text_27 rfl (lv_at hl 1 rfl) ?_
    refine hp_zald S hK hW (89) (by omega) rfl f_4 (vp_in_nI hi (by omega)) d_M_text_28 ?_
    rw [show (hs ((nI i) : Int32).toNatClampNeg) = (b2 (kn i)) from (by rw [nI_clamp (by omega)]; exact (hT i hi).1)]
    refine lv_if_eq (tgt := 53) hx hb d_M_text_29 (by decide) (fun c_29 => ?_) (fun c_29 => ?_)
    · have c_29i := c_29
      refine lv_ldc2 (v := (-1)) hx hb hown (hts _ (List.mem_cons_of_mem _ tq_159)) d_M_text_53 ?_
      exact hp_retl S hK hW hr hlk d_M_text_56 (⟨by rw [if_neg (by rw [b2_0.mp c_29i]; exact fun z => by cases z)], ⟨tp, hs, sz, tx, vl, ey, md, ⟨f_2, f_3, f_4, f_5, f_6, f_7, f_8, f_9, f_10⟩, ⟨htl, htp⟩, hT, ⟨hll, hvl⟩, hKs, hml0, hmd⟩, hf_11⟩)
    · have c_29i := c_29
      have hkn := b2_n0.mp c_29i
      have hTi := (hT i hi).2 hkn
      have hTl := hTi.2.1
      refine lv_aload_n hx hb d_M_text_32 rfl (lv_at hl 0 rfl) ?_
      refine hp_get S hK hW (87) (by omega) rfl f_2 rfl in_kM 5 (by decide) (hts _ (List.mem_cons_of_mem _ tq_101)) rfl d_M_text_33 ?_
      refine lv_bipush (v := 100) hx hb d_M_text_36 (by decide) ?_
      refine lv_iload_n hx hb d_M_text_38 rfl (lv_at hl 1 rfl) ?_
      refine lv_imul hx hb d_M_text_39 ?_
      rw [show (100 * (nI i)) = (nI (100 * i)) from pk_mul 100 i]
      refine lv_aload_n hx hb d_M_text_40 rfl (lv_at hl 0 rfl) ?_
      refine hp_get S hK hW (87) (by omega) rfl f_2 rfl in_kM 4 (by decide) (hts _ (List.mem_cons_of_mem _ tq_100)) rfl d_M_text_41 ?_
      refine lv_iload_n hx hb d_M_text_44 rfl (lv_at hl 1 rfl) ?_
      refine hp_iald S hK hW (90) (by omega) rfl f_5 (vp_in_nI hi (by omega)) d_M_text_45 ?_
      rw [show (sz ((nI i) : Int32).toNatClampNeg) = (nI (rt i).length) from (by rw [nI_clamp (by omega)]; exact hTi.1)]
      refine lv_iload_n hx hb d_M_text_46 rfl (lv_at hl 2 rfl) ?_
      have f91 := f_6
      refine hp_gol hW (va_runS S (m_eight l g z0 N ad F_1 91 2600 (100 * i) (by omega) (rt i) tx f91 (by omega) (by omega) hTi.2.2 k c_6i) (va_cwS 4 hts (tb_S cd_M_eight tq_160 tq_161 tq_118) rfl rfl rfl hd_M_eight.2 (rk_ok (by omega) (by omega))) (hp_preS hK hW) rfl rfl hl.1 rfl (lv_room (Nat.le_of_ble_eq_true rfl)) d_M_text_47 ⟨Nat.zero_le _, Nat.zero_le _⟩) (fun r_12 F_13 H locs hw hW => ?_)
      obtain ⟨hvq, hFq⟩ := hw
      rw [hFq] at hW
      rw [hvq]
      refine lv_goto (tgt := 56) hx hb d_M_text_50 (by decide) ?_
      exact hp_retl S hK hW hr hlk d_M_text_56 (⟨by rw [if_pos hkn, md_word, if_neg c_6i], ⟨tp, hs, sz, tx, vl, ey, md, ⟨f_2, f_3, f_4, f_5, f_6, f_7, f_8, f_9, f_10⟩, ⟨htl, htp⟩, hT, ⟨hll, hvl⟩, hKs, hml0, hmd⟩, hf_11⟩)
end
section
set_option maxHeartbeats 400000 in
set_option maxRecDepth 100000 in
theorem lp_m_put {p : Program} {e : Env} {s : State} {m : MethodId} {args : Array Value} {below : List Frame} {meth : Method} {c : Code} (l : Launch) (g : hp_G) (z0 N : Nat) (ad : Nat → Nat) (Fz : Nat → va_E) (hN : 96 ≤ N) (kn : Nat → Bool) (rt : Nat → List Int32) (la mm : List Int32) (stk : List Nat) (ap : Nat → Int32) (fp me dp fa ou ki nu be : Int32) (v : Int64) (x3 : Int32) (ys : List Int32) (S : CallFix p m c cc_M_put 5 s args ws_M_put R_M) (hr : meth.sig.returnType = (some .boolean)) (hlk : meth.locks = false) (hK : hp_K g s) : ∀ (t : Nat) (F : Nat → va_E) (zs : List Int32), zs.length + t ≤ 200 → mS g ad F zs kn rt la mm stk ap 0 fp me dp fa ou ki nu be → zs ++ md_bytes v t = ys → mFr Fz F → ∀ (H : Heap) (locs : List Loc) (ls : Array Slot), hp_W g z0 N ad F s.heap H locs → lv_has ls 5 [(0, .ref (ad 87)), (1, .long v), (3, .int x3), (4, .int (nI t + (-1)))] → W p l e (rk 0) s m args below meth c H locs 0 0 (MQ below (va_Qi (fun b F' => b = 1 ∧ mS g ad F' ys kn rt la mm stk ap 0 fp me dp fa ou ki nu be ∧ mFr Fz F') (hp_B g z0 N ad) (hp_A z0)) args s 0 0 (hp_A z0)) (F0 m 35 ls []) := by
  obtain ⟨hx, hb, hml, hown, hts⟩ := id S
  have in_kM : ∀ w ∈ u_ws R_M T_M 21, w ∈ ws_M_put := fun w h => List.mem_cons_of_mem _ (in0_M w h)
  intro t
  induction t with
  | zero =>
    intro F zs hz hS hcat hfr H locs ls hW hl
    have hcat : zs = ys := by rw [← hcat]; simp [md_bytes]
    subst hcat
    refine lv_iload hx hb d_M_put_35 (lv_at hl 3 rfl) ?_
    refine lv_if_lt (tgt := 77) hx hb d_M_put_37 (by decide) (fun c_37 => ?_) (fun c_37 => absurd (show ((nI 0 + (-1)) : Int32) < 0 from by decide) c_37)
    refine lv_iconst (v := 1) hx hb d_M_put_77 (by decide) ?_
    exact hp_retz S hK hW hr hlk rfl d_M_put_78 (⟨rfl, hS, hfr⟩)
  | succ t ih =>
    intro F zs hz hS hcat hfr H locs ls hW hl
    rw [pk_m1] at hl
    obtain ⟨tp, hs, sz, tx, vl, ey, md, hR, ⟨htl, htp⟩, hT, ⟨hll, hvl⟩, hKs, hml0, hmd⟩ := id hS
    refine lv_iload hx hb d_M_put_35 (lv_at hl 3 rfl) ?_
    refine lv_if_lt (tgt := 77) hx hb d_M_put_37 (by decide) (fun c_37 => absurd c_37 (show ¬ (((nI t) : Int32) < 0) from nI_pos (by omega))) (fun c_37 => ?_)
    refine lv_aload_n hx hb d_M_put_40 rfl (lv_at hl 0 rfl) ?_
    refine hp_get S hK hW (87) (by omega) rfl hR.1 rfl in_kM 1 (by decide) (hts _ (List.mem_cons_of_mem _ tq_97)) rfl d_M_put_41 ?_
    refine lv_aload_n hx hb d_M_put_44 rfl (lv_at hl 0 rfl) ?_
    refine hp_get S hK hW (87) (by omega) rfl hR.1 rfl in_kM 2 (by decide) (hts _ (List.mem_cons_of_mem _ tq_98)) rfl d_M_put_45 ?_
    refine lv_lload_n hx hb d_M_put_48 rfl (lv_at hl 1 rfl) ?_
    refine lv_bipush (v := 8) hx hb d_M_put_49 (by decide) ?_
    refine lv_iload hx hb d_M_put_51 (lv_at hl 3 rfl) ?_
    refine lv_imul hx hb d_M_put_53 ?_
    refine lv_lushr hx hb d_M_put_54 rfl ?_
    refine lv_l2i hx hb d_M_put_55 rfl ?_
    refine lv_sipush (v := 255) hx hb d_M_put_56 (by decide) ?_
    refine lv_iand hx hb d_M_put_59 ?_
    rw [show (((v.toUInt64 >>> ((8 * (nI t)).toInt64.toUInt64 &&& Int64.toUInt64 63)).toInt64).toInt32 &&& 255) = (md_byte v t) from rfl]
    refine hp_iast S hK hW (88) (by omega) rfl hR.2.1 (x := (md_byte v t)) (vp_in_nI (by omega) (by omega)) d_M_put_60 (fun H locs hW => ?_)
    obtain ⟨F_1, eF_1⟩ : ∃ z, z = va_up F (88) (.inl (g.2 0, 200, .inl (upd tp zs.length (md_byte v t)))) := ⟨_, rfl⟩
    rw [show (((nI zs.length) : Int32).toNatClampNeg) = zs.length from nI_clamp (by omega)] at hW
    replace hW : hp_W g z0 N ad F_1 s.heap H locs := by rw [eF_1]; exact hW
    have f_2 : F_1 (87) = .inr (kM, [.int 0, .ref (ad 88), .int (nI zs.length), .ref (ad 89), .ref (ad 90), .ref (ad 91), .ref (ad 92), .int (nI la.length), .int fp, .int me, .int dp, .int (nI stk.length), .ref (ad 93), .ref (ad 94), .int fa, .int ou, .int ki, .int nu, .int be, .ref (ad 95), .int (nI mm.length)]) := by rw [eF_1, va_up_ne _ _ (by omega)]; exact hR.1
    have f_3 : F_1 (88) = .inl (g.2 0, 200, .inl (upd tp zs.length (md_byte v t))) := by rw [eF_1, va_up_self]
    have f_4 : F_1 (89) = .inl (g.2 2, 26, .inl hs) := by rw [eF_1, va_up_ne _ _ (by omega)]; exact hR.2.2.1
    have f_5 : F_1 (90) = .inl (g.2 0, 26, .inl sz) := by rw [eF_1, va_up_ne _ _ (by omega)]; exact hR.2.2.2.1
    have f_6 : F_1 (91) = .inl (g.2 0, 2600, .inl tx) := by rw [eF_1, va_up_ne _ _ (by omega)]; exact hR.2.2.2.2.1
    have f_7 : F_1 (92) = .inl (g.2 0, 301, .inl vl) := by rw [eF_1, va_up_ne _ _ (by omega)]; exact hR.2.2.2.2.2.1
    have f_8 : F_1 (93) = .inl (g.2 0, 28, .inl ey) := by rw [eF_1, va_up_ne _ _ (by omega)]; exact hR.2.2.2.2.2.2.1
    have f_9 : F_1 (94) = .inl (g.2 0, 28, .inl ap) := by rw [eF_1, va_up_ne _ _ (by omega)]; exact hR.2.2.2.2.2.2.2.1
    have f_10 : F_1 (95) = .inl (g.2 0, 204, .inl md) := by rw [eF_1, va_up_ne _ _ (by omega)]; exact hR.2.2.2.2.2.2.2.2
    have hf_11 : mFr F F_1 := fun x hx => by rw [eF_1, va_up_ne _ _ (by omega)]
    refine lv_aload_n hx hb d_M_put_61 rfl (lv_at hl 0 rfl) ?_
    refine lv_dup hx hb d_M_put_62 rfl ?_
    refine hp_get S hK hW (87) (by omega) rfl f_2 rfl in_kM 2 (by decide) (hts _ (List.mem_cons_of_mem _ tq_98)) rfl d_M_put_63 ?_
    refine lv_iconst (v := 1) hx hb d_M_put_66 (by decide) ?_
    refine lv_iadd hx hb d_M_put_67 ?_
    refine hp_put S hK hW (87) (by omega) rfl f_2 rfl in_kM tyok_M nm_M 2 (by decide) (hts _ (List.mem_cons_of_mem _ tq_98)) rfl rfl rfl (Nat.le_of_ble_eq_true rfl) d_M_put_68 (fun H locs hW => ?_)
    obtain ⟨F_12, eF_12⟩ : ∃ z, z = va_up F_1 (87) (.inr (kM, [.int 0, .ref (ad 88), .int ((nI zs.length) + 1), .ref (ad 89), .ref (ad 90), .ref (ad 91), .ref (ad 92), .int (nI la.length), .int fp, .int me, .int dp, .int (nI stk.length), .ref (ad 93), .ref (ad 94), .int fa, .int ou, .int ki, .int nu, .int be, .ref (ad 95), .int (nI mm.length)])) := ⟨_, rfl⟩
    replace hW : hp_W g z0 N ad F_12 s.heap H locs := by rw [eF_12]; exact hW
    have f_13 : F_12 (87) = .inr (kM, [.int 0, .ref (ad 88), .int ((nI zs.length) + 1), .ref (ad 89), .ref (ad 90), .ref (ad 91), .ref (ad 92), .int (nI la.length), .int fp, .int me, .int dp, .int (nI stk.length), .ref (ad 93), .ref (ad 94), .int fa, .int ou, .int ki, .int nu, .int be, .ref (ad 95), .int (nI mm.length)]) := by rw [eF_12, va_up_self]
    have f_14 : F_12 (88) = .inl (g.2 0, 200, .inl (upd tp zs.length (md_byte v t))) := by rw [eF_12, va_up_ne _ _ (by omega)]; exact f_3
    have f_15 : F_12 (89) = .inl (g.2 2, 26, .inl hs) := by rw [eF_12, va_up_ne _ _ (by omega)]; exact f_4
    have f_16 : F_12 (90) = .inl (g.2 0, 26, .inl sz) := by rw [eF_12, va_up_ne _ _ (by omega)]; exact f_5
    have f_17 : F_12 (91) = .inl (g.2 0, 2600, .inl tx) := by rw [eF_12, va_up_ne _ _ (by omega)]; exact f_6
    have f_18 : F_12 (92) = .inl (g.2 0, 301, .inl vl) := by rw [eF_12, va_up_ne _ _ (by omega)]; exact f_7
    have f_19 : F_12 (93) = .inl (g.2 0, 28, .inl ey) := by rw [eF_12, va_up_ne _ _ (by omega)]; exact f_8
    have f_20 : F_12 (94) = .inl (g.2 0, 28, .inl ap) := by rw [eF_12, va_up_ne _ _ (by omega)]; exact f_9
    have f_21 : F_12 (95) = .inl (g.2 0, 204, .inl md) := by rw [eF_12, va_up_ne _ _ (by omega)]; exact f_10
    have hf_22 : mFr F_1 F_12 := fun x hx => by rw [eF_12, va_up_ne _ _ (by omega)]
    refine lv_iinc (v := ((nI t) + (-1))) (lv' := [(4, .int ((nI t) + (-1))), (0, .ref (ad 87)), (1, .long v), (3, .int x3)]) hx hb d_M_put_71 hl (k := 3) rfl (rfl) (by decide) rfl (fun ls hl => ?_)
    refine lv_goto (tgt := 35) hx hb d_M_put_74 (by decide) ?_
    have e87 := f_13
    exact ih F_12 (zs ++ [(md_byte v t)]) (by rw [List.length_append, List.length_singleton]; omega) ⟨((upd tp zs.length (md_byte v t))), hs, sz, tx, vl, ey, md, ⟨(by rw [e87, List.length_append, List.length_singleton, nI_succ] <;> rfl), f_14, f_15, f_16, f_17, f_18, f_19, f_20, f_21⟩, ⟨by rw [List.length_append, List.length_singleton]; omega, mL_push htp⟩, hT, ⟨hll, hvl⟩, hKs, hml0, hmd⟩ (by rw [← hcat, md_bytes_s]; simp) (hfr.tr (hf_11.tr hf_22)) H locs ls hW (lv_sub hl [1, 2, 3, 0] rfl)

/-! the reference: put(v, k), 0 < k < 9 -/
set_option maxHeartbeats 400000 in
set_option maxRecDepth 100000 in
theorem m_put_in (l : Launch) (g : hp_G) (z0 N : Nat) (ad : Nat → Nat) (F : Nat → va_E) (hN : 96 ≤ N) (tape : List Int32) (kn : Nat → Bool) (rt : Nat → List Int32) (la mm : List Int32) (stk : List Nat) (ap : Nat → Int32) (tc fp me dp fa ou ki nu be : Int32) (hS : mS g ad F tape kn rt la mm stk ap tc fp me dp fa ou ki nu be) (v : Int64) (k : Nat) (hk1 : 1 ≤ k) (hk8 : k ≤ 8) : hp_Mi l g z0 N ad y_M_put ws_M_put (rk 0) [.ref (ad 87), .long v, .int (nI k)] F (fun b F' => b = b2 (decide (1 ≤ k ∧ k ≤ 8 ∧ tape.length + k ≤ 200)) ∧ mS g ad F' (if 1 ≤ k ∧ k ≤ 8 ∧ tape.length + k ≤ 200 then tape ++ md_bytes v k else tape) kn rt la mm stk ap 0 fp me dp fa ou ki nu be ∧ mFr F F') := by
  obtain ⟨tp, hs, sz, tx, vl, ey, md, hR, ⟨htl, htp⟩, hT, ⟨hll, hvl⟩, hKs, hml0, hmd⟩ := id hS
  refine hp_enter (cc := cc_M_put) (maxL := 5) (ret := (some .boolean)) (by decide) rfl (Nat.le_of_ble_eq_true rfl) ?_
  intro p e s m below meth c S hr hlk hnm hK hW ls hl
  have hl : lv_has ls 5 [(0, .ref (ad 87)), (1, .long v), (3, .int (nI k))] := hl
  obtain ⟨hx, hb, hml, hown, hts⟩ := id S
  have in_kM : ∀ w ∈ u_ws R_M T_M 21, w ∈ ws_M_put := fun w h => List.mem_cons_of_mem _ (in0_M w h)
  refine lv_aload_n hx hb d_M_put_0 rfl (lv_at hl 0 rfl) ?_
  refine lv_iconst (v := 0) hx hb d_M_put_1 (by decide) ?_
  refine hp_put S hK hW (87) (by omega) rfl hR.1 rfl in_kM tyok_M nm_M 0 (by decide) (hts _ (List.mem_cons_of_mem _ tq_96)) rfl rfl rfl (Nat.le_of_ble_eq_true rfl) d_M_put_2 (fun H locs hW => ?_)
  obtain ⟨F_1, eF_1⟩ : ∃ z, z = va_up F (87) (.inr (kM, [.int 0, .ref (ad 88), .int (nI tape.length), .ref (ad 89), .ref (ad 90), .ref (ad 91), .ref (ad 92), .int (nI la.length), .int fp, .int me, .int dp, .int (nI stk.length), .ref (ad 93), .ref (ad 94), .int fa, .int ou, .int ki, .int nu, .int be, .ref (ad 95), .int (nI mm.length)])) := ⟨_, rfl⟩
  replace hW : hp_W g z0 N ad F_1 s.heap H locs := by rw [eF_1]; exact hW
  have f_2 : F_1 (87) = .inr (kM, [.int 0, .ref (ad 88), .int (nI tape.length), .ref (ad 89), .ref (ad 90), .ref (ad 91), .ref (ad 92), .int (nI la.length), .int fp, .int me, .int dp, .int (nI stk.length), .ref (ad 93), .ref (ad 94), .int fa, .int ou, .int ki, .int nu, .int be, .ref (ad 95), .int (nI mm.length)]) := by rw [eF_1, va_up_self]
  have f_3 : F_1 (88) = .inl (g.2 0, 200, .inl tp) := by rw [eF_1, va_up_ne _ _ (by omega)]; exact hR.2.1
  have f_4 : F_1 (89) = .inl (g.2 2, 26, .inl hs) := by rw [eF_1, va_up_ne _ _ (by omega)]; exact hR.2.2.1
  have f_5 : F_1 (90) = .inl (g.2 0, 26, .inl sz) := by rw [eF_1, va_up_ne _ _ (by omega)]; exact hR.2.2.2.1
  have f_6 : F_1 (91) = .inl (g.2 0, 2600, .inl tx) := by rw [eF_1, va_up_ne _ _ (by omega)]; exact hR.2.2.2.2.1
  have f_7 : F_1 (92) = .inl (g.2 0, 301, .inl vl) := by rw [eF_1, va_up_ne _ _ (by omega)]; exact hR.2.2.2.2.2.1
  have f_8 : F_1 (93) = .inl (g.2 0, 28, .inl ey) := by rw [eF_1, va_up_ne _ _ (by omega)]; exact hR.2.2.2.2.2.2.1
  have f_9 : F_1 (94) = .inl (g.2 0, 28, .inl ap) := by rw [eF_1, va_up_ne _ _ (by omega)]; exact hR.2.2.2.2.2.2.2.1
  have f_10 : F_1 (95) = .inl (g.2 0, 204, .inl md) := by rw [eF_1, va_up_ne _ _ (by omega)]; exact hR.2.2.2.2.2.2.2.2
  have hf_11 : mFr F F_1 := fun x hx => by rw [eF_1, va_up_ne _ _ (by omega)]
  refine lv_iload_n hx hb d_M_put_5 rfl (lv_at hl 2 rfl) ?_
  refine lv_iconst (v := 1) hx hb d_M_put_6 (by decide) ?_
  refine lv_icmp_lt (tgt := 28) hx hb d_M_put_7 (by decide) (fun c_7 => absurd c_7 (show ¬ (((nI k) : Int32) < 1) from nI_nlt (b := 1) hk1 (by omega))) (fun c_7 => ?_)
  refine lv_iload_n hx hb d_M_put_10 rfl (lv_at hl 2 rfl) ?_
  refine lv_bipush (v := 8) hx hb d_M_put_11 (by decide) ?_
  refine lv_icmp_gt (tgt := 28) hx hb d_M_put_13 (by decide) (fun c_13 => absurd c_13 (show ¬ (8 < ((nI k) : Int32)) from nI_nlt (a := 8) hk8 (by omega))) (fun c_13 => ?_)
  refine lv_aload_n hx hb d_M_put_16 rfl (lv_at hl 0 rfl) ?_
  refine hp_get S hK hW (87) (by omega) rfl f_2 rfl in_kM 2 (by decide) (hts _ (List.mem_cons_of_mem _ tq_98)) rfl d_M_put_17 ?_
  refine lv_iload_n hx hb d_M_put_20 rfl (lv_at hl 2 rfl) ?_
  refine lv_iadd hx hb d_M_put_21 ?_
  rw [show ((nI tape.length) + (nI k)) = (nI (tape.length + k)) from nI_add _ _]
  refine lv_sipush (v := 200) hx hb d_M_put_22 (by decide) ?_
  refine lv_icmp_le (tgt := 30) hx hb d_M_put_25 (by decide) (fun c_25 => ?_) (fun c_25 => ?_)
  · have c_25i := c_25
    replace c_25 : (tape.length + k) ≤ 200 := (nI_leI (a := (tape.length + k)) (b := 200) (by omega) (by omega)).mp c_25
    refine lv_iload_n hx hb d_M_put_30 rfl (lv_at hl 2 rfl) ?_
    refine lv_iconst (v := 1) hx hb d_M_put_31 (by decide) ?_
    refine lv_isub hx hb d_M_put_32 ?_
    refine lv_istore (lv' := [(4, .int ((nI k) - 1)), (0, .ref (ad 87)), (1, .long v), (3, .int (nI k))]) hx hb d_M_put_33 hl (by decide) rfl (fun ls hl => ?_)
    rw [show nI k - 1 = nI k + (-1) from Int32.sub_eq_add_neg _ _] at hl
    have hok : 1 ≤ k ∧ k ≤ 8 ∧ tape.length + k ≤ 200 := ⟨by omega, by omega, by omega⟩
    rw [if_pos hok, decide_eq_true hok]
    exact lp_m_put l g z0 N ad F hN kn rt la mm stk ap fp me dp fa ou ki nu be v _ _ S hr hlk hK k F_1 tape (by omega) ⟨tp, hs, sz, tx, vl, ey, md, ⟨f_2, f_3, f_4, f_5, f_6, f_7, f_8, f_9, f_10⟩, ⟨htl, htp⟩, hT, ⟨hll, hvl⟩, hKs, hml0, hmd⟩ rfl hf_11 _ _ ls hW (lv_sub hl [1, 2, 3, 0] rfl)
  · have c_25i := c_25
    replace c_25 : ¬ (tape.length + k) ≤ 200 := fun zz9 => c_25 ((nI_leI (a := (tape.length + k)) (b := 200) (by omega) (by omega)).mpr zz9)
    refine lv_iconst (v := 0) hx hb d_M_put_28 (by decide) ?_
    exact hp_retz S hK hW hr hlk rfl d_M_put_29 (by have hno : ¬ (1 ≤ k ∧ k ≤ 8 ∧ tape.length + k ≤ 200) := (by omega); rw [if_neg hno, decide_eq_false hno]; exact ⟨rfl, ⟨tp, hs, sz, tx, vl, ey, md, ⟨f_2, f_3, f_4, f_5, f_6, f_7, f_8, f_9, f_10⟩, ⟨htl, htp⟩, hT, ⟨hll, hvl⟩, hKs, hml0, hmd⟩, hf_11⟩)

/-! the reference: put(v, n), another n -/
set_option maxHeartbeats 400000 in
set_option maxRecDepth 100000 in
theorem m_put_out (l : Launch) (g : hp_G) (z0 N : Nat) (ad : Nat → Nat) (F : Nat → va_E) (hN : 96 ≤ N) (tape : List Int32) (kn : Nat → Bool) (rt : Nat → List Int32) (la mm : List Int32) (stk : List Nat) (ap : Nat → Int32) (tc fp me dp fa ou ki nu be : Int32) (hS : mS g ad F tape kn rt la mm stk ap tc fp me dp fa ou ki nu be) (v : Int64) (n : Int32) (hn : n < 1 ∨ 8 < n) : hp_Mi l g z0 N ad y_M_put ws_M_put (rk 0) [.ref (ad 87), .long v, .int n] F (fun b F' => b = 0 ∧ mS g ad F' tape kn rt la mm stk ap 0 fp me dp fa ou ki nu be ∧ mFr F F') := by
  obtain ⟨tp, hs, sz, tx, vl, ey, md, hR, ⟨htl, htp⟩, hT, ⟨hll, hvl⟩, hKs, hml0, hmd⟩ := id hS
  refine hp_enter (cc := cc_M_put) (maxL := 5) (ret := (some .boolean)) (by decide) rfl (Nat.le_of_ble_eq_true rfl) ?_
  intro p e s m below meth c S hr hlk hnm hK hW ls hl
  have hl : lv_has ls 5 [(0, .ref (ad 87)), (1, .long v), (3, .int n)] := hl
  obtain ⟨hx, hb, hml, hown, hts⟩ := id S
  have in_kM : ∀ w ∈ u_ws R_M T_M 21, w ∈ ws_M_put := fun w h => List.mem_cons_of_mem _ (in0_M w h)
  refine lv_aload_n hx hb d_M_put_0 rfl (lv_at hl 0 rfl) ?_
  refine lv_iconst (v := 0) hx hb d_M_put_1 (by decide) ?_
  refine hp_put S hK hW (87) (by omega) rfl hR.1 rfl in_kM tyok_M nm_M 0 (by decide) (hts _ (List.mem_cons_of_mem _ tq_96)) rfl rfl rfl (Nat.le_of_ble_eq_true rfl) d_M_put_2 (fun H locs hW => ?_)
  obtain ⟨F_1, eF_1⟩ : ∃ z, z = va_up F (87) (.inr (kM, [.int 0, .ref (ad 88), .int (nI tape.length), .ref (ad 89), .ref (ad 90), .ref (ad 91), .ref (ad 92), .int (nI la.length), .int fp, .int me, .int dp, .int (nI stk.length), .ref (ad 93), .ref (ad 94), .int fa, .int ou, .int ki, .int nu, .int be, .ref (ad 95), .int (nI mm.length)])) := ⟨_, rfl⟩
  replace hW : hp_W g z0 N ad F_1 s.heap H locs := by rw [eF_1]; exact hW
  have f_2 : F_1 (87) = .inr (kM, [.int 0, .ref (ad 88), .int (nI tape.length), .ref (ad 89), .ref (ad 90), .ref (ad 91), .ref (ad 92), .int (nI la.length), .int fp, .int me, .int dp, .int (nI stk.length), .ref (ad 93), .ref (ad 94), .int fa, .int ou, .int ki, .int nu, .int be, .ref (ad 95), .int (nI mm.length)]) := by rw [eF_1, va_up_self]
  have f_3 : F_1 (88) = .inl (g.2 0, 200, .inl tp) := by rw [eF_1, va_up_ne _ _ (by omega)]; exact hR.2.1
  have f_4 : F_1 (89) = .inl (g.2 2, 26, .inl hs) := by rw [eF_1, va_up_ne _ _ (by omega)]; exact hR.2.2.1
  have f_5 : F_1 (90) = .inl (g.2 0, 26, .inl sz) := by rw [eF_1, va_up_ne _ _ (by omega)]; exact hR.2.2.2.1
  have f_6 : F_1 (91) = .inl (g.2 0, 2600, .inl tx) := by rw [eF_1, va_up_ne _ _ (by omega)]; exact hR.2.2.2.2.1
  have f_7 : F_1 (92) = .inl (g.2 0, 301, .inl vl) := by rw [eF_1, va_up_ne _ _ (by omega)]; exact hR.2.2.2.2.2.1
  have f_8 : F_1 (93) = .inl (g.2 0, 28, .inl ey) := by rw [eF_1, va_up_ne _ _ (by omega)]; exact hR.2.2.2.2.2.2.1
  have f_9 : F_1 (94) = .inl (g.2 0, 28, .inl ap) := by rw [eF_1, va_up_ne _ _ (by omega)]; exact hR.2.2.2.2.2.2.2.1
  have f_10 : F_1 (95) = .inl (g.2 0, 204, .inl md) := by rw [eF_1, va_up_ne _ _ (by omega)]; exact hR.2.2.2.2.2.2.2.2
  have hf_11 : mFr F F_1 := fun x hx => by rw [eF_1, va_up_ne _ _ (by omega)]
  refine lv_iload_n hx hb d_M_put_5 rfl (lv_at hl 2 rfl) ?_
  refine lv_iconst (v := 1) hx hb d_M_put_6 (by decide) ?_
  refine lv_icmp_lt (tgt := 28) hx hb d_M_put_7 (by decide) (fun c_7 => ?_) (fun c_7 => ?_)
  · have c_7i := c_7
    have c_7j := Int32.not_le.mpr c_7
    refine lv_iconst (v := 0) hx hb d_M_put_28 (by decide) ?_
    exact hp_retz S hK hW hr hlk rfl d_M_put_29 (⟨rfl, ⟨tp, hs, sz, tx, vl, ey, md, ⟨f_2, f_3, f_4, f_5, f_6, f_7, f_8, f_9, f_10⟩, ⟨htl, htp⟩, hT, ⟨hll, hvl⟩, hKs, hml0, hmd⟩, hf_11⟩)
  · have c_7i := c_7
    have c_7j := Int32.not_lt.mp c_7
    refine lv_iload_n hx hb d_M_put_10 rfl (lv_at hl 2 rfl) ?_
    refine lv_bipush (v := 8) hx hb d_M_put_11 (by decide) ?_
    refine lv_icmp_gt (tgt := 28) hx hb d_M_put_13 (by decide) (fun c_13 => ?_) (fun c_13 => ?_)
    · have c_13i := c_13
      have c_13j := Int32.not_le.mpr c_13
      refine lv_iconst (v := 0) hx hb d_M_put_28 (by decide) ?_
      exact hp_retz S hK hW hr hlk rfl d_M_put_29 (⟨rfl, ⟨tp, hs, sz, tx, vl, ey, md, ⟨f_2, f_3, f_4, f_5, f_6, f_7, f_8, f_9, f_10⟩, ⟨htl, htp⟩, hT, ⟨hll, hvl⟩, hKs, hml0, hmd⟩, hf_11⟩)
    · have c_13i := c_13
      have c_13j := Int32.not_lt.mp c_13
      exact absurd hn (by rintro (h | h); exact c_7i h; exact c_13i h)

/-! the reference: known, its loop -/
set_option maxHeartbeats 400000 in
set_option maxRecDepth 100000 in
theorem lp_m_known {p : Program} {e : Env} {s : State} {m : MethodId} {args : Array Value} {below : List Frame} {meth : Method} {c : Code} (l : Launch) (g : hp_G) (z0 N : Nat) (ad : Nat → Nat)  (F : Nat → va_E) (hN : 96 ≤ N) (tape : List Int32) (kn : Nat → Bool) (rt : Nat → List Int32) (la mm : List Int32) (stk : List Nat) (ap : Nat → Int32) (tc fp me dp fa ou ki nu be : Int32) (hS : mS g ad F tape kn rt la mm stk ap tc fp me dp fa ou ki nu be) (tp hs sz tx vl ey md : Nat → Int32) (hR : mSt g ad F tc (nI tape.length) (nI la.length) fp me dp (nI stk.length) fa ou ki nu be (nI mm.length) tp hs sz tx vl ey ap md) (hT : mT kn rt hs sz tx) (S : CallFix p m c cc_M_known 3 s args ws_M_known R_M) (hr : meth.sig.returnType = (some .int)) (hlk : meth.locks = false) (hK : hp_K g s) : ∀ (j : Nat) (i : Nat), i ≤ 26 → 27 ≤ i + j → ∀ (H : Heap) (locs : List Loc) (ls : Array Slot), hp_W g z0 N ad F s.heap H locs → lv_has ls 3 [(0, .ref (ad 87)), (1, .int (nI (md_kn kn i))), (2, .int (nI i))] → W p l e (rk 0) s m args below meth c H locs 0 0 (MQ below (va_Qi (fun v F' => v = nI (md_kn kn 26) ∧ F' = F) (hp_B g z0 N ad) (hp_A z0)) args s 0 0 (hp_A z0)) (F0 m 4 ls []) := by
  obtain ⟨hx, hb, hml, hown, hts⟩ := id S
  have in_kM : ∀ w ∈ u_ws R_M T_M 21, w ∈ ws_M_known := fun w h => List.mem_cons_of_mem _ (in0_M w h)
  intro j
  induction j with
  | zero =>
    intro i hi hj H locs ls hW hl
    exact absurd hj (by omega)
  | succ j ih =>
    intro i hi hj H locs ls hW hl
    refine lv_iload_n hx hb d_M_known_4 rfl (lv_at hl 2 rfl) ?_
    refine lv_bipush (v := 26) hx hb d_M_known_5 (by decide) ?_
    refine lv_icmp_ge (tgt := 33) hx hb d_M_known_7 (by decide) (fun c_7 => ?_) (fun c_7 => ?_)
    · have c_7i := c_7
      replace c_7 : 26 ≤ i := (nI_leI (a := 26) (b := i) (by omega) (by omega)).mp c_7
      refine lv_iload_n hx hb d_M_known_33 rfl (lv_at hl 1 rfl) ?_
      exact hp_reti S hK hW hr hlk d_M_known_34 (⟨by rw [show i = 26 by omega], rfl⟩)
    · have c_7i := c_7
      replace c_7 : ¬ 26 ≤ i := fun zz9 => c_7 ((nI_leI (a := 26) (b := i) (by omega) (by omega)).mpr zz9)
      refine lv_iload_n hx hb d_M_known_10 rfl (lv_at hl 1 rfl) ?_
      refine lv_aload_n hx hb d_M_known_11 rfl (lv_at hl 0 rfl) ?_
      refine hp_get S hK hW (87) (by omega) rfl hR.1 rfl in_kM 3 (by decide) (hts _ (List.mem_cons_of_mem _ tq_99)) rfl d_M_known_12 ?_
      refine lv_iload_n hx hb d_M_known_15 rfl (lv_at hl 2 rfl) ?_
      refine hp_zald S hK hW (89) (by omega) rfl hR.2.2.1 (vp_in_nI (by omega) (by omega)) d_M_known_16 ?_
      rw [show (hs ((nI i) : Int32).toNatClampNeg) = (b2 (kn i)) from (by rw [nI_clamp (by omega)]; exact (hT i (by omega)).1)]
      refine lv_if_eq (tgt := 24) hx hb d_M_known_17 (by decide) (fun c_17 => ?_) (fun c_17 => ?_)
      · have c_17i := c_17
        refine lv_iconst (v := 0) hx hb d_M_known_24 (by decide) ?_
        refine lv_iadd hx hb d_M_known_25 ?_
        rw [show ((nI (md_kn kn i)) + 0) = (nI (md_kn kn i)) from Int32.add_zero _]
        refine lv_istore_n (lv' := [(1, .int (nI (md_kn kn i))), (0, .ref (ad 87)), (2, .int (nI i))]) hx hb d_M_known_26 rfl hl (by decide) rfl (fun ls hl => ?_)
        refine lv_iinc (v := (nI (i + 1))) (lv' := [(2, .int (nI (i + 1))), (1, .int (nI (md_kn kn i))), (0, .ref (ad 87))]) hx hb d_M_known_27 hl (k := 2) rfl ((nI_succ (i)).symm) (by decide) rfl (fun ls hl => ?_)
        refine lv_goto (tgt := 4) hx hb d_M_known_30 (by decide) ?_
        exact ih (i + 1) (by omega) (by omega) H locs ls hW (by rw [kn_t c_17i]; exact (lv_sub hl [2, 1, 0] rfl))
      · have c_17i := c_17
        refine lv_iconst (v := 1) hx hb d_M_known_20 (by decide) ?_
        refine lv_goto (tgt := 25) hx hb d_M_known_21 (by decide) ?_
        refine lv_iadd hx hb d_M_known_25 ?_
        rw [show ((nI (md_kn kn i)) + 1) = (nI (md_kn kn i + 1)) from (nI_succ _).symm]
        refine lv_istore_n (lv' := [(1, .int (nI (md_kn kn i + 1))), (0, .ref (ad 87)), (2, .int (nI i))]) hx hb d_M_known_26 rfl hl (by decide) rfl (fun ls hl => ?_)
        refine lv_iinc (v := (nI (i + 1))) (lv' := [(2, .int (nI (i + 1))), (1, .int (nI (md_kn kn i + 1))), (0, .ref (ad 87))]) hx hb d_M_known_27 hl (k := 2) rfl ((nI_succ (i)).symm) (by decide) rfl (fun ls hl => ?_)
        refine lv_goto (tgt := 4) hx hb d_M_known_30 (by decide) ?_
        exact ih (i + 1) (by omega) (by omega) H locs ls hW (by rw [kn_f c_17i]; exact (lv_sub hl [2, 1, 0] rfl))

/-! the reference: known -/
set_option maxHeartbeats 400000 in
set_option maxRecDepth 100000 in
theorem m_known (l : Launch) (g : hp_G) (z0 N : Nat) (ad : Nat → Nat) (F : Nat → va_E) (hN : 96 ≤ N) (tape : List Int32) (kn : Nat → Bool) (rt : Nat → List Int32) (la mm : List Int32) (stk : List Nat) (ap : Nat → Int32) (tc fp me dp fa ou ki nu be : Int32) (hS : mS g ad F tape kn rt la mm stk ap tc fp me dp fa ou ki nu be) : hp_Mi l g z0 N ad y_M_known ws_M_known (rk 0) [.ref (ad 87)] F (fun v F' => v = nI (md_kn kn 26) ∧ F' = F) := by
  obtain ⟨tp, hs, sz, tx, vl, ey, md, hR, ⟨htl, htp⟩, hT, ⟨hll, hvl⟩, hKs, hml0, hmd⟩ := id hS
  refine hp_enter (cc := cc_M_known) (maxL := 3) (ret := (some .int)) (by decide) rfl (Nat.le_of_ble_eq_true rfl) ?_
  intro p e s m below meth c S hr hlk hnm hK hW ls hl
  have hl : lv_has ls 3 [(0, .ref (ad 87))] := hl
  obtain ⟨hx, hb, hml, hown, hts⟩ := id S
  have in_kM : ∀ w ∈ u_ws R_M T_M 21, w ∈ ws_M_known := fun w h => List.mem_cons_of_mem _ (in0_M w h)
  refine lv_iconst (v := 0) hx hb d_M_known_0 (by decide) ?_
  refine lv_istore_n (lv' := [(1, .int 0), (0, .ref (ad 87))]) hx hb d_M_known_1 rfl hl (by decide) rfl (fun ls hl => ?_)
  refine lv_iconst (v := 0) hx hb d_M_known_2 (by decide) ?_
  refine lv_istore_n (lv' := [(2, .int 0), (1, .int 0), (0, .ref (ad 87))]) hx hb d_M_known_3 rfl hl (by decide) rfl (fun ls hl => ?_)
  exact lp_m_known l g z0 N ad F hN tape kn rt la mm stk ap tc fp me dp fa ou ki nu be hS tp hs sz tx vl ey md hR hT S hr hlk hK 27 0 (by omega) (by omega) _ _ ls hW (lv_sub hl [2, 1, 0] rfl)

theorem mT_clr {kn : Nat → Bool} {rt : Nat → List Int32} {hs sz tx : Nat → Int32} {i : Nat} (h : mT (clr kn i) rt hs sz tx) : mT (clr kn (i + 1)) rt (upd hs i 0) sz tx := by
  intro k hk
  rw [← clr_s]
  by_cases e : k = i
  · subst e
    rw [pk_us, va_up_self]
    exact ⟨rfl, fun z => by cases z⟩
  · rw [pk_un e, va_up_ne _ _ e]
    exact h k hk

/-! the reference: clear, its loop -/
set_option maxHeartbeats 400000 in
set_option maxRecDepth 100000 in
theorem lp_m_clear {p : Program} {e : Env} {s : State} {m : MethodId} {args : Array Value} {below : List Frame} {meth : Method} {c : Code} (l : Launch) (g : hp_G) (z0 N : Nat) (ad : Nat → Nat)  (Fz : Nat → va_E) (hN : 96 ≤ N) (tape : List Int32) (kn : Nat → Bool) (rt : Nat → List Int32) (la mm : List Int32) (ap : Nat → Int32) (fp me dp fa ou ki nu be : Int32) (x1 : Int32) (hx1 : x1 = nI (md_kn kn 26)) (S : CallFix p m c cc_M_clear 3 s args ws_M_clear R_M) (hr : meth.sig.returnType = (some .int)) (hlk : meth.locks = false) (hK : hp_K g s) : ∀ (j : Nat) (i : Nat) (F : Nat → va_E), i ≤ 26 → 27 ≤ i + j → mS g ad F tape (clr kn i) rt la mm [] ap 0 fp me dp fa ou ki nu be → mFr Fz F → ∀ (H : Heap) (locs : List Loc) (ls : Array Slot), hp_W g z0 N ad F s.heap H locs → lv_has ls 3 [(0, .ref (ad 87)), (1, .int x1), (2, .int (nI i))] → W p l e (rk 1) s m args below meth c H locs 0 0 (MQ below (va_Qi (fun v F' => v = nI (md_kn kn 26) ∧ mS g ad F' tape (clr kn 26) rt la mm [] ap 0 fp me dp fa ou ki nu be ∧ mFr Fz F') (hp_B g z0 N ad) (hp_A z0)) args s 0 0 (hp_A z0)) (F0 m 12 ls []) := by
  obtain ⟨hx, hb, hml, hown, hts⟩ := id S
  have in_kM : ∀ w ∈ u_ws R_M T_M 21, w ∈ ws_M_clear := fun w h => List.mem_cons_of_mem _ (in0_M w h)
  intro j
  induction j with
  | zero =>
    intro i F hi hj hS hfr H locs ls hW hl
    exact absurd hj (by omega)
  | succ j ih =>
    intro i F hi hj hS hfr H locs ls hW hl
    obtain ⟨tp, hs, sz, tx, vl, ey, md, hR, ⟨htl, htp⟩, hT, ⟨hll, hvl⟩, hKs, hml0, hmd⟩ := id hS
    refine lv_iload_n hx hb d_M_clear_12 rfl (lv_at hl 2 rfl) ?_
    refine lv_bipush (v := 26) hx hb d_M_clear_13 (by decide) ?_
    refine lv_icmp_ge (tgt := 31) hx hb d_M_clear_15 (by decide) (fun c_15 => ?_) (fun c_15 => ?_)
    · have c_15i := c_15
      replace c_15 : 26 ≤ i := (nI_leI (a := 26) (b := i) (by omega) (by omega)).mp c_15
      refine lv_iload_n hx hb d_M_clear_31 rfl (lv_at hl 1 rfl) ?_
      exact hp_reti S hK hW hr hlk d_M_clear_32 (⟨hx1, by rw [show (26 : Nat) = i by omega]; exact hS, hfr⟩)
    · have c_15i := c_15
      replace c_15 : ¬ 26 ≤ i := fun zz9 => c_15 ((nI_leI (a := 26) (b := i) (by omega) (by omega)).mpr zz9)
      refine lv_aload_n hx hb d_M_clear_18 rfl (lv_at hl 0 rfl) ?_
      refine hp_get S hK hW (87) (by omega) rfl hR.1 rfl in_kM 3 (by decide) (hts _ (List.mem_cons_of_mem _ tq_99)) rfl d_M_clear_19 ?_
      refine lv_iload_n hx hb d_M_clear_22 rfl (lv_at hl 2 rfl) ?_
      refine lv_iconst (v := 0) hx hb d_M_clear_23 (by decide) ?_
      refine hp_zast S hK hW (89) (by omega) rfl hR.2.2.1 (x := 0) (vp_in_nI (by omega) (by omega)) d_M_clear_24 (fun H locs hW => ?_)
      obtain ⟨F_1, eF_1⟩ : ∃ z, z = va_up F (89) (.inl (g.2 2, 26, .inl (upd hs i 0))) := ⟨_, rfl⟩
      rw [show (((nI i) : Int32).toNatClampNeg) = i from nI_clamp (by omega)] at hW
      replace hW : hp_W g z0 N ad F_1 s.heap H locs := by rw [eF_1]; exact hW
      have f_2 : F_1 (87) = .inr (kM, [.int 0, .ref (ad 88), .int (nI tape.length), .ref (ad 89), .ref (ad 90), .ref (ad 91), .ref (ad 92), .int (nI la.length), .int fp, .int me, .int dp, .int (nI (([] : List Nat)).length), .ref (ad 93), .ref (ad 94), .int fa, .int ou, .int ki, .int nu, .int be, .ref (ad 95), .int (nI mm.length)]) := by rw [eF_1, va_up_ne _ _ (by omega)]; exact hR.1
      have f_3 : F_1 (88) = .inl (g.2 0, 200, .inl tp) := by rw [eF_1, va_up_ne _ _ (by omega)]; exact hR.2.1
      have f_4 : F_1 (89) = .inl (g.2 2, 26, .inl (upd hs i 0)) := by rw [eF_1, va_up_self]
      have f_5 : F_1 (90) = .inl (g.2 0, 26, .inl sz) := by rw [eF_1, va_up_ne _ _ (by omega)]; exact hR.2.2.2.1
      have f_6 : F_1 (91) = .inl (g.2 0, 2600, .inl tx) := by rw [eF_1, va_up_ne _ _ (by omega)]; exact hR.2.2.2.2.1
      have f_7 : F_1 (92) = .inl (g.2 0, 301, .inl vl) := by rw [eF_1, va_up_ne _ _ (by omega)]; exact hR.2.2.2.2.2.1
      have f_8 : F_1 (93) = .inl (g.2 0, 28, .inl ey) := by rw [eF_1, va_up_ne _ _ (by omega)]; exact hR.2.2.2.2.2.2.1
      have f_9 : F_1 (94) = .inl (g.2 0, 28, .inl ap) := by rw [eF_1, va_up_ne _ _ (by omega)]; exact hR.2.2.2.2.2.2.2.1
      have f_10 : F_1 (95) = .inl (g.2 0, 204, .inl md) := by rw [eF_1, va_up_ne _ _ (by omega)]; exact hR.2.2.2.2.2.2.2.2
      have hf_11 : mFr F F_1 := fun x hx => by rw [eF_1, va_up_ne _ _ (by omega)]
      refine lv_iinc (v := (nI (i + 1))) (lv' := [(2, .int (nI (i + 1))), (0, .ref (ad 87)), (1, .int x1)]) hx hb d_M_clear_25 hl (k := 2) rfl ((nI_succ (i)).symm) (by decide) rfl (fun ls hl => ?_)
      refine lv_goto (tgt := 12) hx hb d_M_clear_28 (by decide) ?_
      exact ih (i + 1) F_1 (by omega) (by omega) ⟨tp, ((upd hs i 0)), sz, tx, vl, ey, md, ⟨f_2, f_3, f_4, f_5, f_6, f_7, f_8, f_9, f_10⟩, ⟨htl, htp⟩, hT, ⟨hll, hvl⟩, ⟨Nat.zero_le _, fun i h => absurd h (Nat.not_lt_zero _), fun k h => absurd h List.not_mem_nil⟩, hml0, hmd⟩ (hfr.tr hf_11) H locs ls hW (lv_sub hl [1, 2, 0] rfl)

/-! the reference: clear -/
set_option maxHeartbeats 400000 in
set_option maxRecDepth 100000 in
theorem m_clear (l : Launch) (g : hp_G) (z0 N : Nat) (ad : Nat → Nat) (F : Nat → va_E) (hN : 96 ≤ N) (tape : List Int32) (kn : Nat → Bool) (rt : Nat → List Int32) (la mm : List Int32) (ap : Nat → Int32) (tc fp me dp fa ou ki nu be : Int32) (hS : mS g ad F tape kn rt la mm [] ap tc fp me dp fa ou ki nu be) : hp_Mi l g z0 N ad y_M_clear ws_M_clear (rk 1) [.ref (ad 87)] F (fun v F' => v = nI (md_kn kn 26) ∧ mS g ad F' tape (clr kn 26) rt la mm [] ap 0 fp me dp fa ou ki nu be ∧ mFr F F') := by
  obtain ⟨tp, hs, sz, tx, vl, ey, md, hR, ⟨htl, htp⟩, hT, ⟨hll, hvl⟩, hKs, hml0, hmd⟩ := id hS
  refine hp_enter (cc := cc_M_clear) (maxL := 3) (ret := (some .int)) (by decide) rfl (Nat.le_of_ble_eq_true rfl) ?_
  intro p e s m below meth c S hr hlk hnm hK hW ls hl
  have hl : lv_has ls 3 [(0, .ref (ad 87))] := hl
  obtain ⟨hx, hb, hml, hown, hts⟩ := id S
  have in_kM : ∀ w ∈ u_ws R_M T_M 21, w ∈ ws_M_clear := fun w h => List.mem_cons_of_mem _ (in0_M w h)
  refine lv_aload_n hx hb d_M_clear_0 rfl (lv_at hl 0 rfl) ?_
  refine lv_iconst (v := 0) hx hb d_M_clear_1 (by decide) ?_
  refine hp_put S hK hW (87) (by omega) rfl hR.1 rfl in_kM tyok_M nm_M 0 (by decide) (hts _ (List.mem_cons_of_mem _ tq_96)) rfl rfl rfl (Nat.le_of_ble_eq_true rfl) d_M_clear_2 (fun H locs hW => ?_)
  obtain ⟨F_1, eF_1⟩ : ∃ z, z = va_up F (87) (.inr (kM, [.int 0, .ref (ad 88), .int (nI tape.length), .ref (ad 89), .ref (ad 90), .ref (ad 91), .ref (ad 92), .int (nI la.length), .int fp, .int me, .int dp, .int (nI (([] : List Nat)).length), .ref (ad 93), .ref (ad 94), .int fa, .int ou, .int ki, .int nu, .int be, .ref (ad 95), .int (nI mm.length)])) := ⟨_, rfl⟩
  replace hW : hp_W g z0 N ad F_1 s.heap H locs := by rw [eF_1]; exact hW
  have f_2 : F_1 (87) = .inr (kM, [.int 0, .ref (ad 88), .int (nI tape.length), .ref (ad 89), .ref (ad 90), .ref (ad 91), .ref (ad 92), .int (nI la.length), .int fp, .int me, .int dp, .int (nI (([] : List Nat)).length), .ref (ad 93), .ref (ad 94), .int fa, .int ou, .int ki, .int nu, .int be, .ref (ad 95), .int (nI mm.length)]) := by rw [eF_1, va_up_self]
  have f_3 : F_1 (88) = .inl (g.2 0, 200, .inl tp) := by rw [eF_1, va_up_ne _ _ (by omega)]; exact hR.2.1
  have f_4 : F_1 (89) = .inl (g.2 2, 26, .inl hs) := by rw [eF_1, va_up_ne _ _ (by omega)]; exact hR.2.2.1
  have f_5 : F_1 (90) = .inl (g.2 0, 26, .inl sz) := by rw [eF_1, va_up_ne _ _ (by omega)]; exact hR.2.2.2.1
  have f_6 : F_1 (91) = .inl (g.2 0, 2600, .inl tx) := by rw [eF_1, va_up_ne _ _ (by omega)]; exact hR.2.2.2.2.1
  have f_7 : F_1 (92) = .inl (g.2 0, 301, .inl vl) := by rw [eF_1, va_up_ne _ _ (by omega)]; exact hR.2.2.2.2.2.1
  have f_8 : F_1 (93) = .inl (g.2 0, 28, .inl ey) := by rw [eF_1, va_up_ne _ _ (by omega)]; exact hR.2.2.2.2.2.2.1
  have f_9 : F_1 (94) = .inl (g.2 0, 28, .inl ap) := by rw [eF_1, va_up_ne _ _ (by omega)]; exact hR.2.2.2.2.2.2.2.1
  have f_10 : F_1 (95) = .inl (g.2 0, 204, .inl md) := by rw [eF_1, va_up_ne _ _ (by omega)]; exact hR.2.2.2.2.2.2.2.2
  have hf_11 : mFr F F_1 := fun x hx => by rw [eF_1, va_up_ne _ _ (by omega)]
  refine lv_aload_n hx hb d_M_clear_5 rfl (lv_at hl 0 rfl) ?_
  have hSk : mS g ad F_1 tape kn rt la mm [] ap 0 fp me dp fa ou ki nu be := ⟨tp, hs, sz, tx, vl, ey, md, ⟨f_2, f_3, f_4, f_5, f_6, f_7, f_8, f_9, f_10⟩, ⟨htl, htp⟩, hT, ⟨hll, hvl⟩, hKs, hml0, hmd⟩
  refine hp_goi hW (va_runV S (m_known l g z0 N ad F_1 hN tape kn rt la mm [] ap 0 fp me dp fa ou ki nu be hSk) (cwV 0 hts (tb_V cd_M_known tq_162 tq_163 tq_164 tq_118) rfl rfl rfl hd_M_known (rk_ok (by omega) (by omega))) (hp_preV hK hW (by omega) rfl f_2 rfl) rfl rfl hl.1 rfl (lv_room (Nat.le_of_ble_eq_true rfl)) d_M_clear_6 ⟨Nat.zero_le _, Nat.zero_le _⟩) (fun r_12 F_13 H locs hw hW => ?_)
  obtain ⟨hvq, hFq⟩ := hw
  rw [hFq] at hW
  rw [hvq]
  refine lv_istore_n (lv' := [(1, .int (nI (md_kn kn 26))), (0, .ref (ad 87))]) hx hb d_M_clear_9 rfl hl (by decide) rfl (fun ls hl => ?_)
  refine lv_iconst (v := 0) hx hb d_M_clear_10 (by decide) ?_
  refine lv_istore_n (lv' := [(2, .int 0), (1, .int (nI (md_kn kn 26))), (0, .ref (ad 87))]) hx hb d_M_clear_11 rfl hl (by decide) rfl (fun ls hl => ?_)
  exact lp_m_clear l g z0 N ad F hN tape kn rt la mm ap fp me dp fa ou ki nu be _ rfl S hr hlk hK 27 0 F_1 (by omega) (by omega) (by rw [clr_0]; exact hSk) hf_11 _ _ ls hW (lv_sub hl [2, 1, 0] rfl)
end
