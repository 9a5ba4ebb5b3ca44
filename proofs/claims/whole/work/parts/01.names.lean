-- ===== PART A: goes FIRST, ahead of the names: the tables' words, and 'selects' of the private methods out of them =====
/-- a private method of a class that the tables say can be made, by its rows of tables_1 -/
def lw_okq (q : MethodName × Nat) : Prop := (q.1.cls ≠ "java/lang/invoke/MethodHandle" ∧ q.1.cls ≠ "java/lang/invoke/VarHandle") ∧ Cond.instantiable q.1.cls q.2 ∈ tables_1 ∧ Cond.privateMethod q.1 ∈ tables_1 ∧ Cond.instanceMethod q.1 ∈ tables_1
theorem lw_p0 : lw_okq (⟨"ValueDesk", "entityOf", "(I)LValueDesk$Entity;"⟩, 9) := ⟨⟨by decide +kernel, by decide +kernel⟩, List.mem_of_getElem? (i := 8) (by decide +kernel), List.mem_of_getElem? (i := 121) (by decide +kernel), List.mem_of_getElem? (i := 122) (by decide +kernel)⟩
theorem lw_p1 : lw_okq (⟨"ValueDesk", "readDraft", "()I"⟩, 9) := ⟨⟨by decide +kernel, by decide +kernel⟩, List.mem_of_getElem? (i := 8) (by decide +kernel), List.mem_of_getElem? (i := 125) (by decide +kernel), List.mem_of_getElem? (i := 126) (by decide +kernel)⟩
theorem lw_p2 : lw_okq (⟨"ValueDesk$Reference", "readNumber", "(LValueDesk$Row;I)V"⟩, 4) := ⟨⟨by decide +kernel, by decide +kernel⟩, List.mem_of_getElem? (i := 54) (by decide +kernel), List.mem_of_getElem? (i := 142) (by decide +kernel), List.mem_of_getElem? (i := 143) (by decide +kernel)⟩
theorem lw_p3 : lw_okq (⟨"ValueDesk$Reference", "breakOff", "(I)V"⟩, 4) := ⟨⟨by decide +kernel, by decide +kernel⟩, List.mem_of_getElem? (i := 54) (by decide +kernel), List.mem_of_getElem? (i := 149) (by decide +kernel), List.mem_of_getElem? (i := 150) (by decide +kernel)⟩
theorem lw_p4 : lw_okq (⟨"ValueDesk$Reference", "close", "(LValueDesk$Row;I)V"⟩, 4) := ⟨⟨by decide +kernel, by decide +kernel⟩, List.mem_of_getElem? (i := 54) (by decide +kernel), List.mem_of_getElem? (i := 153) (by decide +kernel), List.mem_of_getElem? (i := 154) (by decide +kernel)⟩
theorem lw_p5 : lw_okq (⟨"ValueDesk", "draftReference", "(I)I"⟩, 9) := ⟨⟨by decide +kernel, by decide +kernel⟩, List.mem_of_getElem? (i := 8) (by decide +kernel), List.mem_of_getElem? (i := 157) (by decide +kernel), List.mem_of_getElem? (i := 158) (by decide +kernel)⟩
theorem lw_p6 : lw_okq (⟨"ValueDesk", "fail", "(II)I"⟩, 9) := ⟨⟨by decide +kernel, by decide +kernel⟩, List.mem_of_getElem? (i := 8) (by decide +kernel), List.mem_of_getElem? (i := 161) (by decide +kernel), List.mem_of_getElem? (i := 162) (by decide +kernel)⟩
theorem lw_p7 : lw_okq (⟨"ValueDesk", "draftAsItStands", "(II)I"⟩, 9) := ⟨⟨by decide +kernel, by decide +kernel⟩, List.mem_of_getElem? (i := 8) (by decide +kernel), List.mem_of_getElem? (i := 165) (by decide +kernel), List.mem_of_getElem? (i := 166) (by decide +kernel)⟩
theorem lw_p8 : lw_okq (⟨"ValueDesk", "addByNumber", "(LValueDesk$Row;I)I"⟩, 9) := ⟨⟨by decide +kernel, by decide +kernel⟩, List.mem_of_getElem? (i := 8) (by decide +kernel), List.mem_of_getElem? (i := 169) (by decide +kernel), List.mem_of_getElem? (i := 170) (by decide +kernel)⟩
theorem lw_p9 : lw_okq (⟨"ValueDesk", "addTo", "(LValueDesk$Row;II)I"⟩, 9) := ⟨⟨by decide +kernel, by decide +kernel⟩, List.mem_of_getElem? (i := 8) (by decide +kernel), List.mem_of_getElem? (i := 176) (by decide +kernel), List.mem_of_getElem? (i := 177) (by decide +kernel)⟩
theorem lw_p10 : lw_okq (⟨"ValueDesk", "draftByte", "(I)I"⟩, 9) := ⟨⟨by decide +kernel, by decide +kernel⟩, List.mem_of_getElem? (i := 8) (by decide +kernel), List.mem_of_getElem? (i := 180) (by decide +kernel), List.mem_of_getElem? (i := 181) (by decide +kernel)⟩
theorem lw_p11 : lw_okq (⟨"ValueDesk", "readValue", "(LValueDesk$Row;II)I"⟩, 9) := ⟨⟨by decide +kernel, by decide +kernel⟩, List.mem_of_getElem? (i := 8) (by decide +kernel), List.mem_of_getElem? (i := 197) (by decide +kernel), List.mem_of_getElem? (i := 198) (by decide +kernel)⟩
theorem lw_p12 : lw_okq (⟨"ValueDesk", "takeReference", "(II)I"⟩, 9) := ⟨⟨by decide +kernel, by decide +kernel⟩, List.mem_of_getElem? (i := 8) (by decide +kernel), List.mem_of_getElem? (i := 201) (by decide +kernel), List.mem_of_getElem? (i := 202) (by decide +kernel)⟩
theorem lw_p13 : lw_okq (⟨"ValueDesk", "takeEntity", "(III)I"⟩, 9) := ⟨⟨by decide +kernel, by decide +kernel⟩, List.mem_of_getElem? (i := 8) (by decide +kernel), List.mem_of_getElem? (i := 205) (by decide +kernel), List.mem_of_getElem? (i := 206) (by decide +kernel)⟩
theorem lw_p14 : lw_okq (⟨"ValueDesk", "failBroken", "(LValueDesk$Row;II)I"⟩, 9) := ⟨⟨by decide +kernel, by decide +kernel⟩, List.mem_of_getElem? (i := 8) (by decide +kernel), List.mem_of_getElem? (i := 210) (by decide +kernel), List.mem_of_getElem? (i := 211) (by decide +kernel)⟩
theorem lw_p15 : lw_okq (⟨"ValueDesk", "takeByte", "(II)I"⟩, 9) := ⟨⟨by decide +kernel, by decide +kernel⟩, List.mem_of_getElem? (i := 8) (by decide +kernel), List.mem_of_getElem? (i := 214) (by decide +kernel), List.mem_of_getElem? (i := 215) (by decide +kernel)⟩
def lw_privs_1 : List (MethodName × Nat) := [(⟨"ValueDesk", "entityOf", "(I)LValueDesk$Entity;"⟩, 9), (⟨"ValueDesk", "readDraft", "()I"⟩, 9), (⟨"ValueDesk$Reference", "readNumber", "(LValueDesk$Row;I)V"⟩, 4), (⟨"ValueDesk$Reference", "breakOff", "(I)V"⟩, 4), (⟨"ValueDesk$Reference", "close", "(LValueDesk$Row;I)V"⟩, 4), (⟨"ValueDesk", "draftReference", "(I)I"⟩, 9), (⟨"ValueDesk", "fail", "(II)I"⟩, 9), (⟨"ValueDesk", "draftAsItStands", "(II)I"⟩, 9), (⟨"ValueDesk", "addByNumber", "(LValueDesk$Row;I)I"⟩, 9), (⟨"ValueDesk", "addTo", "(LValueDesk$Row;II)I"⟩, 9), (⟨"ValueDesk", "draftByte", "(I)I"⟩, 9), (⟨"ValueDesk", "readValue", "(LValueDesk$Row;II)I"⟩, 9), (⟨"ValueDesk", "takeReference", "(II)I"⟩, 9), (⟨"ValueDesk", "takeEntity", "(III)I"⟩, 9), (⟨"ValueDesk", "failBroken", "(LValueDesk$Row;II)I"⟩, 9), (⟨"ValueDesk", "takeByte", "(II)I"⟩, 9)]
theorem lw_r1 : ∀ q ∈ lw_privs_1, lw_okq q := List.forall_mem_cons.mpr ⟨lw_p0, List.forall_mem_cons.mpr ⟨lw_p1, List.forall_mem_cons.mpr ⟨lw_p2, List.forall_mem_cons.mpr ⟨lw_p3, List.forall_mem_cons.mpr ⟨lw_p4, List.forall_mem_cons.mpr ⟨lw_p5, List.forall_mem_cons.mpr ⟨lw_p6, List.forall_mem_cons.mpr ⟨lw_p7, List.forall_mem_cons.mpr ⟨lw_p8, List.forall_mem_cons.mpr ⟨lw_p9, List.forall_mem_cons.mpr ⟨lw_p10, List.forall_mem_cons.mpr ⟨lw_p11, List.forall_mem_cons.mpr ⟨lw_p12, List.forall_mem_cons.mpr ⟨lw_p13, List.forall_mem_cons.mpr ⟨lw_p14, List.forall_mem_cons.mpr ⟨lw_p15, fun _ h => absurd h List.not_mem_nil⟩⟩⟩⟩⟩⟩⟩⟩⟩⟩⟩⟩⟩⟩⟩⟩
theorem lw_p16 : lw_okq (⟨"ValueDesk", "known", "()I"⟩, 9) := ⟨⟨by decide +kernel, by decide +kernel⟩, List.mem_of_getElem? (i := 8) (by decide +kernel), List.mem_of_getElem? (i := 244) (by decide +kernel), List.mem_of_getElem? (i := 245) (by decide +kernel)⟩
theorem lw_p17 : lw_okq (⟨"ValueDeskModel", "begin", "()V"⟩, 21) := ⟨⟨by decide +kernel, by decide +kernel⟩, List.mem_of_getElem? (i := 252) (by decide +kernel), List.mem_of_getElem? (i := 331) (by decide +kernel), List.mem_of_getElem? (i := 332) (by decide +kernel)⟩
theorem lw_p18 : lw_okq (⟨"ValueDeskModel", "look", "(I)V"⟩, 21) := ⟨⟨by decide +kernel, by decide +kernel⟩, List.mem_of_getElem? (i := 252) (by decide +kernel), List.mem_of_getElem? (i := 335) (by decide +kernel), List.mem_of_getElem? (i := 336) (by decide +kernel)⟩
theorem lw_p19 : lw_okq (⟨"ValueDeskModel", "byteOf", "(I)I"⟩, 21) := ⟨⟨by decide +kernel, by decide +kernel⟩, List.mem_of_getElem? (i := 252) (by decide +kernel), List.mem_of_getElem? (i := 339) (by decide +kernel), List.mem_of_getElem? (i := 340) (by decide +kernel)⟩
theorem lw_p20 : lw_okq (⟨"ValueDeskModel", "length", "()I"⟩, 21) := ⟨⟨by decide +kernel, by decide +kernel⟩, List.mem_of_getElem? (i := 252) (by decide +kernel), List.mem_of_getElem? (i := 343) (by decide +kernel), List.mem_of_getElem? (i := 344) (by decide +kernel)⟩
theorem lw_p21 : lw_okq (⟨"ValueDeskModel", "stops", "(I)V"⟩, 21) := ⟨⟨by decide +kernel, by decide +kernel⟩, List.mem_of_getElem? (i := 252) (by decide +kernel), List.mem_of_getElem? (i := 350) (by decide +kernel), List.mem_of_getElem? (i := 351) (by decide +kernel)⟩
theorem lw_p22 : lw_okq (⟨"ValueDeskModel", "fails", "(II)V"⟩, 21) := ⟨⟨by decide +kernel, by decide +kernel⟩, List.mem_of_getElem? (i := 252) (by decide +kernel), List.mem_of_getElem? (i := 354) (by decide +kernel), List.mem_of_getElem? (i := 355) (by decide +kernel)⟩
theorem lw_p23 : lw_okq (⟨"ValueDeskModel", "defining", "(II)V"⟩, 21) := ⟨⟨by decide +kernel, by decide +kernel⟩, List.mem_of_getElem? (i := 252) (by decide +kernel), List.mem_of_getElem? (i := 361) (by decide +kernel), List.mem_of_getElem? (i := 362) (by decide +kernel)⟩
theorem lw_p24 : lw_okq (⟨"ValueDeskModel", "step", "(I)V"⟩, 21) := ⟨⟨by decide +kernel, by decide +kernel⟩, List.mem_of_getElem? (i := 252) (by decide +kernel), List.mem_of_getElem? (i := 370) (by decide +kernel), List.mem_of_getElem? (i := 371) (by decide +kernel)⟩
theorem lw_p25 : lw_okq (⟨"ValueDeskModel", "open", "(III)V"⟩, 21) := ⟨⟨by decide +kernel, by decide +kernel⟩, List.mem_of_getElem? (i := 252) (by decide +kernel), List.mem_of_getElem? (i := 374) (by decide +kernel), List.mem_of_getElem? (i := 375) (by decide +kernel)⟩
theorem lw_p26 : lw_okq (⟨"ValueDeskModel", "isOpen", "(I)Z"⟩, 21) := ⟨⟨by decide +kernel, by decide +kernel⟩, List.mem_of_getElem? (i := 252) (by decide +kernel), List.mem_of_getElem? (i := 378) (by decide +kernel), List.mem_of_getElem? (i := 379) (by decide +kernel)⟩
theorem lw_p27 : lw_okq (⟨"ValueDeskModel", "add", "(II)V"⟩, 21) := ⟨⟨by decide +kernel, by decide +kernel⟩, List.mem_of_getElem? (i := 252) (by decide +kernel), List.mem_of_getElem? (i := 382) (by decide +kernel), List.mem_of_getElem? (i := 383) (by decide +kernel)⟩
theorem lw_p28 : lw_okq (⟨"ValueDeskModel", "trim", "()V"⟩, 21) := ⟨⟨by decide +kernel, by decide +kernel⟩, List.mem_of_getElem? (i := 252) (by decide +kernel), List.mem_of_getElem? (i := 386) (by decide +kernel), List.mem_of_getElem? (i := 387) (by decide +kernel)⟩
theorem lw_p29 : lw_okq (⟨"ValueDeskModel", "known", "()I"⟩, 21) := ⟨⟨by decide +kernel, by decide +kernel⟩, List.mem_of_getElem? (i := 252) (by decide +kernel), List.mem_of_getElem? (i := 410) (by decide +kernel), List.mem_of_getElem? (i := 411) (by decide +kernel)⟩
def lw_privs_2 : List (MethodName × Nat) := [(⟨"ValueDesk", "known", "()I"⟩, 9), (⟨"ValueDeskModel", "begin", "()V"⟩, 21), (⟨"ValueDeskModel", "look", "(I)V"⟩, 21), (⟨"ValueDeskModel", "byteOf", "(I)I"⟩, 21), (⟨"ValueDeskModel", "length", "()I"⟩, 21), (⟨"ValueDeskModel", "stops", "(I)V"⟩, 21), (⟨"ValueDeskModel", "fails", "(II)V"⟩, 21), (⟨"ValueDeskModel", "defining", "(II)V"⟩, 21), (⟨"ValueDeskModel", "step", "(I)V"⟩, 21), (⟨"ValueDeskModel", "open", "(III)V"⟩, 21), (⟨"ValueDeskModel", "isOpen", "(I)Z"⟩, 21), (⟨"ValueDeskModel", "add", "(II)V"⟩, 21), (⟨"ValueDeskModel", "trim", "()V"⟩, 21), (⟨"ValueDeskModel", "known", "()I"⟩, 21)]
theorem lw_r2 : ∀ q ∈ lw_privs_2, lw_okq q := List.forall_mem_cons.mpr ⟨lw_p16, List.forall_mem_cons.mpr ⟨lw_p17, List.forall_mem_cons.mpr ⟨lw_p18, List.forall_mem_cons.mpr ⟨lw_p19, List.forall_mem_cons.mpr ⟨lw_p20, List.forall_mem_cons.mpr ⟨lw_p21, List.forall_mem_cons.mpr ⟨lw_p22, List.forall_mem_cons.mpr ⟨lw_p23, List.forall_mem_cons.mpr ⟨lw_p24, List.forall_mem_cons.mpr ⟨lw_p25, List.forall_mem_cons.mpr ⟨lw_p26, List.forall_mem_cons.mpr ⟨lw_p27, List.forall_mem_cons.mpr ⟨lw_p28, List.forall_mem_cons.mpr ⟨lw_p29, fun _ h => absurd h List.not_mem_nil⟩⟩⟩⟩⟩⟩⟩⟩⟩⟩⟩⟩⟩⟩
def lw_privs : List (MethodName × Nat) := lw_privs_1 ++ (lw_privs_2)
def lw_tbl : List Cond := k2_sels lw_privs ++ tables_1
theorem lw_privs_ok : ∀ q ∈ lw_privs, lw_okq q := by
  show ∀ q ∈ lw_privs_1 ++ (lw_privs_2), lw_okq q
  exact List.forall_mem_append.mpr ⟨lw_r1, lw_r2⟩

def TB : List Cond := lw_tbl.filter goodWord
theorem tb_of {w : Cond} (h : w ∈ tables_1) (hg : goodWord w = true) : w ∈ TB := List.mem_filter.mpr ⟨List.mem_append_right _ h, hg⟩
theorem tb_se {w : Cond} (h : w ∈ k2_sels lw_privs) (hg : goodWord w = true) : w ∈ TB := List.mem_filter.mpr ⟨List.mem_append_left _ h, hg⟩
theorem tb_good {w : Cond} (h : w ∈ TB) : (w.onTables && w.keeps) = true ∨ ∃ ty, w = .arrayClass ty := good_of_word (List.mem_filter.mp h).2
theorem tb_lw {w : Cond} (h : w ∈ TB) : w ∈ lw_tbl := (List.mem_filter.mp h).1
theorem tb_in {c0 cy : Cond} (h : cy ∈ TB) : GoodIn (c0 :: TB) (cy :: TB) := fun w hw => by
  rcases List.mem_cons.mp hw with rfl | h1
  · exact ⟨List.mem_cons_of_mem _ h, tb_good h⟩
  · exact ⟨List.mem_cons_of_mem _ h1, tb_good h1⟩
theorem tb_inL {cy : Cond} (h : cy ∈ TB) : GoodIn lw_tbl (cy :: TB) := fun w hw => by
  rcases List.mem_cons.mp hw with rfl | h1
  · exact ⟨tb_lw h, tb_good h⟩
  · exact ⟨tb_lw h1, tb_good h1⟩
theorem tb_pre {big pre ws : List Cond} (h : GoodIn big ws) (hp : ∀ w ∈ pre, w ∈ TB) (hb : ∀ w ∈ TB, w ∈ big) : GoodIn big (pre ++ ws) := fun w hw => (List.mem_append.mp hw).elim (fun h1 => ⟨hb w (hp w h1), tb_good (hp w h1)⟩) (h w)
theorem tb_4 {a b c d : Cond} (h1 : a ∈ TB) (h2 : b ∈ TB) (h3 : c ∈ TB) (h4 : d ∈ TB) : ∀ w ∈ [a, b, c, d], w ∈ TB := fun w hw => by
  rcases List.mem_cons.mp hw with rfl | hw
  · exact h1
  rcases List.mem_cons.mp hw with rfl | hw
  · exact h2
  rcases List.mem_cons.mp hw with rfl | hw
  · exact h3
  rcases List.mem_cons.mp hw with rfl | hw
  · exact h4
  cases hw
theorem tb_3 {a b c : Cond} (h1 : a ∈ TB) (h2 : b ∈ TB) (h3 : c ∈ TB) : ∀ w ∈ [a, b, c], w ∈ TB := fun w hw => by
  rcases List.mem_cons.mp hw with rfl | hw
  · exact h1
  rcases List.mem_cons.mp hw with rfl | hw
  · exact h2
  rcases List.mem_cons.mp hw with rfl | hw
  · exact h3
  cases hw
theorem tb_V {c0 cy : Cond} {own : String} {idx : Nat} {C : String} {y : MethodName} (h5 : cy ∈ TB) (h1 : Cond.methodLink own idx y ∈ TB) (h2 : Cond.instanceMethod y ∈ TB) (h3 : Cond.selects C y y ∈ TB) (h4 : Cond.initialized C ∈ TB) : GoodIn (c0 :: TB) (wsV own idx C y (cy :: TB)) := tb_pre (tb_in h5) (tb_4 h1 h2 h3 h4) (fun _ h => List.mem_cons_of_mem _ h)
theorem tb_VL {cy : Cond} {own : String} {idx : Nat} {C : String} {y : MethodName} (h5 : cy ∈ TB) (h1 : Cond.methodLink own idx y ∈ TB) (h2 : Cond.instanceMethod y ∈ TB) (h3 : Cond.selects C y y ∈ TB) (h4 : Cond.initialized C ∈ TB) : GoodIn lw_tbl (wsV own idx C y (cy :: TB)) := tb_pre (tb_inL h5) (tb_4 h1 h2 h3 h4) (fun _ h => tb_lw h)
theorem tb_S {c0 cy : Cond} {own : String} {idx : Nat} {y : MethodName} (h5 : cy ∈ TB) (h1 : Cond.methodLink own idx y ∈ TB) (h2 : Cond.static y ∈ TB) (h3 : Cond.initialized y.cls ∈ TB) : GoodIn (c0 :: TB) (va_wsS own idx y (cy :: TB)) := tb_pre (tb_in h5) (tb_3 h1 h2 h3) (fun _ h => List.mem_cons_of_mem _ h)
def R_E : String := "ValueDesk$Entity"
def T_E : u_T := fun k => match k with
  | 0 => ("ValueDesk$Entity", "row", "LValueDesk$Row;", true)
  | 1 => ("ValueDesk$Entity", "known", "Z", false)
  | _ => ("ValueDesk$Entity", "open", "Z", false)
def ty_E : Nat → FieldType := fun k => match k with
  | 0 => .object "ValueDesk$Row"
  | 1 => .boolean
  | _ => .boolean
theorem nm_E : ∀ a, a < 3 → ∀ b, b < 3 → a ≠ b → (T_E a).2.1 ≠ (T_E b).2.1 := by decide +kernel
theorem tyok_E : ∀ k, k < 3 → parseFieldDescriptor (T_E k).2.2.1 = some (ty_E k) := by decide +kernel
def R_F : String := "ValueDesk$Reference"
def T_F : u_T := fun k => match k with
  | 0 => ("ValueDesk$Reference", "whole", "Z", false)
  | 1 => ("ValueDesk$Reference", "toEntity", "Z", false)
  | 2 => ("ValueDesk$Reference", "number", "I", false)
  | _ => ("ValueDesk$Reference", "end", "I", false)
def ty_F : Nat → FieldType := fun k => match k with
  | 0 => .boolean
  | 1 => .boolean
  | 2 => .int
  | _ => .int
theorem nm_F : ∀ a, a < 4 → ∀ b, b < 4 → a ≠ b → (T_F a).2.1 ≠ (T_F b).2.1 := by decide +kernel
theorem tyok_F : ∀ k, k < 4 → parseFieldDescriptor (T_F k).2.2.1 = some (ty_F k) := by decide +kernel
def R_R : String := "ValueDesk$Row"
def T_R : u_T := fun k => match k with
  | 0 => ("ValueDesk$Row", "bytes", "[I", true)
  | _ => ("ValueDesk$Row", "size", "I", false)
def ty_R : Nat → FieldType := fun k => match k with
  | 0 => .array .int
  | _ => .int
theorem nm_R : ∀ a, a < 2 → ∀ b, b < 2 → a ≠ b → (T_R a).2.1 ≠ (T_R b).2.1 := by decide +kernel
theorem tyok_R : ∀ k, k < 2 → parseFieldDescriptor (T_R k).2.2.1 = some (ty_R k) := by decide +kernel
def R_D : String := "ValueDesk"
def T_D : u_T := fun k => match k with
  | 0 => ("ValueDesk", "tape", "LValueDesk$Row;", true)
  | 1 => ("ValueDesk", "draft", "LValueDesk$Row;", true)
  | 2 => ("ValueDesk", "last", "LValueDesk$Row;", true)
  | 3 => ("ValueDesk", "entities", "[LValueDesk$Entity;", true)
  | 4 => ("ValueDesk", "reference", "LValueDesk$Reference;", true)
  | 5 => ("ValueDesk", "faultPlace", "I", false)
  | 6 => ("ValueDesk", "limitOfMeter", "I", false)
  | 7 => ("ValueDesk", "meter", "I", false)
  | _ => ("ValueDesk", "deepest", "I", false)
def ty_D : Nat → FieldType := fun k => match k with
  | 0 => .object "ValueDesk$Row"
  | 1 => .object "ValueDesk$Row"
  | 2 => .object "ValueDesk$Row"
  | 3 => .array (.object "ValueDesk$Entity")
  | 4 => .object "ValueDesk$Reference"
  | 5 => .int
  | 6 => .int
  | 7 => .int
  | _ => .int
theorem nm_D : ∀ a, a < 9 → ∀ b, b < 9 → a ≠ b → (T_D a).2.1 ≠ (T_D b).2.1 := by decide +kernel
theorem tyok_D : ∀ k, k < 9 → parseFieldDescriptor (T_D k).2.2.1 = some (ty_D k) := by decide +kernel
def R_M : String := "ValueDeskModel"
def T_M : u_T := fun k => match k with
  | 0 => ("ValueDeskModel", "thrownCode", "I", false)
  | 1 => ("ValueDeskModel", "tape", "[I", true)
  | 2 => ("ValueDeskModel", "bytes", "I", false)
  | 3 => ("ValueDeskModel", "has", "[Z", true)
  | 4 => ("ValueDeskModel", "size", "[I", true)
  | 5 => ("ValueDeskModel", "texts", "[I", true)
  | 6 => ("ValueDeskModel", "value", "[I", true)
  | 7 => ("ValueDeskModel", "values", "I", false)
  | 8 => ("ValueDeskModel", "faultPlace", "I", false)
  | 9 => ("ValueDeskModel", "meter", "I", false)
  | 10 => ("ValueDeskModel", "deepest", "I", false)
  | 11 => ("ValueDeskModel", "deep", "I", false)
  | 12 => ("ValueDeskModel", "entity", "[I", true)
  | 13 => ("ValueDeskModel", "at", "[I", true)
  | 14 => ("ValueDeskModel", "fault", "I", false)
  | 15 => ("ValueDeskModel", "outer", "I", false)
  | 16 => ("ValueDeskModel", "kind", "I", false)
  | 17 => ("ValueDeskModel", "number", "I", false)
  | 18 => ("ValueDeskModel", "behind", "I", false)
  | 19 => ("ValueDeskModel", "made", "[I", true)
  | _ => ("ValueDeskModel", "makes", "I", false)
def ty_M : Nat → FieldType := fun k => match k with
  | 0 => .int
  | 1 => .array .int
  | 2 => .int
  | 3 => .array .boolean
  | 4 => .array .int
  | 5 => .array .int
  | 6 => .array .int
  | 7 => .int
  | 8 => .int
  | 9 => .int
  | 10 => .int
  | 11 => .int
  | 12 => .array .int
  | 13 => .array .int
  | 14 => .int
  | 15 => .int
  | 16 => .int
  | 17 => .int
  | 18 => .int
  | 19 => .array .int
  | _ => .int
theorem nm_M : ∀ a, a < 21 → ∀ b, b < 21 → a ≠ b → (T_M a).2.1 ≠ (T_M b).2.1 := by decide +kernel
theorem tyok_M : ∀ k, k < 21 → parseFieldDescriptor (T_M k).2.2.1 = some (ty_M k) := by decide +kernel
def R_L : String := "ValueDeskLaw"
abbrev vwCl : List vw_C := [(R_E, T_E, 3), (R_F, T_F, 4), (R_R, T_R, 2), (R_D, T_D, 9), (R_M, T_M, 21)]
abbrev kE : Nat := 0
abbrev kF : Nat := 1
abbrev kR : Nat := 2
abbrev kD : Nat := 3
abbrev kM : Nat := 4
def hp_t (cA : Nat → ClassId) : List (ClassId × FieldType) := [(cA 0, .int), (cA 1, .object "ValueDesk$Entity"), (cA 2, .boolean)]
abbrev cc_D_init : ByteArray := prog_1_method_1_code
def y_D_init : MethodName := ⟨R_D, "<init>", "()V"⟩
def ws_D_init : List Cond := .code y_D_init cc_D_init 2 none :: TB
theorem cd_D_init : Cond.code y_D_init cc_D_init 2 none ∈ TB := tb_of (List.mem_of_getElem? (i := 11) rfl) rfl
theorem hd_D_init : y_D_init.cls = R_D ∧ y_D_init.cls ≠ "java/lang/invoke/MethodHandle" ∧ y_D_init.cls ≠ "java/lang/invoke/VarHandle" ∧ (parseMethodDescriptor y_D_init.desc).map (fun d => d.parameters.length) = some 0 := by decide +kernel
abbrev cc_R_init : ByteArray := prog_4_method_1_code
def y_R_init : MethodName := ⟨R_R, "<init>", "(I)V"⟩
def ws_R_init : List Cond := .code y_R_init cc_R_init 2 none :: TB
theorem cd_R_init : Cond.code y_R_init cc_R_init 2 none ∈ TB := tb_of (List.mem_of_getElem? (i := 19) rfl) rfl
theorem hd_R_init : y_R_init.cls = R_R ∧ y_R_init.cls ≠ "java/lang/invoke/MethodHandle" ∧ y_R_init.cls ≠ "java/lang/invoke/VarHandle" ∧ (parseMethodDescriptor y_R_init.desc).map (fun d => d.parameters.length) = some 1 := by decide +kernel
abbrev cc_E_init : ByteArray := prog_2_method_1_code
def y_E_init : MethodName := ⟨R_E, "<init>", "()V"⟩
def ws_E_init : List Cond := .code y_E_init cc_E_init 1 none :: TB
theorem cd_E_init : Cond.code y_E_init cc_E_init 1 none ∈ TB := tb_of (List.mem_of_getElem? (i := 37) rfl) rfl
theorem hd_E_init : y_E_init.cls = R_E ∧ y_E_init.cls ≠ "java/lang/invoke/MethodHandle" ∧ y_E_init.cls ≠ "java/lang/invoke/VarHandle" ∧ (parseMethodDescriptor y_E_init.desc).map (fun d => d.parameters.length) = some 0 := by decide +kernel
abbrev cc_F_init : ByteArray := prog_3_method_1_code
def y_F_init : MethodName := ⟨R_F, "<init>", "()V"⟩
def ws_F_init : List Cond := .code y_F_init cc_F_init 1 none :: TB
theorem cd_F_init : Cond.code y_F_init cc_F_init 1 none ∈ TB := tb_of (List.mem_of_getElem? (i := 57) rfl) rfl
theorem hd_F_init : y_F_init.cls = R_F ∧ y_F_init.cls ≠ "java/lang/invoke/MethodHandle" ∧ y_F_init.cls ≠ "java/lang/invoke/VarHandle" ∧ (parseMethodDescriptor y_F_init.desc).map (fun d => d.parameters.length) = some 0 := by decide +kernel
abbrev cc_D_put : ByteArray := prog_1_method_2_code
def y_D_put : MethodName := ⟨R_D, "put", "(JI)Z"⟩
def ws_D_put : List Cond := .code y_D_put cc_D_put 5 (some .boolean) :: TB
theorem cd_D_put : Cond.code y_D_put cc_D_put 5 (some .boolean) ∈ TB := tb_of (List.mem_of_getElem? (i := 107) rfl) rfl
theorem hd_D_put : y_D_put.cls = R_D ∧ y_D_put.cls ≠ "java/lang/invoke/MethodHandle" ∧ y_D_put.cls ≠ "java/lang/invoke/VarHandle" ∧ (parseMethodDescriptor y_D_put.desc).map (fun d => d.parameters.length) = some 2 := by decide +kernel
abbrev cc_R_size : ByteArray := prog_4_method_2_code
def y_R_size : MethodName := ⟨R_R, "size", "()I"⟩
def ws_R_size : List Cond := .code y_R_size cc_R_size 1 (some .int) :: TB
theorem cd_R_size : Cond.code y_R_size cc_R_size 1 (some .int) ∈ TB := tb_of (List.mem_of_getElem? (i := 111) rfl) rfl
theorem hd_R_size : y_R_size.cls = R_R ∧ y_R_size.cls ≠ "java/lang/invoke/MethodHandle" ∧ y_R_size.cls ≠ "java/lang/invoke/VarHandle" ∧ (parseMethodDescriptor y_R_size.desc).map (fun d => d.parameters.length) = some 0 := by decide +kernel
abbrev cc_R_add : ByteArray := prog_4_method_4_code
def y_R_add : MethodName := ⟨R_R, "add", "(I)Z"⟩
def ws_R_add : List Cond := .code y_R_add cc_R_add 2 (some .boolean) :: TB
theorem cd_R_add : Cond.code y_R_add cc_R_add 2 (some .boolean) ∈ TB := tb_of (List.mem_of_getElem? (i := 115) rfl) rfl
theorem hd_R_add : y_R_add.cls = R_R ∧ y_R_add.cls ≠ "java/lang/invoke/MethodHandle" ∧ y_R_add.cls ≠ "java/lang/invoke/VarHandle" ∧ (parseMethodDescriptor y_R_add.desc).map (fun d => d.parameters.length) = some 1 := by decide +kernel
abbrev cc_D_define : ByteArray := prog_1_method_3_code
def y_D_define : MethodName := ⟨R_D, "define", "(I)I"⟩
def ws_D_define : List Cond := .code y_D_define cc_D_define 4 (some .int) :: TB
theorem cd_D_define : Cond.code y_D_define cc_D_define 4 (some .int) ∈ TB := tb_of (List.mem_of_getElem? (i := 119) rfl) rfl
theorem hd_D_define : y_D_define.cls = R_D ∧ y_D_define.cls ≠ "java/lang/invoke/MethodHandle" ∧ y_D_define.cls ≠ "java/lang/invoke/VarHandle" ∧ (parseMethodDescriptor y_D_define.desc).map (fun d => d.parameters.length) = some 1 := by decide +kernel
abbrev cc_D_entityOf : ByteArray := prog_1_method_11_code
def y_D_entityOf : MethodName := ⟨R_D, "entityOf", "(I)LValueDesk$Entity;"⟩
def ws_D_entityOf : List Cond := .code y_D_entityOf cc_D_entityOf 2 (some (.object "ValueDesk$Entity")) :: TB
theorem cd_D_entityOf : Cond.code y_D_entityOf cc_D_entityOf 2 (some (.object "ValueDesk$Entity")) ∈ TB := tb_of (List.mem_of_getElem? (i := 123) rfl) rfl
theorem hd_D_entityOf : y_D_entityOf.cls = R_D ∧ y_D_entityOf.cls ≠ "java/lang/invoke/MethodHandle" ∧ y_D_entityOf.cls ≠ "java/lang/invoke/VarHandle" ∧ (parseMethodDescriptor y_D_entityOf.desc).map (fun d => d.parameters.length) = some 1 := by decide +kernel
abbrev cc_D_readDraft : ByteArray := prog_1_method_14_code
def y_D_readDraft : MethodName := ⟨R_D, "readDraft", "()I"⟩
def ws_D_readDraft : List Cond := .code y_D_readDraft cc_D_readDraft 4 (some .int) :: TB
theorem cd_D_readDraft : Cond.code y_D_readDraft cc_D_readDraft 4 (some .int) ∈ TB := tb_of (List.mem_of_getElem? (i := 127) rfl) rfl
theorem hd_D_readDraft : y_D_readDraft.cls = R_D ∧ y_D_readDraft.cls ≠ "java/lang/invoke/MethodHandle" ∧ y_D_readDraft.cls ≠ "java/lang/invoke/VarHandle" ∧ (parseMethodDescriptor y_D_readDraft.desc).map (fun d => d.parameters.length) = some 0 := by decide +kernel
abbrev cc_R_empty : ByteArray := prog_4_method_3_code
def y_R_empty : MethodName := ⟨R_R, "empty", "()V"⟩
def ws_R_empty : List Cond := .code y_R_empty cc_R_empty 1 none :: TB
theorem cd_R_empty : Cond.code y_R_empty cc_R_empty 1 none ∈ TB := tb_of (List.mem_of_getElem? (i := 131) rfl) rfl
theorem hd_R_empty : y_R_empty.cls = R_R ∧ y_R_empty.cls ≠ "java/lang/invoke/MethodHandle" ∧ y_R_empty.cls ≠ "java/lang/invoke/VarHandle" ∧ (parseMethodDescriptor y_R_empty.desc).map (fun d => d.parameters.length) = some 0 := by decide +kernel
abbrev cc_R_at : ByteArray := prog_4_method_5_code
def y_R_at : MethodName := ⟨R_R, "at", "(I)I"⟩
def ws_R_at : List Cond := .code y_R_at cc_R_at 2 (some .int) :: TB
theorem cd_R_at : Cond.code y_R_at cc_R_at 2 (some .int) ∈ TB := tb_of (List.mem_of_getElem? (i := 135) rfl) rfl
theorem hd_R_at : y_R_at.cls = R_R ∧ y_R_at.cls ≠ "java/lang/invoke/MethodHandle" ∧ y_R_at.cls ≠ "java/lang/invoke/VarHandle" ∧ (parseMethodDescriptor y_R_at.desc).map (fun d => d.parameters.length) = some 1 := by decide +kernel
abbrev cc_F_read : ByteArray := prog_3_method_2_code
def y_F_read : MethodName := ⟨R_F, "read", "(LValueDesk$Row;I)V"⟩
def ws_F_read : List Cond := .code y_F_read cc_F_read 4 none :: TB
theorem cd_F_read : Cond.code y_F_read cc_F_read 4 none ∈ TB := tb_of (List.mem_of_getElem? (i := 139) rfl) rfl
theorem hd_F_read : y_F_read.cls = R_F ∧ y_F_read.cls ≠ "java/lang/invoke/MethodHandle" ∧ y_F_read.cls ≠ "java/lang/invoke/VarHandle" ∧ (parseMethodDescriptor y_F_read.desc).map (fun d => d.parameters.length) = some 2 := by decide +kernel
abbrev cc_F_readNumber : ByteArray := prog_3_method_3_code
def y_F_readNumber : MethodName := ⟨R_F, "readNumber", "(LValueDesk$Row;I)V"⟩
def ws_F_readNumber : List Cond := .code y_F_readNumber cc_F_readNumber 7 none :: TB
theorem cd_F_readNumber : Cond.code y_F_readNumber cc_F_readNumber 7 none ∈ TB := tb_of (List.mem_of_getElem? (i := 144) rfl) rfl
theorem hd_F_readNumber : y_F_readNumber.cls = R_F ∧ y_F_readNumber.cls ≠ "java/lang/invoke/MethodHandle" ∧ y_F_readNumber.cls ≠ "java/lang/invoke/VarHandle" ∧ (parseMethodDescriptor y_F_readNumber.desc).map (fun d => d.parameters.length) = some 2 := by decide +kernel
abbrev cc_F_digitOf : ByteArray := prog_3_method_6_code
def y_F_digitOf : MethodName := ⟨R_F, "digitOf", "(II)I"⟩
def ws_F_digitOf : List Cond := .code y_F_digitOf cc_F_digitOf 2 (some .int) :: TB
theorem cd_F_digitOf : Cond.code y_F_digitOf cc_F_digitOf 2 (some .int) ∈ TB := tb_of (List.mem_of_getElem? (i := 147) rfl) rfl
theorem hd_F_digitOf : y_F_digitOf.cls = R_F ∧ y_F_digitOf.cls ≠ "java/lang/invoke/MethodHandle" ∧ y_F_digitOf.cls ≠ "java/lang/invoke/VarHandle" ∧ (parseMethodDescriptor y_F_digitOf.desc).map (fun d => d.parameters.length) = some 2 := by decide +kernel
abbrev cc_F_breakOff : ByteArray := prog_3_method_5_code
def y_F_breakOff : MethodName := ⟨R_F, "breakOff", "(I)V"⟩
def ws_F_breakOff : List Cond := .code y_F_breakOff cc_F_breakOff 2 none :: TB
theorem cd_F_breakOff : Cond.code y_F_breakOff cc_F_breakOff 2 none ∈ TB := tb_of (List.mem_of_getElem? (i := 151) rfl) rfl
theorem hd_F_breakOff : y_F_breakOff.cls = R_F ∧ y_F_breakOff.cls ≠ "java/lang/invoke/MethodHandle" ∧ y_F_breakOff.cls ≠ "java/lang/invoke/VarHandle" ∧ (parseMethodDescriptor y_F_breakOff.desc).map (fun d => d.parameters.length) = some 1 := by decide +kernel
abbrev cc_F_close : ByteArray := prog_3_method_4_code
def y_F_close : MethodName := ⟨R_F, "close", "(LValueDesk$Row;I)V"⟩
def ws_F_close : List Cond := .code y_F_close cc_F_close 3 none :: TB
theorem cd_F_close : Cond.code y_F_close cc_F_close 3 none ∈ TB := tb_of (List.mem_of_getElem? (i := 155) rfl) rfl
theorem hd_F_close : y_F_close.cls = R_F ∧ y_F_close.cls ≠ "java/lang/invoke/MethodHandle" ∧ y_F_close.cls ≠ "java/lang/invoke/VarHandle" ∧ (parseMethodDescriptor y_F_close.desc).map (fun d => d.parameters.length) = some 2 := by decide +kernel
abbrev cc_D_draftReference : ByteArray := prog_1_method_16_code
def y_D_draftReference : MethodName := ⟨R_D, "draftReference", "(I)I"⟩
def ws_D_draftReference : List Cond := .code y_D_draftReference cc_D_draftReference 2 (some .int) :: TB
theorem cd_D_draftReference : Cond.code y_D_draftReference cc_D_draftReference 2 (some .int) ∈ TB := tb_of (List.mem_of_getElem? (i := 159) rfl) rfl
theorem hd_D_draftReference : y_D_draftReference.cls = R_D ∧ y_D_draftReference.cls ≠ "java/lang/invoke/MethodHandle" ∧ y_D_draftReference.cls ≠ "java/lang/invoke/VarHandle" ∧ (parseMethodDescriptor y_D_draftReference.desc).map (fun d => d.parameters.length) = some 1 := by decide +kernel
abbrev cc_D_fail : ByteArray := prog_1_method_12_code
def y_D_fail : MethodName := ⟨R_D, "fail", "(II)I"⟩
def ws_D_fail : List Cond := .code y_D_fail cc_D_fail 3 (some .int) :: TB
theorem cd_D_fail : Cond.code y_D_fail cc_D_fail 3 (some .int) ∈ TB := tb_of (List.mem_of_getElem? (i := 163) rfl) rfl
theorem hd_D_fail : y_D_fail.cls = R_D ∧ y_D_fail.cls ≠ "java/lang/invoke/MethodHandle" ∧ y_D_fail.cls ≠ "java/lang/invoke/VarHandle" ∧ (parseMethodDescriptor y_D_fail.desc).map (fun d => d.parameters.length) = some 2 := by decide +kernel
abbrev cc_D_draftAsItStands : ByteArray := prog_1_method_17_code
def y_D_draftAsItStands : MethodName := ⟨R_D, "draftAsItStands", "(II)I"⟩
def ws_D_draftAsItStands : List Cond := .code y_D_draftAsItStands cc_D_draftAsItStands 4 (some .int) :: TB
theorem cd_D_draftAsItStands : Cond.code y_D_draftAsItStands cc_D_draftAsItStands 4 (some .int) ∈ TB := tb_of (List.mem_of_getElem? (i := 167) rfl) rfl
theorem hd_D_draftAsItStands : y_D_draftAsItStands.cls = R_D ∧ y_D_draftAsItStands.cls ≠ "java/lang/invoke/MethodHandle" ∧ y_D_draftAsItStands.cls ≠ "java/lang/invoke/VarHandle" ∧ (parseMethodDescriptor y_D_draftAsItStands.desc).map (fun d => d.parameters.length) = some 2 := by decide +kernel
abbrev cc_D_addByNumber : ByteArray := prog_1_method_18_code
def y_D_addByNumber : MethodName := ⟨R_D, "addByNumber", "(LValueDesk$Row;I)I"⟩
def ws_D_addByNumber : List Cond := .code y_D_addByNumber cc_D_addByNumber 4 (some .int) :: TB
theorem cd_D_addByNumber : Cond.code y_D_addByNumber cc_D_addByNumber 4 (some .int) ∈ TB := tb_of (List.mem_of_getElem? (i := 171) rfl) rfl
theorem hd_D_addByNumber : y_D_addByNumber.cls = R_D ∧ y_D_addByNumber.cls ≠ "java/lang/invoke/MethodHandle" ∧ y_D_addByNumber.cls ≠ "java/lang/invoke/VarHandle" ∧ (parseMethodDescriptor y_D_addByNumber.desc).map (fun d => d.parameters.length) = some 2 := by decide +kernel
abbrev cc_D_isCharacter : ByteArray := prog_1_method_24_code
def y_D_isCharacter : MethodName := ⟨R_D, "isCharacter", "(I)Z"⟩
def ws_D_isCharacter : List Cond := .code y_D_isCharacter cc_D_isCharacter 1 (some .boolean) :: TB
theorem cd_D_isCharacter : Cond.code y_D_isCharacter cc_D_isCharacter 1 (some .boolean) ∈ TB := tb_of (List.mem_of_getElem? (i := 174) rfl) rfl
theorem hd_D_isCharacter : y_D_isCharacter.cls = R_D ∧ y_D_isCharacter.cls ≠ "java/lang/invoke/MethodHandle" ∧ y_D_isCharacter.cls ≠ "java/lang/invoke/VarHandle" ∧ (parseMethodDescriptor y_D_isCharacter.desc).map (fun d => d.parameters.length) = some 1 := by decide +kernel
abbrev cc_D_addTo : ByteArray := prog_1_method_13_code
def y_D_addTo : MethodName := ⟨R_D, "addTo", "(LValueDesk$Row;II)I"⟩
def ws_D_addTo : List Cond := .code y_D_addTo cc_D_addTo 4 (some .int) :: TB
theorem cd_D_addTo : Cond.code y_D_addTo cc_D_addTo 4 (some .int) ∈ TB := tb_of (List.mem_of_getElem? (i := 178) rfl) rfl
theorem hd_D_addTo : y_D_addTo.cls = R_D ∧ y_D_addTo.cls ≠ "java/lang/invoke/MethodHandle" ∧ y_D_addTo.cls ≠ "java/lang/invoke/VarHandle" ∧ (parseMethodDescriptor y_D_addTo.desc).map (fun d => d.parameters.length) = some 3 := by decide +kernel
abbrev cc_D_draftByte : ByteArray := prog_1_method_15_code
def y_D_draftByte : MethodName := ⟨R_D, "draftByte", "(I)I"⟩
def ws_D_draftByte : List Cond := .code y_D_draftByte cc_D_draftByte 3 (some .int) :: TB
theorem cd_D_draftByte : Cond.code y_D_draftByte cc_D_draftByte 3 (some .int) ∈ TB := tb_of (List.mem_of_getElem? (i := 182) rfl) rfl
theorem hd_D_draftByte : y_D_draftByte.cls = R_D ∧ y_D_draftByte.cls ≠ "java/lang/invoke/MethodHandle" ∧ y_D_draftByte.cls ≠ "java/lang/invoke/VarHandle" ∧ (parseMethodDescriptor y_D_draftByte.desc).map (fun d => d.parameters.length) = some 1 := by decide +kernel
abbrev cc_E_learn : ByteArray := prog_2_method_2_code
def y_E_learn : MethodName := ⟨R_E, "learn", "(LValueDesk$Row;)V"⟩
def ws_E_learn : List Cond := .code y_E_learn cc_E_learn 3 none :: TB
theorem cd_E_learn : Cond.code y_E_learn cc_E_learn 3 none ∈ TB := tb_of (List.mem_of_getElem? (i := 186) rfl) rfl
theorem hd_E_learn : y_E_learn.cls = R_E ∧ y_E_learn.cls ≠ "java/lang/invoke/MethodHandle" ∧ y_E_learn.cls ≠ "java/lang/invoke/VarHandle" ∧ (parseMethodDescriptor y_E_learn.desc).map (fun d => d.parameters.length) = some 1 := by decide +kernel
abbrev cc_D_value : ByteArray := prog_1_method_4_code
def y_D_value : MethodName := ⟨R_D, "value", "(II)I"⟩
def ws_D_value : List Cond := .code y_D_value cc_D_value 4 (some .int) :: TB
theorem cd_D_value : Cond.code y_D_value cc_D_value 4 (some .int) ∈ TB := tb_of (List.mem_of_getElem? (i := 194) rfl) rfl
theorem hd_D_value : y_D_value.cls = R_D ∧ y_D_value.cls ≠ "java/lang/invoke/MethodHandle" ∧ y_D_value.cls ≠ "java/lang/invoke/VarHandle" ∧ (parseMethodDescriptor y_D_value.desc).map (fun d => d.parameters.length) = some 2 := by decide +kernel
abbrev cc_D_readValue : ByteArray := prog_1_method_19_code
def y_D_readValue : MethodName := ⟨R_D, "readValue", "(LValueDesk$Row;II)I"⟩
def ws_D_readValue : List Cond := .code y_D_readValue cc_D_readValue 8 (some .int) :: TB
theorem cd_D_readValue : Cond.code y_D_readValue cc_D_readValue 8 (some .int) ∈ TB := tb_of (List.mem_of_getElem? (i := 199) rfl) rfl
theorem hd_D_readValue : y_D_readValue.cls = R_D ∧ y_D_readValue.cls ≠ "java/lang/invoke/MethodHandle" ∧ y_D_readValue.cls ≠ "java/lang/invoke/VarHandle" ∧ (parseMethodDescriptor y_D_readValue.desc).map (fun d => d.parameters.length) = some 3 := by decide +kernel
abbrev cc_D_takeReference : ByteArray := prog_1_method_22_code
def y_D_takeReference : MethodName := ⟨R_D, "takeReference", "(II)I"⟩
def ws_D_takeReference : List Cond := .code y_D_takeReference cc_D_takeReference 3 (some .int) :: TB
theorem cd_D_takeReference : Cond.code y_D_takeReference cc_D_takeReference 3 (some .int) ∈ TB := tb_of (List.mem_of_getElem? (i := 203) rfl) rfl
theorem hd_D_takeReference : y_D_takeReference.cls = R_D ∧ y_D_takeReference.cls ≠ "java/lang/invoke/MethodHandle" ∧ y_D_takeReference.cls ≠ "java/lang/invoke/VarHandle" ∧ (parseMethodDescriptor y_D_takeReference.desc).map (fun d => d.parameters.length) = some 2 := by decide +kernel
abbrev cc_D_takeEntity : ByteArray := prog_1_method_23_code
def y_D_takeEntity : MethodName := ⟨R_D, "takeEntity", "(III)I"⟩
def ws_D_takeEntity : List Cond := .code y_D_takeEntity cc_D_takeEntity 6 (some .int) :: TB
theorem cd_D_takeEntity : Cond.code y_D_takeEntity cc_D_takeEntity 6 (some .int) ∈ TB := tb_of (List.mem_of_getElem? (i := 207) rfl) rfl
theorem hd_D_takeEntity : y_D_takeEntity.cls = R_D ∧ y_D_takeEntity.cls ≠ "java/lang/invoke/MethodHandle" ∧ y_D_takeEntity.cls ≠ "java/lang/invoke/VarHandle" ∧ (parseMethodDescriptor y_D_takeEntity.desc).map (fun d => d.parameters.length) = some 3 := by decide +kernel
abbrev cc_D_failBroken : ByteArray := prog_1_method_20_code
def y_D_failBroken : MethodName := ⟨R_D, "failBroken", "(LValueDesk$Row;II)I"⟩
def ws_D_failBroken : List Cond := .code y_D_failBroken cc_D_failBroken 4 (some .int) :: TB
theorem cd_D_failBroken : Cond.code y_D_failBroken cc_D_failBroken 4 (some .int) ∈ TB := tb_of (List.mem_of_getElem? (i := 212) rfl) rfl
theorem hd_D_failBroken : y_D_failBroken.cls = R_D ∧ y_D_failBroken.cls ≠ "java/lang/invoke/MethodHandle" ∧ y_D_failBroken.cls ≠ "java/lang/invoke/VarHandle" ∧ (parseMethodDescriptor y_D_failBroken.desc).map (fun d => d.parameters.length) = some 3 := by decide +kernel
abbrev cc_D_takeByte : ByteArray := prog_1_method_21_code
def y_D_takeByte : MethodName := ⟨R_D, "takeByte", "(II)I"⟩
def ws_D_takeByte : List Cond := .code y_D_takeByte cc_D_takeByte 3 (some .int) :: TB
theorem cd_D_takeByte : Cond.code y_D_takeByte cc_D_takeByte 3 (some .int) ∈ TB := tb_of (List.mem_of_getElem? (i := 216) rfl) rfl
theorem hd_D_takeByte : y_D_takeByte.cls = R_D ∧ y_D_takeByte.cls ≠ "java/lang/invoke/MethodHandle" ∧ y_D_takeByte.cls ≠ "java/lang/invoke/VarHandle" ∧ (parseMethodDescriptor y_D_takeByte.desc).map (fun d => d.parameters.length) = some 2 := by decide +kernel
abbrev cc_R_squeeze : ByteArray := prog_4_method_7_code
def y_R_squeeze : MethodName := ⟨R_R, "squeeze", "()V"⟩
def ws_R_squeeze : List Cond := .code y_R_squeeze cc_R_squeeze 3 none :: TB
theorem cd_R_squeeze : Cond.code y_R_squeeze cc_R_squeeze 3 none ∈ TB := tb_of (List.mem_of_getElem? (i := 220) rfl) rfl
theorem hd_R_squeeze : y_R_squeeze.cls = R_R ∧ y_R_squeeze.cls ≠ "java/lang/invoke/MethodHandle" ∧ y_R_squeeze.cls ≠ "java/lang/invoke/VarHandle" ∧ (parseMethodDescriptor y_R_squeeze.desc).map (fun d => d.parameters.length) = some 0 := by decide +kernel
abbrev cc_D_place : ByteArray := prog_1_method_5_code
def y_D_place : MethodName := ⟨R_D, "place", "()I"⟩
def ws_D_place : List Cond := .code y_D_place cc_D_place 1 (some .int) :: TB
theorem cd_D_place : Cond.code y_D_place cc_D_place 1 (some .int) ∈ TB := tb_of (List.mem_of_getElem? (i := 224) rfl) rfl
theorem hd_D_place : y_D_place.cls = R_D ∧ y_D_place.cls ≠ "java/lang/invoke/MethodHandle" ∧ y_D_place.cls ≠ "java/lang/invoke/VarHandle" ∧ (parseMethodDescriptor y_D_place.desc).map (fun d => d.parameters.length) = some 0 := by decide +kernel
abbrev cc_D_characters : ByteArray := prog_1_method_6_code
def y_D_characters : MethodName := ⟨R_D, "characters", "(I)J"⟩
def ws_D_characters : List Cond := .code y_D_characters cc_D_characters 2 (some .long) :: TB
theorem cd_D_characters : Cond.code y_D_characters cc_D_characters 2 (some .long) ∈ TB := tb_of (List.mem_of_getElem? (i := 228) rfl) rfl
theorem hd_D_characters : y_D_characters.cls = R_D ∧ y_D_characters.cls ≠ "java/lang/invoke/MethodHandle" ∧ y_D_characters.cls ≠ "java/lang/invoke/VarHandle" ∧ (parseMethodDescriptor y_D_characters.desc).map (fun d => d.parameters.length) = some 1 := by decide +kernel
abbrev cc_R_wordAt : ByteArray := prog_4_method_6_code
def y_R_wordAt : MethodName := ⟨R_R, "wordAt", "(I)J"⟩
def ws_R_wordAt : List Cond := .code y_R_wordAt cc_R_wordAt 5 (some .long) :: TB
theorem cd_R_wordAt : Cond.code y_R_wordAt cc_R_wordAt 5 (some .long) ∈ TB := tb_of (List.mem_of_getElem? (i := 232) rfl) rfl
theorem hd_R_wordAt : y_R_wordAt.cls = R_R ∧ y_R_wordAt.cls ≠ "java/lang/invoke/MethodHandle" ∧ y_R_wordAt.cls ≠ "java/lang/invoke/VarHandle" ∧ (parseMethodDescriptor y_R_wordAt.desc).map (fun d => d.parameters.length) = some 1 := by decide +kernel
abbrev cc_D_text : ByteArray := prog_1_method_7_code
def y_D_text : MethodName := ⟨R_D, "text", "(II)J"⟩
def ws_D_text : List Cond := .code y_D_text cc_D_text 4 (some .long) :: TB
theorem cd_D_text : Cond.code y_D_text cc_D_text 4 (some .long) ∈ TB := tb_of (List.mem_of_getElem? (i := 237) rfl) rfl
theorem hd_D_text : y_D_text.cls = R_D ∧ y_D_text.cls ≠ "java/lang/invoke/MethodHandle" ∧ y_D_text.cls ≠ "java/lang/invoke/VarHandle" ∧ (parseMethodDescriptor y_D_text.desc).map (fun d => d.parameters.length) = some 2 := by decide +kernel
abbrev cc_D_clear : ByteArray := prog_1_method_8_code
def y_D_clear : MethodName := ⟨R_D, "clear", "()I"⟩
def ws_D_clear : List Cond := .code y_D_clear cc_D_clear 3 (some .int) :: TB
theorem cd_D_clear : Cond.code y_D_clear cc_D_clear 3 (some .int) ∈ TB := tb_of (List.mem_of_getElem? (i := 242) rfl) rfl
theorem hd_D_clear : y_D_clear.cls = R_D ∧ y_D_clear.cls ≠ "java/lang/invoke/MethodHandle" ∧ y_D_clear.cls ≠ "java/lang/invoke/VarHandle" ∧ (parseMethodDescriptor y_D_clear.desc).map (fun d => d.parameters.length) = some 0 := by decide +kernel
abbrev cc_D_known : ByteArray := prog_1_method_10_code
def y_D_known : MethodName := ⟨R_D, "known", "()I"⟩
def ws_D_known : List Cond := .code y_D_known cc_D_known 3 (some .int) :: TB
theorem cd_D_known : Cond.code y_D_known cc_D_known 3 (some .int) ∈ TB := tb_of (List.mem_of_getElem? (i := 246) rfl) rfl
theorem hd_D_known : y_D_known.cls = R_D ∧ y_D_known.cls ≠ "java/lang/invoke/MethodHandle" ∧ y_D_known.cls ≠ "java/lang/invoke/VarHandle" ∧ (parseMethodDescriptor y_D_known.desc).map (fun d => d.parameters.length) = some 0 := by decide +kernel
abbrev cc_D_count : ByteArray := prog_1_method_9_code
def y_D_count : MethodName := ⟨R_D, "count", "(I)I"⟩
def ws_D_count : List Cond := .code y_D_count cc_D_count 2 (some .int) :: TB
theorem cd_D_count : Cond.code y_D_count cc_D_count 2 (some .int) ∈ TB := tb_of (List.mem_of_getElem? (i := 250) rfl) rfl
theorem hd_D_count : y_D_count.cls = R_D ∧ y_D_count.cls ≠ "java/lang/invoke/MethodHandle" ∧ y_D_count.cls ≠ "java/lang/invoke/VarHandle" ∧ (parseMethodDescriptor y_D_count.desc).map (fun d => d.parameters.length) = some 1 := by decide +kernel
abbrev cc_M_init : ByteArray := prog_6_method_1_code
def y_M_init : MethodName := ⟨R_M, "<init>", "()V"⟩
def ws_M_init : List Cond := .code y_M_init cc_M_init 1 none :: TB
theorem cd_M_init : Cond.code y_M_init cc_M_init 1 none ∈ TB := tb_of (List.mem_of_getElem? (i := 255) rfl) rfl
theorem hd_M_init : y_M_init.cls = R_M ∧ y_M_init.cls ≠ "java/lang/invoke/MethodHandle" ∧ y_M_init.cls ≠ "java/lang/invoke/VarHandle" ∧ (parseMethodDescriptor y_M_init.desc).map (fun d => d.parameters.length) = some 0 := by decide +kernel
abbrev cc_M_put : ByteArray := prog_6_method_16_code
def y_M_put : MethodName := ⟨R_M, "put", "(JI)Z"⟩
def ws_M_put : List Cond := .code y_M_put cc_M_put 5 (some .boolean) :: TB
theorem cd_M_put : Cond.code y_M_put cc_M_put 5 (some .boolean) ∈ TB := tb_of (List.mem_of_getElem? (i := 325) rfl) rfl
theorem hd_M_put : y_M_put.cls = R_M ∧ y_M_put.cls ≠ "java/lang/invoke/MethodHandle" ∧ y_M_put.cls ≠ "java/lang/invoke/VarHandle" ∧ (parseMethodDescriptor y_M_put.desc).map (fun d => d.parameters.length) = some 2 := by decide +kernel
abbrev cc_M_define : ByteArray := prog_6_method_19_code
def y_M_define : MethodName := ⟨R_M, "define", "(I)I"⟩
def ws_M_define : List Cond := .code y_M_define cc_M_define 5 (some .int) :: TB
theorem cd_M_define : Cond.code y_M_define cc_M_define 5 (some .int) ∈ TB := tb_of (List.mem_of_getElem? (i := 329) rfl) rfl
theorem hd_M_define : y_M_define.cls = R_M ∧ y_M_define.cls ≠ "java/lang/invoke/MethodHandle" ∧ y_M_define.cls ≠ "java/lang/invoke/VarHandle" ∧ (parseMethodDescriptor y_M_define.desc).map (fun d => d.parameters.length) = some 1 := by decide +kernel
abbrev cc_M_begin : ByteArray := prog_6_method_17_code
def y_M_begin : MethodName := ⟨R_M, "begin", "()V"⟩
def ws_M_begin : List Cond := .code y_M_begin cc_M_begin 1 none :: TB
theorem cd_M_begin : Cond.code y_M_begin cc_M_begin 1 none ∈ TB := tb_of (List.mem_of_getElem? (i := 333) rfl) rfl
theorem hd_M_begin : y_M_begin.cls = R_M ∧ y_M_begin.cls ≠ "java/lang/invoke/MethodHandle" ∧ y_M_begin.cls ≠ "java/lang/invoke/VarHandle" ∧ (parseMethodDescriptor y_M_begin.desc).map (fun d => d.parameters.length) = some 0 := by decide +kernel
abbrev cc_M_look : ByteArray := prog_6_method_8_code
def y_M_look : MethodName := ⟨R_M, "look", "(I)V"⟩
def ws_M_look : List Cond := .code y_M_look cc_M_look 6 none :: TB
theorem cd_M_look : Cond.code y_M_look cc_M_look 6 none ∈ TB := tb_of (List.mem_of_getElem? (i := 337) rfl) rfl
theorem hd_M_look : y_M_look.cls = R_M ∧ y_M_look.cls ≠ "java/lang/invoke/MethodHandle" ∧ y_M_look.cls ≠ "java/lang/invoke/VarHandle" ∧ (parseMethodDescriptor y_M_look.desc).map (fun d => d.parameters.length) = some 1 := by decide +kernel
abbrev cc_M_byteOf : ByteArray := prog_6_method_4_code
def y_M_byteOf : MethodName := ⟨R_M, "byteOf", "(I)I"⟩
def ws_M_byteOf : List Cond := .code y_M_byteOf cc_M_byteOf 2 (some .int) :: TB
theorem cd_M_byteOf : Cond.code y_M_byteOf cc_M_byteOf 2 (some .int) ∈ TB := tb_of (List.mem_of_getElem? (i := 341) rfl) rfl
theorem hd_M_byteOf : y_M_byteOf.cls = R_M ∧ y_M_byteOf.cls ≠ "java/lang/invoke/MethodHandle" ∧ y_M_byteOf.cls ≠ "java/lang/invoke/VarHandle" ∧ (parseMethodDescriptor y_M_byteOf.desc).map (fun d => d.parameters.length) = some 1 := by decide +kernel
abbrev cc_M_length : ByteArray := prog_6_method_3_code
def y_M_length : MethodName := ⟨R_M, "length", "()I"⟩
def ws_M_length : List Cond := .code y_M_length cc_M_length 1 (some .int) :: TB
theorem cd_M_length : Cond.code y_M_length cc_M_length 1 (some .int) ∈ TB := tb_of (List.mem_of_getElem? (i := 345) rfl) rfl
theorem hd_M_length : y_M_length.cls = R_M ∧ y_M_length.cls ≠ "java/lang/invoke/MethodHandle" ∧ y_M_length.cls ≠ "java/lang/invoke/VarHandle" ∧ (parseMethodDescriptor y_M_length.desc).map (fun d => d.parameters.length) = some 0 := by decide +kernel
abbrev cc_M_digit : ByteArray := prog_6_method_6_code
def y_M_digit : MethodName := ⟨R_M, "digit", "(IZ)I"⟩
def ws_M_digit : List Cond := .code y_M_digit cc_M_digit 2 (some .int) :: TB
theorem cd_M_digit : Cond.code y_M_digit cc_M_digit 2 (some .int) ∈ TB := tb_of (List.mem_of_getElem? (i := 348) rfl) rfl
theorem hd_M_digit : y_M_digit.cls = R_M ∧ y_M_digit.cls ≠ "java/lang/invoke/MethodHandle" ∧ y_M_digit.cls ≠ "java/lang/invoke/VarHandle" ∧ (parseMethodDescriptor y_M_digit.desc).map (fun d => d.parameters.length) = some 2 := by decide +kernel
abbrev cc_M_stops : ByteArray := prog_6_method_7_code
def y_M_stops : MethodName := ⟨R_M, "stops", "(I)V"⟩
def ws_M_stops : List Cond := .code y_M_stops cc_M_stops 2 none :: TB
theorem cd_M_stops : Cond.code y_M_stops cc_M_stops 2 none ∈ TB := tb_of (List.mem_of_getElem? (i := 352) rfl) rfl
theorem hd_M_stops : y_M_stops.cls = R_M ∧ y_M_stops.cls ≠ "java/lang/invoke/MethodHandle" ∧ y_M_stops.cls ≠ "java/lang/invoke/VarHandle" ∧ (parseMethodDescriptor y_M_stops.desc).map (fun d => d.parameters.length) = some 1 := by decide +kernel
abbrev cc_M_fails : ByteArray := prog_6_method_5_code
def y_M_fails : MethodName := ⟨R_M, "fails", "(II)V"⟩
def ws_M_fails : List Cond := .code y_M_fails cc_M_fails 3 none :: TB
theorem cd_M_fails : Cond.code y_M_fails cc_M_fails 3 none ∈ TB := tb_of (List.mem_of_getElem? (i := 356) rfl) rfl
theorem hd_M_fails : y_M_fails.cls = R_M ∧ y_M_fails.cls ≠ "java/lang/invoke/MethodHandle" ∧ y_M_fails.cls ≠ "java/lang/invoke/VarHandle" ∧ (parseMethodDescriptor y_M_fails.desc).map (fun d => d.parameters.length) = some 2 := by decide +kernel
abbrev cc_M_isCharacter : ByteArray := prog_6_method_2_code
def y_M_isCharacter : MethodName := ⟨R_M, "isCharacter", "(I)Z"⟩
def ws_M_isCharacter : List Cond := .code y_M_isCharacter cc_M_isCharacter 1 (some .boolean) :: TB
theorem cd_M_isCharacter : Cond.code y_M_isCharacter cc_M_isCharacter 1 (some .boolean) ∈ TB := tb_of (List.mem_of_getElem? (i := 359) rfl) rfl
theorem hd_M_isCharacter : y_M_isCharacter.cls = R_M ∧ y_M_isCharacter.cls ≠ "java/lang/invoke/MethodHandle" ∧ y_M_isCharacter.cls ≠ "java/lang/invoke/VarHandle" ∧ (parseMethodDescriptor y_M_isCharacter.desc).map (fun d => d.parameters.length) = some 1 := by decide +kernel
abbrev cc_M_defining : ByteArray := prog_6_method_18_code
def y_M_defining : MethodName := ⟨R_M, "defining", "(II)V"⟩
def ws_M_defining : List Cond := .code y_M_defining cc_M_defining 3 none :: TB
theorem cd_M_defining : Cond.code y_M_defining cc_M_defining 3 none ∈ TB := tb_of (List.mem_of_getElem? (i := 363) rfl) rfl
theorem hd_M_defining : y_M_defining.cls = R_M ∧ y_M_defining.cls ≠ "java/lang/invoke/MethodHandle" ∧ y_M_defining.cls ≠ "java/lang/invoke/VarHandle" ∧ (parseMethodDescriptor y_M_defining.desc).map (fun d => d.parameters.length) = some 2 := by decide +kernel
abbrev cc_M_value : ByteArray := prog_6_method_20_code
def y_M_value : MethodName := ⟨R_M, "value", "(II)I"⟩
def ws_M_value : List Cond := .code y_M_value cc_M_value 4 (some .int) :: TB
theorem cd_M_value : Cond.code y_M_value cc_M_value 4 (some .int) ∈ TB := tb_of (List.mem_of_getElem? (i := 367) rfl) rfl
theorem hd_M_value : y_M_value.cls = R_M ∧ y_M_value.cls ≠ "java/lang/invoke/MethodHandle" ∧ y_M_value.cls ≠ "java/lang/invoke/VarHandle" ∧ (parseMethodDescriptor y_M_value.desc).map (fun d => d.parameters.length) = some 2 := by decide +kernel
abbrev cc_M_step : ByteArray := prog_6_method_12_code
def y_M_step : MethodName := ⟨R_M, "step", "(I)V"⟩
def ws_M_step : List Cond := .code y_M_step cc_M_step 4 none :: TB
theorem cd_M_step : Cond.code y_M_step cc_M_step 4 none ∈ TB := tb_of (List.mem_of_getElem? (i := 372) rfl) rfl
theorem hd_M_step : y_M_step.cls = R_M ∧ y_M_step.cls ≠ "java/lang/invoke/MethodHandle" ∧ y_M_step.cls ≠ "java/lang/invoke/VarHandle" ∧ (parseMethodDescriptor y_M_step.desc).map (fun d => d.parameters.length) = some 1 := by decide +kernel
abbrev cc_M_open : ByteArray := prog_6_method_11_code
def y_M_open : MethodName := ⟨R_M, "open", "(III)V"⟩
def ws_M_open : List Cond := .code y_M_open cc_M_open 4 none :: TB
theorem cd_M_open : Cond.code y_M_open cc_M_open 4 none ∈ TB := tb_of (List.mem_of_getElem? (i := 376) rfl) rfl
theorem hd_M_open : y_M_open.cls = R_M ∧ y_M_open.cls ≠ "java/lang/invoke/MethodHandle" ∧ y_M_open.cls ≠ "java/lang/invoke/VarHandle" ∧ (parseMethodDescriptor y_M_open.desc).map (fun d => d.parameters.length) = some 3 := by decide +kernel
abbrev cc_M_isOpen : ByteArray := prog_6_method_10_code
def y_M_isOpen : MethodName := ⟨R_M, "isOpen", "(I)Z"⟩
def ws_M_isOpen : List Cond := .code y_M_isOpen cc_M_isOpen 3 (some .boolean) :: TB
theorem cd_M_isOpen : Cond.code y_M_isOpen cc_M_isOpen 3 (some .boolean) ∈ TB := tb_of (List.mem_of_getElem? (i := 380) rfl) rfl
theorem hd_M_isOpen : y_M_isOpen.cls = R_M ∧ y_M_isOpen.cls ≠ "java/lang/invoke/MethodHandle" ∧ y_M_isOpen.cls ≠ "java/lang/invoke/VarHandle" ∧ (parseMethodDescriptor y_M_isOpen.desc).map (fun d => d.parameters.length) = some 1 := by decide +kernel
abbrev cc_M_add : ByteArray := prog_6_method_9_code
def y_M_add : MethodName := ⟨R_M, "add", "(II)V"⟩
def ws_M_add : List Cond := .code y_M_add cc_M_add 3 none :: TB
theorem cd_M_add : Cond.code y_M_add cc_M_add 3 none ∈ TB := tb_of (List.mem_of_getElem? (i := 384) rfl) rfl
theorem hd_M_add : y_M_add.cls = R_M ∧ y_M_add.cls ≠ "java/lang/invoke/MethodHandle" ∧ y_M_add.cls ≠ "java/lang/invoke/VarHandle" ∧ (parseMethodDescriptor y_M_add.desc).map (fun d => d.parameters.length) = some 2 := by decide +kernel
abbrev cc_M_trim : ByteArray := prog_6_method_13_code
def y_M_trim : MethodName := ⟨R_M, "trim", "()V"⟩
def ws_M_trim : List Cond := .code y_M_trim cc_M_trim 4 none :: TB
theorem cd_M_trim : Cond.code y_M_trim cc_M_trim 4 none ∈ TB := tb_of (List.mem_of_getElem? (i := 388) rfl) rfl
theorem hd_M_trim : y_M_trim.cls = R_M ∧ y_M_trim.cls ≠ "java/lang/invoke/MethodHandle" ∧ y_M_trim.cls ≠ "java/lang/invoke/VarHandle" ∧ (parseMethodDescriptor y_M_trim.desc).map (fun d => d.parameters.length) = some 0 := by decide +kernel
abbrev cc_M_place : ByteArray := prog_6_method_21_code
def y_M_place : MethodName := ⟨R_M, "place", "()I"⟩
def ws_M_place : List Cond := .code y_M_place cc_M_place 1 (some .int) :: TB
theorem cd_M_place : Cond.code y_M_place cc_M_place 1 (some .int) ∈ TB := tb_of (List.mem_of_getElem? (i := 392) rfl) rfl
theorem hd_M_place : y_M_place.cls = R_M ∧ y_M_place.cls ≠ "java/lang/invoke/MethodHandle" ∧ y_M_place.cls ≠ "java/lang/invoke/VarHandle" ∧ (parseMethodDescriptor y_M_place.desc).map (fun d => d.parameters.length) = some 0 := by decide +kernel
abbrev cc_M_characters : ByteArray := prog_6_method_22_code
def y_M_characters : MethodName := ⟨R_M, "characters", "(I)J"⟩
def ws_M_characters : List Cond := .code y_M_characters cc_M_characters 2 (some .long) :: TB
theorem cd_M_characters : Cond.code y_M_characters cc_M_characters 2 (some .long) ∈ TB := tb_of (List.mem_of_getElem? (i := 396) rfl) rfl
theorem hd_M_characters : y_M_characters.cls = R_M ∧ y_M_characters.cls ≠ "java/lang/invoke/MethodHandle" ∧ y_M_characters.cls ≠ "java/lang/invoke/VarHandle" ∧ (parseMethodDescriptor y_M_characters.desc).map (fun d => d.parameters.length) = some 1 := by decide +kernel
abbrev cc_M_eight : ByteArray := prog_6_method_14_code
def y_M_eight : MethodName := ⟨R_M, "eight", "([IIII)J"⟩
def ws_M_eight : List Cond := .code y_M_eight cc_M_eight 7 (some .long) :: TB
theorem cd_M_eight : Cond.code y_M_eight cc_M_eight 7 (some .long) ∈ TB := tb_of (List.mem_of_getElem? (i := 400) rfl) rfl
theorem hd_M_eight : y_M_eight.cls = R_M ∧ y_M_eight.cls ≠ "java/lang/invoke/MethodHandle" ∧ y_M_eight.cls ≠ "java/lang/invoke/VarHandle" ∧ (parseMethodDescriptor y_M_eight.desc).map (fun d => d.parameters.length) = some 4 := by decide +kernel
abbrev cc_M_text : ByteArray := prog_6_method_23_code
def y_M_text : MethodName := ⟨R_M, "text", "(II)J"⟩
def ws_M_text : List Cond := .code y_M_text cc_M_text 3 (some .long) :: TB
theorem cd_M_text : Cond.code y_M_text cc_M_text 3 (some .long) ∈ TB := tb_of (List.mem_of_getElem? (i := 404) rfl) rfl
theorem hd_M_text : y_M_text.cls = R_M ∧ y_M_text.cls ≠ "java/lang/invoke/MethodHandle" ∧ y_M_text.cls ≠ "java/lang/invoke/VarHandle" ∧ (parseMethodDescriptor y_M_text.desc).map (fun d => d.parameters.length) = some 2 := by decide +kernel
abbrev cc_M_clear : ByteArray := prog_6_method_25_code
def y_M_clear : MethodName := ⟨R_M, "clear", "()I"⟩
def ws_M_clear : List Cond := .code y_M_clear cc_M_clear 3 (some .int) :: TB
theorem cd_M_clear : Cond.code y_M_clear cc_M_clear 3 (some .int) ∈ TB := tb_of (List.mem_of_getElem? (i := 408) rfl) rfl
theorem hd_M_clear : y_M_clear.cls = R_M ∧ y_M_clear.cls ≠ "java/lang/invoke/MethodHandle" ∧ y_M_clear.cls ≠ "java/lang/invoke/VarHandle" ∧ (parseMethodDescriptor y_M_clear.desc).map (fun d => d.parameters.length) = some 0 := by decide +kernel
abbrev cc_M_known : ByteArray := prog_6_method_24_code
def y_M_known : MethodName := ⟨R_M, "known", "()I"⟩
def ws_M_known : List Cond := .code y_M_known cc_M_known 3 (some .int) :: TB
theorem cd_M_known : Cond.code y_M_known cc_M_known 3 (some .int) ∈ TB := tb_of (List.mem_of_getElem? (i := 412) rfl) rfl
theorem hd_M_known : y_M_known.cls = R_M ∧ y_M_known.cls ≠ "java/lang/invoke/MethodHandle" ∧ y_M_known.cls ≠ "java/lang/invoke/VarHandle" ∧ (parseMethodDescriptor y_M_known.desc).map (fun d => d.parameters.length) = some 0 := by decide +kernel
abbrev cc_M_count : ByteArray := prog_6_method_26_code
def y_M_count : MethodName := ⟨R_M, "count", "(I)I"⟩
def ws_M_count : List Cond := .code y_M_count cc_M_count 2 (some .int) :: TB
theorem cd_M_count : Cond.code y_M_count cc_M_count 2 (some .int) ∈ TB := tb_of (List.mem_of_getElem? (i := 416) rfl) rfl
theorem hd_M_count : y_M_count.cls = R_M ∧ y_M_count.cls ≠ "java/lang/invoke/MethodHandle" ∧ y_M_count.cls ≠ "java/lang/invoke/VarHandle" ∧ (parseMethodDescriptor y_M_count.desc).map (fun d => d.parameters.length) = some 1 := by decide +kernel
theorem in0_E : ∀ w ∈ u_ws R_E T_E 3, w ∈ TB := by decide +kernel
theorem in0_F : ∀ w ∈ u_ws R_F T_F 4, w ∈ TB := by decide +kernel
theorem in0_R : ∀ w ∈ u_ws R_R T_R 2, w ∈ TB := by decide +kernel
theorem in0_D : ∀ w ∈ u_ws R_D T_D 9, w ∈ TB := by decide +kernel
theorem in0_M : ∀ w ∈ u_ws R_M T_M 21, w ∈ TB := by decide +kernel
abbrev hp_fl : List (String × Nat × String × String × String × String) := [(R_D, 91, "ValueDesk$Entity", "row", "LValueDesk$Row;", "ValueDesk"), (R_D, 60, "ValueDesk$Entity", "known", "Z", "ValueDesk"), (R_D, 152, "ValueDesk$Entity", "open", "Z", "ValueDesk"), (R_D, 123, "ValueDesk$Reference", "whole", "Z", "ValueDesk"), (R_D, 126, "ValueDesk$Reference", "toEntity", "Z", "ValueDesk"), (R_D, 136, "ValueDesk$Reference", "number", "I", "ValueDesk"), (R_D, 108, "ValueDesk$Reference", "end", "I", "ValueDesk")]
abbrev hp_ml : List (String × Nat × MethodName × String) := [(R_D, 30, y_E_init, "ValueDesk"), (R_D, 33, y_F_init, "ValueDesk")]
