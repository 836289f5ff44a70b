section
-- ===== PART A: goes FIRST, ahead of the names: the tables' words, and 'selects' of the private methods out of them =====
/-- a private method of a class that the tables say can be made, by its rows of tables_1 -/
def lw_okq (q : MethodName × Nat) : Prop := (q.1.cls ≠ "java/lang/invoke/MethodHandle" ∧ q.1.cls ≠ "java/lang/invoke/VarHandle") ∧ Cond.instantiable q.1.cls q.2 ∈ tables_1 ∧ Cond.privateMethod q.1 ∈ tables_1 ∧ Cond.instanceMethod q.1 ∈ tables_1
theorem lw_p0 : lw_okq (⟨"RecurrentSeries", "numberFor", "(I)I"⟩, 9) := ⟨⟨by decide +kernel, by decide +kernel⟩, List.mem_of_getElem? (i := 10) (by decide +kernel), List.mem_of_getElem? (i := 141) (by decide +kernel), List.mem_of_getElem? (i := 142) (by decide +kernel)⟩
theorem lw_p1 : lw_okq (⟨"RecurrentSeries", "othersFit", "(I)Z"⟩, 9) := ⟨⟨by decide +kernel, by decide +kernel⟩, List.mem_of_getElem? (i := 10) (by decide +kernel), List.mem_of_getElem? (i := 145) (by decide +kernel), List.mem_of_getElem? (i := 146) (by decide +kernel)⟩
theorem lw_p2 : lw_okq (⟨"RecurrentSeries", "enlist", "(I)I"⟩, 9) := ⟨⟨by decide +kernel, by decide +kernel⟩, List.mem_of_getElem? (i := 10) (by decide +kernel), List.mem_of_getElem? (i := 155) (by decide +kernel), List.mem_of_getElem? (i := 156) (by decide +kernel)⟩
theorem lw_p3 : lw_okq (⟨"RecurrentSeries$Finder", "mend", "(JII)V"⟩, 3) := ⟨⟨by decide +kernel, by decide +kernel⟩, List.mem_of_getElem? (i := 20) (by decide +kernel), List.mem_of_getElem? (i := 178) (by decide +kernel), List.mem_of_getElem? (i := 179) (by decide +kernel)⟩
theorem lw_p4 : lw_okq (⟨"RecurrentSeries$Finder", "keepUnmended", "()V"⟩, 3) := ⟨⟨by decide +kernel, by decide +kernel⟩, List.mem_of_getElem? (i := 20) (by decide +kernel), List.mem_of_getElem? (i := 185) (by decide +kernel), List.mem_of_getElem? (i := 186) (by decide +kernel)⟩
theorem lw_p5 : lw_okq (⟨"RecurrentSeries", "isListed", "(I)Z"⟩, 9) := ⟨⟨by decide +kernel, by decide +kernel⟩, List.mem_of_getElem? (i := 10) (by decide +kernel), List.mem_of_getElem? (i := 198) (by decide +kernel), List.mem_of_getElem? (i := 199) (by decide +kernel)⟩
theorem lw_p6 : lw_okq (⟨"RecurrentSeries$Seeker", "load", "(LRecurrentSeries$Series;)V"⟩, 5) := ⟨⟨by decide +kernel, by decide +kernel⟩, List.mem_of_getElem? (i := 37) (by decide +kernel), List.mem_of_getElem? (i := 261) (by decide +kernel), List.mem_of_getElem? (i := 262) (by decide +kernel)⟩
theorem lw_p7 : lw_okq (⟨"RecurrentSeries$Seeker", "halve", "(II)V"⟩, 5) := ⟨⟨by decide +kernel, by decide +kernel⟩, List.mem_of_getElem? (i := 37) (by decide +kernel), List.mem_of_getElem? (i := 267) (by decide +kernel), List.mem_of_getElem? (i := 268) (by decide +kernel)⟩
theorem lw_p8 : lw_okq (⟨"RecurrentSeries$Seeker", "timesMirrored", "([JII)J"⟩, 5) := ⟨⟨by decide +kernel, by decide +kernel⟩, List.mem_of_getElem? (i := 37) (by decide +kernel), List.mem_of_getElem? (i := 271) (by decide +kernel), List.mem_of_getElem? (i := 272) (by decide +kernel)⟩
theorem lw_p9 : lw_okq (⟨"RecurrentSeriesModel", "settle", "(I)I"⟩, 13) := ⟨⟨by decide +kernel, by decide +kernel⟩, List.mem_of_getElem? (i := 304) (by decide +kernel), List.mem_of_getElem? (i := 367) (by decide +kernel), List.mem_of_getElem? (i := 368) (by decide +kernel)⟩
theorem lw_p10 : lw_okq (⟨"RecurrentSeriesModel", "ask", "(IIII)V"⟩, 13) := ⟨⟨by decide +kernel, by decide +kernel⟩, List.mem_of_getElem? (i := 304) (by decide +kernel), List.mem_of_getElem? (i := 371) (by decide +kernel), List.mem_of_getElem? (i := 372) (by decide +kernel)⟩
theorem lw_p11 : lw_okq (⟨"RecurrentSeriesModel", "solve", "(II)Z"⟩, 13) := ⟨⟨by decide +kernel, by decide +kernel⟩, List.mem_of_getElem? (i := 304) (by decide +kernel), List.mem_of_getElem? (i := 375) (by decide +kernel), List.mem_of_getElem? (i := 376) (by decide +kernel)⟩
theorem lw_p12 : lw_okq (⟨"RecurrentSeriesModel", "swapRows", "(III)V"⟩, 13) := ⟨⟨by decide +kernel, by decide +kernel⟩, List.mem_of_getElem? (i := 304) (by decide +kernel), List.mem_of_getElem? (i := 379) (by decide +kernel), List.mem_of_getElem? (i := 380) (by decide +kernel)⟩
theorem lw_p13 : lw_okq (⟨"RecurrentSeriesModel", "clean", "(IIII)V"⟩, 13) := ⟨⟨by decide +kernel, by decide +kernel⟩, List.mem_of_getElem? (i := 304) (by decide +kernel), List.mem_of_getElem? (i := 383) (by decide +kernel), List.mem_of_getElem? (i := 384) (by decide +kernel)⟩
theorem lw_p14 : lw_okq (⟨"RecurrentSeriesModel", "orderOf", "(I)I"⟩, 13) := ⟨⟨by decide +kernel, by decide +kernel⟩, List.mem_of_getElem? (i := 304) (by decide +kernel), List.mem_of_getElem? (i := 395) (by decide +kernel), List.mem_of_getElem? (i := 396) (by decide +kernel)⟩
theorem lw_p15 : lw_okq (⟨"RecurrentSeriesModel", "isIn", "(I)Z"⟩, 13) := ⟨⟨by decide +kernel, by decide +kernel⟩, List.mem_of_getElem? (i := 304) (by decide +kernel), List.mem_of_getElem? (i := 399) (by decide +kernel), List.mem_of_getElem? (i := 400) (by decide +kernel)⟩
def lw_privs_1 : List (MethodName × Nat) := [(⟨"RecurrentSeries", "numberFor", "(I)I"⟩, 9), (⟨"RecurrentSeries", "othersFit", "(I)Z"⟩, 9), (⟨"RecurrentSeries", "enlist", "(I)I"⟩, 9), (⟨"RecurrentSeries$Finder", "mend", "(JII)V"⟩, 3), (⟨"RecurrentSeries$Finder", "keepUnmended", "()V"⟩, 3), (⟨"RecurrentSeries", "isListed", "(I)Z"⟩, 9), (⟨"RecurrentSeries$Seeker", "load", "(LRecurrentSeries$Series;)V"⟩, 5), (⟨"RecurrentSeries$Seeker", "halve", "(II)V"⟩, 5), (⟨"RecurrentSeries$Seeker", "timesMirrored", "([JII)J"⟩, 5), (⟨"RecurrentSeriesModel", "settle", "(I)I"⟩, 13), (⟨"RecurrentSeriesModel", "ask", "(IIII)V"⟩, 13), (⟨"RecurrentSeriesModel", "solve", "(II)Z"⟩, 13), (⟨"RecurrentSeriesModel", "swapRows", "(III)V"⟩, 13), (⟨"RecurrentSeriesModel", "clean", "(IIII)V"⟩, 13), (⟨"RecurrentSeriesModel", "orderOf", "(I)I"⟩, 13), (⟨"RecurrentSeriesModel", "isIn", "(I)Z"⟩, 13)]
theorem lw_r1 : ∀ q ∈ lw_privs_1, lw_okq q := List.forall_mem_cons.mpr ⟨lw_p0, List.forall_mem_cons.mpr ⟨lw_p1, List.forall_mem_cons.mpr ⟨lw_p2, List.forall_mem_cons.mpr ⟨lw_p3, List.forall_mem_cons.mpr ⟨lw_p4, List.forall_mem_cons.mpr ⟨lw_p5, List.forall_mem_cons.mpr ⟨lw_p6, List.forall_mem_cons.mpr ⟨lw_p7, List.forall_mem_cons.mpr ⟨lw_p8, List.forall_mem_cons.mpr ⟨lw_p9, List.forall_mem_cons.mpr ⟨lw_p10, List.forall_mem_cons.mpr ⟨lw_p11, List.forall_mem_cons.mpr ⟨lw_p12, List.forall_mem_cons.mpr ⟨lw_p13, List.forall_mem_cons.mpr ⟨lw_p14, List.forall_mem_cons.mpr ⟨lw_p15, fun _ h => absurd h List.not_mem_nil⟩⟩⟩⟩⟩⟩⟩⟩⟩⟩⟩⟩⟩⟩⟩⟩
theorem lw_p16 : lw_okq (⟨"RecurrentSeriesModel", "refusal", "(ZI)I"⟩, 13) := ⟨⟨by decide +kernel, by decide +kernel⟩, List.mem_of_getElem? (i := 304) (by decide +kernel), List.mem_of_getElem? (i := 403) (by decide +kernel), List.mem_of_getElem? (i := 404) (by decide +kernel)⟩
theorem lw_p17 : lw_okq (⟨"RecurrentSeriesModel", "expand", "(III)V"⟩, 13) := ⟨⟨by decide +kernel, by decide +kernel⟩, List.mem_of_getElem? (i := 304) (by decide +kernel), List.mem_of_getElem? (i := 407) (by decide +kernel), List.mem_of_getElem? (i := 408) (by decide +kernel)⟩
theorem lw_p18 : lw_okq (⟨"RecurrentSeriesModel", "makeStep", "(II)V"⟩, 13) := ⟨⟨by decide +kernel, by decide +kernel⟩, List.mem_of_getElem? (i := 304) (by decide +kernel), List.mem_of_getElem? (i := 464) (by decide +kernel), List.mem_of_getElem? (i := 465) (by decide +kernel)⟩
theorem lw_p19 : lw_okq (⟨"RecurrentSeriesModel", "applyStep", "(I)V"⟩, 13) := ⟨⟨by decide +kernel, by decide +kernel⟩, List.mem_of_getElem? (i := 304) (by decide +kernel), List.mem_of_getElem? (i := 468) (by decide +kernel), List.mem_of_getElem? (i := 469) (by decide +kernel)⟩
theorem lw_p20 : lw_okq (⟨"RecurrentSeriesModel", "squareStep", "(I)V"⟩, 13) := ⟨⟨by decide +kernel, by decide +kernel⟩, List.mem_of_getElem? (i := 304) (by decide +kernel), List.mem_of_getElem? (i := 472) (by decide +kernel), List.mem_of_getElem? (i := 473) (by decide +kernel)⟩
def lw_privs_2 : List (MethodName × Nat) := [(⟨"RecurrentSeriesModel", "refusal", "(ZI)I"⟩, 13), (⟨"RecurrentSeriesModel", "expand", "(III)V"⟩, 13), (⟨"RecurrentSeriesModel", "makeStep", "(II)V"⟩, 13), (⟨"RecurrentSeriesModel", "applyStep", "(I)V"⟩, 13), (⟨"RecurrentSeriesModel", "squareStep", "(I)V"⟩, 13)]
theorem lw_r2 : ∀ q ∈ lw_privs_2, lw_okq q := List.forall_mem_cons.mpr ⟨lw_p16, List.forall_mem_cons.mpr ⟨lw_p17, List.forall_mem_cons.mpr ⟨lw_p18, List.forall_mem_cons.mpr ⟨lw_p19, List.forall_mem_cons.mpr ⟨lw_p20, fun _ h => absurd h List.not_mem_nil⟩⟩⟩⟩⟩
def lw_privs : List (MethodName × Nat) := lw_privs_1 ++ (lw_privs_2)
def lw_tbl : List Cond := k2_sels lw_privs ++ tables_1
theorem lw_privs_ok : ∀ q ∈ lw_privs, lw_okq q := by
  show ∀ q ∈ lw_privs_1 ++ (lw_privs_2), lw_okq q
  exact List.forall_mem_append.mpr ⟨lw_r1, lw_r2⟩
end
section
/-! Names: classes with their fields in the order of the slots, methods with their code, types and rooms -/
def zT_rs : u_T := fun k => match k with
  | 0 => ("RecurrentSeries", "list", "[LRecurrentSeries$Series;", true)
  | 1 => ("RecurrentSeries", "row", "[J", true)
  | 2 => ("RecurrentSeries", "made", "[J", true)
  | 3 => ("RecurrentSeries", "walk", "[J", true)
  | 4 => ("RecurrentSeries", "finder", "LRecurrentSeries$Finder;", true)
  | 5 => ("RecurrentSeries", "seeker", "LRecurrentSeries$Seeker;", true)
  | 6 => ("RecurrentSeries", "divider", "LRecurrentSeries$Divider;", true)
  | 7 => ("RecurrentSeries", "listed", "I", false)
  | _ => ("RecurrentSeries", "given", "I", false)
def zY_rs : Nat → FieldType := fun k => match k with
  | 0 => .array (.object "RecurrentSeries$Series")
  | 1 => .array .long
  | 2 => .array .long
  | 3 => .array .long
  | 4 => .object "RecurrentSeries$Finder"
  | 5 => .object "RecurrentSeries$Seeker"
  | 6 => .object "RecurrentSeries$Divider"
  | 7 => .int
  | _ => .int
theorem zY_rs_ok : ∀ k, k < 9 → parseFieldDescriptor (zT_rs k).2.2.1 = some (zY_rs k) := by decide +kernel
theorem zT_rs_nm : ∀ a, a < 9 → ∀ b, b < 9 → a ≠ b → (zT_rs a).2.1 ≠ (zT_rs b).2.1 := by decide +kernel
def zT_se : u_T := fun k => match k with
  | 0 => ("RecurrentSeries$Series", "order", "I", false)
  | 1 => ("RecurrentSeries$Series", "coefficients", "[J", true)
  | _ => ("RecurrentSeries$Series", "terms", "[J", true)
def zY_se : Nat → FieldType := fun k => match k with
  | 0 => .int
  | 1 => .array .long
  | _ => .array .long
theorem zY_se_ok : ∀ k, k < 3 → parseFieldDescriptor (zT_se k).2.2.1 = some (zY_se k) := by decide +kernel
theorem zT_se_nm : ∀ a, a < 3 → ∀ b, b < 3 → a ≠ b → (zT_se a).2.1 ≠ (zT_se b).2.1 := by decide +kernel
def zT_fi : u_T := fun k => match k with
  | 0 => ("RecurrentSeries$Finder", "now", "[J", false)
  | 1 => ("RecurrentSeries$Finder", "before", "[J", false)
  | _ => ("RecurrentSeries$Finder", "spare", "[J", false)
def zY_fi : Nat → FieldType := fun k => match k with
  | 0 => .array .long
  | 1 => .array .long
  | _ => .array .long
theorem zY_fi_ok : ∀ k, k < 3 → parseFieldDescriptor (zT_fi k).2.2.1 = some (zY_fi k) := by decide +kernel
theorem zT_fi_nm : ∀ a, a < 3 → ∀ b, b < 3 → a ≠ b → (zT_fi a).2.1 ≠ (zT_fi b).2.1 := by decide +kernel
def zT_sk : u_T := fun k => match k with
  | 0 => ("RecurrentSeries$Seeker", "top", "[J", false)
  | 1 => ("RecurrentSeries$Seeker", "bottom", "[J", false)
  | 2 => ("RecurrentSeries$Seeker", "nextTop", "[J", false)
  | 3 => ("RecurrentSeries$Seeker", "nextBottom", "[J", false)
  | _ => ("RecurrentSeries$Seeker", "mirrored", "[J", true)
def zY_sk : Nat → FieldType := fun k => match k with
  | 0 => .array .long
  | 1 => .array .long
  | 2 => .array .long
  | 3 => .array .long
  | _ => .array .long
theorem zY_sk_ok : ∀ k, k < 5 → parseFieldDescriptor (zT_sk k).2.2.1 = some (zY_sk k) := by decide +kernel
theorem zT_sk_nm : ∀ a, a < 5 → ∀ b, b < 5 → a ≠ b → (zT_sk a).2.1 ≠ (zT_sk b).2.1 := by decide +kernel
def zT_dv : u_T := fun k => match k with
  | 0 => ("RecurrentSeries$Divider", "first", "[J", true)
  | _ => ("RecurrentSeries$Divider", "second", "[J", true)
def zY_dv : Nat → FieldType := fun k => match k with
  | 0 => .array .long
  | _ => .array .long
theorem zY_dv_ok : ∀ k, k < 2 → parseFieldDescriptor (zT_dv k).2.2.1 = some (zY_dv k) := by decide +kernel
theorem zT_dv_nm : ∀ a, a < 2 → ∀ b, b < 2 → a ≠ b → (zT_dv a).2.1 ≠ (zT_dv b).2.1 := by decide +kernel
def zT_mo : u_T := fun k => match k with
  | 0 => ("RecurrentSeriesModel", "size", "I", false)
  | 1 => ("RecurrentSeriesModel", "given", "I", false)
  | 2 => ("RecurrentSeriesModel", "row", "[J", true)
  | 3 => ("RecurrentSeriesModel", "orders", "[I", true)
  | 4 => ("RecurrentSeriesModel", "coefs", "[J", true)
  | 5 => ("RecurrentSeriesModel", "firsts", "[J", true)
  | 6 => ("RecurrentSeriesModel", "t", "[J", true)
  | 7 => ("RecurrentSeriesModel", "grid", "[J", true)
  | 8 => ("RecurrentSeriesModel", "pivot", "[I", true)
  | 9 => ("RecurrentSeriesModel", "step", "[J", true)
  | 10 => ("RecurrentSeriesModel", "square", "[J", true)
  | 11 => ("RecurrentSeriesModel", "vector", "[J", true)
  | _ => ("RecurrentSeriesModel", "moved", "[J", true)
def zY_mo : Nat → FieldType := fun k => match k with
  | 0 => .int
  | 1 => .int
  | 2 => .array .long
  | 3 => .array .int
  | 4 => .array .long
  | 5 => .array .long
  | 6 => .array .long
  | 7 => .array .long
  | 8 => .array .int
  | 9 => .array .long
  | 10 => .array .long
  | 11 => .array .long
  | _ => .array .long
theorem zY_mo_ok : ∀ k, k < 13 → parseFieldDescriptor (zT_mo k).2.2.1 = some (zY_mo k) := by decide +kernel
theorem zT_mo_nm : ∀ a, a < 13 → ∀ b, b < 13 → a ≠ b → (zT_mo a).2.1 ≠ (zT_mo b).2.1 := by decide +kernel
abbrev zCl : List vw_C := [("RecurrentSeries", zT_rs, 9), ("RecurrentSeries$Series", zT_se, 3), ("RecurrentSeries$Finder", zT_fi, 3), ("RecurrentSeries$Seeker", zT_sk, 5), ("RecurrentSeries$Divider", zT_dv, 2), ("RecurrentSeriesModel", zT_mo, 13)]
abbrev zMI : Type := MethodName × ByteArray × Nat × Option FieldType × Room
abbrev m_rs_init : zMI := (⟨"RecurrentSeries", "<init>", "()V"⟩, prog_1_method_1_code, 2, none, { frames := 2, cells := 77, slots := 5514, locals := 40 })
abbrev m_rs_give : zMI := (⟨"RecurrentSeries", "give", "(I)Z"⟩, prog_1_method_2_code, 2, some FieldType.boolean, { frames := 1, cells := 0, slots := 0, locals := 22 })
abbrev m_rs_clear : zMI := (⟨"RecurrentSeries", "clear", "()I"⟩, prog_1_method_3_code, 2, some FieldType.int, { frames := 0, cells := 0, slots := 0, locals := 0 })
abbrev m_rs_leaf : zMI := (⟨"RecurrentSeries", "leaf", "(I)I"⟩, prog_1_method_4_code, 4, some FieldType.int, { frames := 4, cells := 0, slots := 0, locals := 107 })
abbrev m_rs_combine : zMI := (⟨"RecurrentSeries", "combine", "(IIII)I"⟩, prog_1_method_5_code, 14, some FieldType.int, { frames := 4, cells := 0, slots := 0, locals := 107 })
abbrev m_rs_product : zMI := (⟨"RecurrentSeries", "product", "(II)I"⟩, prog_1_method_6_code, 11, some FieldType.int, { frames := 4, cells := 0, slots := 0, locals := 107 })
abbrev m_rs_pairwise : zMI := (⟨"RecurrentSeries", "pairwise", "(II)I"⟩, prog_1_method_7_code, 8, some FieldType.int, { frames := 4, cells := 0, slots := 0, locals := 107 })
abbrev m_rs_derivative : zMI := (⟨"RecurrentSeries", "derivative", "(I)I"⟩, prog_1_method_8_code, 6, some FieldType.int, { frames := 4, cells := 0, slots := 0, locals := 107 })
abbrev m_rs_tail : zMI := (⟨"RecurrentSeries", "tail", "(I)I"⟩, prog_1_method_9_code, 6, some FieldType.int, { frames := 4, cells := 0, slots := 0, locals := 107 })
abbrev m_rs_delay : zMI := (⟨"RecurrentSeries", "delay", "(I)I"⟩, prog_1_method_10_code, 6, some FieldType.int, { frames := 4, cells := 0, slots := 0, locals := 107 })
abbrev m_rs_sums : zMI := (⟨"RecurrentSeries", "sums", "(I)I"⟩, prog_1_method_11_code, 8, some FieldType.int, { frames := 4, cells := 0, slots := 0, locals := 107 })
abbrev m_rs_section : zMI := (⟨"RecurrentSeries", "section", "(III)I"⟩, prog_1_method_12_code, 8, some FieldType.int, { frames := 4, cells := 0, slots := 0, locals := 107 })
abbrev m_rs_spread : zMI := (⟨"RecurrentSeries", "spread", "(II)I"⟩, prog_1_method_13_code, 7, some FieldType.int, { frames := 4, cells := 0, slots := 0, locals := 107 })
abbrev m_rs_forget : zMI := (⟨"RecurrentSeries", "forget", "()Z"⟩, prog_1_method_14_code, 1, some FieldType.boolean, { frames := 0, cells := 0, slots := 0, locals := 0 })
abbrev m_rs_count : zMI := (⟨"RecurrentSeries", "count", "()I"⟩, prog_1_method_15_code, 1, some FieldType.int, { frames := 0, cells := 0, slots := 0, locals := 0 })
abbrev m_rs_order : zMI := (⟨"RecurrentSeries", "order", "(I)I"⟩, prog_1_method_16_code, 2, some FieldType.int, { frames := 1, cells := 0, slots := 0, locals := 21 })
abbrev m_rs_coefficient : zMI := (⟨"RecurrentSeries", "coefficient", "(II)I"⟩, prog_1_method_17_code, 3, some FieldType.int, { frames := 1, cells := 0, slots := 0, locals := 21 })
abbrev m_rs_term : zMI := (⟨"RecurrentSeries", "term", "(IJ)I"⟩, prog_1_method_18_code, 4, some FieldType.int, { frames := 4, cells := 0, slots := 0, locals := 99 })
abbrev m_rs_differ : zMI := (⟨"RecurrentSeries", "differ", "(II)I"⟩, prog_1_method_19_code, 6, some FieldType.int, { frames := 1, cells := 0, slots := 0, locals := 21 })
abbrev m_rs_obeys : zMI := (⟨"RecurrentSeries", "obeys", "(I)Z"⟩, prog_1_method_20_code, 4, some FieldType.boolean, { frames := 2, cells := 0, slots := 0, locals := 51 })
abbrev m_rs_shared : zMI := (⟨"RecurrentSeries", "shared", "(II)I"⟩, prog_1_method_21_code, 5, some FieldType.int, { frames := 4, cells := 0, slots := 0, locals := 109 })
abbrev m_rs_isListed : zMI := (⟨"RecurrentSeries", "isListed", "(I)Z"⟩, prog_1_method_22_code, 2, some FieldType.boolean, { frames := 0, cells := 0, slots := 0, locals := 0 })
abbrev m_rs_numberFor : zMI := (⟨"RecurrentSeries", "numberFor", "(I)I"⟩, prog_1_method_23_code, 2, some FieldType.int, { frames := 0, cells := 0, slots := 0, locals := 0 })
abbrev m_rs_othersFit : zMI := (⟨"RecurrentSeries", "othersFit", "(I)Z"⟩, prog_1_method_24_code, 3, some FieldType.boolean, { frames := 2, cells := 0, slots := 0, locals := 51 })
abbrev m_rs_enlist : zMI := (⟨"RecurrentSeries", "enlist", "(I)I"⟩, prog_1_method_25_code, 4, some FieldType.int, { frames := 3, cells := 0, slots := 0, locals := 84 })
abbrev m_mo_init : zMI := (⟨"RecurrentSeriesModel", "<init>", "()V"⟩, prog_8_method_1_code, 1, none, { frames := 1, cells := 11, slots := 7020, locals := 20 })
abbrev m_mo_number : zMI := (⟨"RecurrentSeriesModel", "number", "(I)J"⟩, prog_8_method_2_code, 3, some FieldType.long, { frames := 0, cells := 0, slots := 0, locals := 0 })
abbrev m_mo_inverse : zMI := (⟨"RecurrentSeriesModel", "inverse", "(J)J"⟩, prog_8_method_3_code, 8, some FieldType.long, { frames := 0, cells := 0, slots := 0, locals := 0 })
abbrev m_mo_isIn : zMI := (⟨"RecurrentSeriesModel", "isIn", "(I)Z"⟩, prog_8_method_4_code, 2, some FieldType.boolean, { frames := 0, cells := 0, slots := 0, locals := 0 })
abbrev m_mo_expand : zMI := (⟨"RecurrentSeriesModel", "expand", "(III)V"⟩, prog_8_method_5_code, 9, none, { frames := 0, cells := 0, slots := 0, locals := 0 })
abbrev m_mo_ask : zMI := (⟨"RecurrentSeriesModel", "ask", "(IIII)V"⟩, prog_8_method_6_code, 8, none, { frames := 0, cells := 0, slots := 0, locals := 0 })
abbrev m_mo_swapRows : zMI := (⟨"RecurrentSeriesModel", "swapRows", "(III)V"⟩, prog_8_method_7_code, 7, none, { frames := 0, cells := 0, slots := 0, locals := 0 })
abbrev m_mo_clean : zMI := (⟨"RecurrentSeriesModel", "clean", "(IIII)V"⟩, prog_8_method_8_code, 13, none, { frames := 1, cells := 0, slots := 0, locals := 27 })
abbrev m_mo_solve : zMI := (⟨"RecurrentSeriesModel", "solve", "(II)Z"⟩, prog_8_method_9_code, 6, some FieldType.boolean, { frames := 2, cells := 0, slots := 0, locals := 59 })
abbrev m_mo_settle : zMI := (⟨"RecurrentSeriesModel", "settle", "(I)I"⟩, prog_8_method_10_code, 4, some FieldType.int, { frames := 3, cells := 0, slots := 0, locals := 84 })
abbrev m_mo_give : zMI := (⟨"RecurrentSeriesModel", "give", "(I)Z"⟩, prog_8_method_11_code, 2, some FieldType.boolean, { frames := 1, cells := 0, slots := 0, locals := 22 })
abbrev m_mo_clear : zMI := (⟨"RecurrentSeriesModel", "clear", "()I"⟩, prog_8_method_12_code, 2, some FieldType.int, { frames := 0, cells := 0, slots := 0, locals := 0 })
abbrev m_mo_leaf : zMI := (⟨"RecurrentSeriesModel", "leaf", "(I)I"⟩, prog_8_method_13_code, 6, some FieldType.int, { frames := 4, cells := 0, slots := 0, locals := 107 })
abbrev m_mo_refusal : zMI := (⟨"RecurrentSeriesModel", "refusal", "(ZI)I"⟩, prog_8_method_14_code, 3, some FieldType.int, { frames := 0, cells := 0, slots := 0, locals := 0 })
abbrev m_mo_orderOf : zMI := (⟨"RecurrentSeriesModel", "orderOf", "(I)I"⟩, prog_8_method_15_code, 2, some FieldType.int, { frames := 1, cells := 0, slots := 0, locals := 21 })
abbrev m_mo_combine : zMI := (⟨"RecurrentSeriesModel", "combine", "(IIII)I"⟩, prog_8_method_16_code, 12, some FieldType.int, { frames := 4, cells := 0, slots := 0, locals := 107 })
abbrev m_mo_product : zMI := (⟨"RecurrentSeriesModel", "product", "(II)I"⟩, prog_8_method_17_code, 9, some FieldType.int, { frames := 4, cells := 0, slots := 0, locals := 107 })
abbrev m_mo_pairwise : zMI := (⟨"RecurrentSeriesModel", "pairwise", "(II)I"⟩, prog_8_method_18_code, 6, some FieldType.int, { frames := 4, cells := 0, slots := 0, locals := 107 })
abbrev m_mo_derivative : zMI := (⟨"RecurrentSeriesModel", "derivative", "(I)I"⟩, prog_8_method_19_code, 5, some FieldType.int, { frames := 4, cells := 0, slots := 0, locals := 107 })
abbrev m_mo_tail : zMI := (⟨"RecurrentSeriesModel", "tail", "(I)I"⟩, prog_8_method_20_code, 2, some FieldType.int, { frames := 5, cells := 0, slots := 0, locals := 133 })
abbrev m_mo_delay : zMI := (⟨"RecurrentSeriesModel", "delay", "(I)I"⟩, prog_8_method_21_code, 5, some FieldType.int, { frames := 4, cells := 0, slots := 0, locals := 107 })
abbrev m_mo_sums : zMI := (⟨"RecurrentSeriesModel", "sums", "(I)I"⟩, prog_8_method_22_code, 7, some FieldType.int, { frames := 4, cells := 0, slots := 0, locals := 107 })
abbrev m_mo_section : zMI := (⟨"RecurrentSeriesModel", "section", "(III)I"⟩, prog_8_method_23_code, 7, some FieldType.int, { frames := 4, cells := 0, slots := 0, locals := 107 })
abbrev m_mo_spread : zMI := (⟨"RecurrentSeriesModel", "spread", "(II)I"⟩, prog_8_method_24_code, 7, some FieldType.int, { frames := 4, cells := 0, slots := 0, locals := 107 })
abbrev m_mo_forget : zMI := (⟨"RecurrentSeriesModel", "forget", "()Z"⟩, prog_8_method_25_code, 1, some FieldType.boolean, { frames := 0, cells := 0, slots := 0, locals := 0 })
abbrev m_mo_count : zMI := (⟨"RecurrentSeriesModel", "count", "()I"⟩, prog_8_method_26_code, 1, some FieldType.int, { frames := 0, cells := 0, slots := 0, locals := 0 })
abbrev m_mo_order : zMI := (⟨"RecurrentSeriesModel", "order", "(I)I"⟩, prog_8_method_27_code, 2, some FieldType.int, { frames := 1, cells := 0, slots := 0, locals := 21 })
abbrev m_mo_coefficient : zMI := (⟨"RecurrentSeriesModel", "coefficient", "(II)I"⟩, prog_8_method_28_code, 3, some FieldType.int, { frames := 2, cells := 0, slots := 0, locals := 42 })
abbrev m_mo_makeStep : zMI := (⟨"RecurrentSeriesModel", "makeStep", "(II)V"⟩, prog_8_method_29_code, 5, none, { frames := 0, cells := 0, slots := 0, locals := 0 })
abbrev m_mo_applyStep : zMI := (⟨"RecurrentSeriesModel", "applyStep", "(I)V"⟩, prog_8_method_30_code, 6, none, { frames := 0, cells := 0, slots := 0, locals := 0 })
abbrev m_mo_squareStep : zMI := (⟨"RecurrentSeriesModel", "squareStep", "(I)V"⟩, prog_8_method_31_code, 7, none, { frames := 0, cells := 0, slots := 0, locals := 0 })
abbrev m_mo_term : zMI := (⟨"RecurrentSeriesModel", "term", "(IJ)I"⟩, prog_8_method_32_code, 7, some FieldType.int, { frames := 1, cells := 0, slots := 0, locals := 26 })
abbrev m_mo_differ : zMI := (⟨"RecurrentSeriesModel", "differ", "(II)I"⟩, prog_8_method_33_code, 5, some FieldType.int, { frames := 1, cells := 0, slots := 0, locals := 28 })
abbrev m_mo_obeys : zMI := (⟨"RecurrentSeriesModel", "obeys", "(I)Z"⟩, prog_8_method_34_code, 6, some FieldType.boolean, { frames := 1, cells := 0, slots := 0, locals := 28 })
abbrev m_mo_shared : zMI := (⟨"RecurrentSeriesModel", "shared", "(II)I"⟩, prog_8_method_35_code, 6, some FieldType.int, { frames := 3, cells := 0, slots := 0, locals := 84 })
abbrev m_dv_init : zMI := (⟨"RecurrentSeries$Divider", "<init>", "()V"⟩, prog_2_method_1_code, 1, none, { frames := 1, cells := 2, slots := 98, locals := 20 })
abbrev m_dv_commonDegree : zMI := (⟨"RecurrentSeries$Divider", "commonDegree", "(LRecurrentSeries$Series;LRecurrentSeries$Series;)I"⟩, prog_2_method_2_code, 10, some FieldType.int, { frames := 3, cells := 0, slots := 0, locals := 80 })
abbrev m_dv_load : zMI := (⟨"RecurrentSeries$Divider", "load", "([JLRecurrentSeries$Series;)V"⟩, prog_2_method_3_code, 3, none, { frames := 1, cells := 0, slots := 0, locals := 23 })
abbrev m_dv_reduce : zMI := (⟨"RecurrentSeries$Divider", "reduce", "([JI[JI)I"⟩, prog_2_method_4_code, 11, some FieldType.int, { frames := 2, cells := 0, slots := 0, locals := 50 })
abbrev m_fi_init : zMI := (⟨"RecurrentSeries$Finder", "<init>", "()V"⟩, prog_3_method_1_code, 1, none, { frames := 1, cells := 3, slots := 144, locals := 20 })
abbrev m_fi_find : zMI := (⟨"RecurrentSeries$Finder", "find", "([JILRecurrentSeries$Series;)V"⟩, prog_3_method_2_code, 14, none, { frames := 2, cells := 0, slots := 0, locals := 51 })
abbrev m_fi_mend : zMI := (⟨"RecurrentSeries$Finder", "mend", "(JII)V"⟩, prog_3_method_3_code, 6, none, { frames := 1, cells := 0, slots := 0, locals := 23 })
abbrev m_fi_keepUnmended : zMI := (⟨"RecurrentSeries$Finder", "keepUnmended", "()V"⟩, prog_3_method_4_code, 2, none, { frames := 0, cells := 0, slots := 0, locals := 0 })
abbrev m_fi_erase : zMI := (⟨"RecurrentSeries$Finder", "erase", "([J)V"⟩, prog_3_method_5_code, 2, none, { frames := 0, cells := 0, slots := 0, locals := 0 })
abbrev m_nu_of : zMI := (⟨"RecurrentSeries$Numbers", "of", "(I)J"⟩, prog_4_method_2_code, 3, some FieldType.long, { frames := 0, cells := 0, slots := 0, locals := 0 })
abbrev m_nu_plus : zMI := (⟨"RecurrentSeries$Numbers", "plus", "(JJ)J"⟩, prog_4_method_3_code, 4, some FieldType.long, { frames := 0, cells := 0, slots := 0, locals := 0 })
abbrev m_nu_minus : zMI := (⟨"RecurrentSeries$Numbers", "minus", "(JJ)J"⟩, prog_4_method_4_code, 4, some FieldType.long, { frames := 0, cells := 0, slots := 0, locals := 0 })
abbrev m_nu_times : zMI := (⟨"RecurrentSeries$Numbers", "times", "(JJ)J"⟩, prog_4_method_5_code, 4, some FieldType.long, { frames := 0, cells := 0, slots := 0, locals := 0 })
abbrev m_nu_plusTimes : zMI := (⟨"RecurrentSeries$Numbers", "plusTimes", "(JJJ)J"⟩, prog_4_method_6_code, 6, some FieldType.long, { frames := 0, cells := 0, slots := 0, locals := 0 })
abbrev m_nu_inverse : zMI := (⟨"RecurrentSeries$Numbers", "inverse", "(J)J"⟩, prog_4_method_7_code, 8, some FieldType.long, { frames := 1, cells := 0, slots := 0, locals := 23 })
abbrev m_nu_foretold : zMI := (⟨"RecurrentSeries$Numbers", "foretold", "([JI[JI)J"⟩, prog_4_method_8_code, 7, some FieldType.long, { frames := 1, cells := 0, slots := 0, locals := 25 })
abbrev m_sk_init : zMI := (⟨"RecurrentSeries$Seeker", "<init>", "()V"⟩, prog_5_method_1_code, 1, none, { frames := 1, cells := 5, slots := 245, locals := 20 })
abbrev m_sk_seek : zMI := (⟨"RecurrentSeries$Seeker", "seek", "(LRecurrentSeries$Series;J)J"⟩, prog_5_method_2_code, 5, some FieldType.long, { frames := 3, cells := 0, slots := 0, locals := 75 })
abbrev m_sk_load : zMI := (⟨"RecurrentSeries$Seeker", "load", "(LRecurrentSeries$Series;)V"⟩, prog_5_method_3_code, 5, none, { frames := 2, cells := 0, slots := 0, locals := 51 })
abbrev m_sk_halve : zMI := (⟨"RecurrentSeries$Seeker", "halve", "(II)V"⟩, prog_5_method_4_code, 4, none, { frames := 2, cells := 0, slots := 0, locals := 51 })
abbrev m_sk_timesMirrored : zMI := (⟨"RecurrentSeries$Seeker", "timesMirrored", "([JII)J"⟩, prog_5_method_5_code, 7, some FieldType.long, { frames := 1, cells := 0, slots := 0, locals := 25 })
abbrev m_se_init : zMI := (⟨"RecurrentSeries$Series", "<init>", "()V"⟩, prog_6_method_1_code, 1, none, { frames := 1, cells := 2, slots := 136, locals := 20 })
abbrev m_se_writeTerms : zMI := (⟨"RecurrentSeries$Series", "writeTerms", "([JI)V"⟩, prog_6_method_2_code, 4, none, { frames := 2, cells := 0, slots := 0, locals := 51 })
abbrev m_ma_max : zMI := (⟨"java/lang/Math", "max", "(II)I"⟩, prog_9_method_65_code, 2, some FieldType.int, { frames := 0, cells := 0, slots := 0, locals := 0 })
end
section
/-! The walk's own judgement. A method is named by a tuple (its name, code, locals, type, room); the words of every method are the same, TB; the world is a function from places to cells: place i lies at address b + i, an array class is named by a number (0: ints, 1: longs, 2: Series). Z M Po kc ks n σ pc lv st: from pc, with locals lv, stack st and the world σ of n cells, the method comes to its end with Po. Ct M avs n σ Po: its contract. -/

abbrev zWd : Type := Nat → va_E
abbrev mY (M : zMI) : MethodName := M.1
abbrev mB (M : zMI) : ByteArray := M.2.1
abbrev mL (M : zMI) : Nat := M.2.2.1
abbrev mT (M : zMI) : Option FieldType := M.2.2.2.1
abbrev mR (M : zMI) : Room := M.2.2.2.2
def TB : List Cond := lw_tbl.filter goodWord
def zIsNest : Cond → Bool
  | .fieldLinkNest .. => true
  | .methodLinkNest .. => true
  | .arrayOver (.object _) => true
  | _ => false
def NB : List Cond := tables_1.filter zIsNest
def mW (M : zMI) : List Cond := .code (mY M) (mB M) (mL M) (mT M) :: TB
theorem mW_tb {M : zMI} {w : Cond} (h : w ∈ TB) : w ∈ mW M := List.mem_cons_of_mem _ h
theorem TB_in {w : Cond} (h : w ∈ lw_tbl) (hg : goodWord w = true) : w ∈ TB := List.mem_filter.mpr ⟨h, hg⟩
theorem NB_in {w : Cond} (h : w ∈ tables_1) (hg : zIsNest w = true) : w ∈ NB := List.mem_filter.mpr ⟨h, hg⟩
theorem mW_good {M M' : zMI} (h : Cond.code (mY M') (mB M') (mL M') (mT M') ∈ TB) : GoodIn (mW M) (mW M') := by
  intro w hw
  have hT : w ∈ TB := by
    rcases List.mem_cons.mp hw with rfl | hw
    · exact h
    · exact hw
  exact ⟨mW_tb hT, good_of_word (List.mem_filter.mp hT).2⟩
theorem NB_warm {s U : State} (hW : s.WarmedH U.vm) (h : ∀ w ∈ NB, va_Nw w s) : ∀ w ∈ NB, va_Nw w U := by
  intro w hw
  have h1 := h w hw
  have h2 := (List.mem_filter.mp hw).2
  cases w with
  | fieldLinkNest => exact va_Nw.warmF hW h1
  | methodLinkNest => exact va_Nw.warmM hW h1
  | arrayOver t => cases t <;> first | exact va_AO.moved hW.alike h1 | cases h2
  | _ => cases h2
theorem NB_same {s U : State} (hW : s.vm = U.vm) (h : ∀ w ∈ NB, va_Nw w s) : ∀ w ∈ NB, va_Nw w U := by
  intro w hw
  have h1 := h w hw
  have h2 := (List.mem_filter.mp hw).2
  cases w with
  | fieldLinkNest => exact va_Nw.same rfl hW h1
  | methodLinkNest => exact va_Nw.same rfl hW h1
  | arrayOver t => cases t <;> first | exact va_AO.moved (by rw [hW]; exact Vm.Alike.refl _) h1 | cases h2
  | _ => cases h2
/-- values and cells of the world as they lie in the heap -/
def zv (b : Nat) : Value → Value
  | .ref i => .ref (b + i)
  | v => v
theorem zv_cat (b : Nat) (v : Value) : (zv b v).category = v.category := by cases v <;> rfl
def ze (b : Nat) (G : Nat → ClassId) : va_E → va_E
  | .inl (t, n, .inr (.inr (.inr (.inr f)))) => .inl (G t, n, .inr (.inr (.inr (.inr (fun j => (f j).map (b + ·))))))
  | .inl (t, a) => .inl (G t, a)
  | .inr (c, fs) => .inr (c, fs.map (zv b))
def zN (N : Nat) (g : Nat → Nat) : va_E := .inl (1, N, .inr (.inl fun j => lN (g j)))
def zI (N : Nat) (f : Nat → Int32) : va_E := .inl (0, N, .inl f)
def zR (N : Nat) (f : Nat → Option Nat) : va_E := .inl (2, N, .inr (.inr (.inr (.inr f))))
def zO (c : Nat) (fs : List Value) : va_E := .inr (c, fs)
theorem ze_N (b : Nat) (G : Nat → ClassId) (N : Nat) (g : Nat → Nat) : ze b G (zN N g) = .inl (G 1, N, .inr (.inl fun j => lN (g j))) := rfl
theorem ze_I (b : Nat) (G : Nat → ClassId) (N : Nat) (f : Nat → Int32) : ze b G (zI N f) = .inl (G 0, N, .inl f) := rfl
theorem ze_R (b : Nat) (G : Nat → ClassId) (N : Nat) (f : Nat → Option Nat) : ze b G (zR N f) = .inl (G 2, N, .inr (.inr (.inr (.inr (fun j => (f j).map (b + ·)))))) := rfl
theorem ze_O (b : Nat) (G : Nat → ClassId) (c : Nat) (fs : List Value) : ze b G (zO c fs) = .inr (c, fs.map (zv b)) := rfl
def zw (b : Nat) (G : Nat → ClassId) (n : Nat) (σ : zWd) : va_W := (List.range n).map (fun i => (b + i, ze b G (σ i)))
theorem zw_at {b : Nat} {G : Nat → ClassId} {n : Nat} {σ : zWd} {i : Nat} (h : i < n) : (zw b G n σ)[i]? = some (b + i, ze b G (σ i)) := by
  simp [zw, h]
theorem zw_of {b : Nat} {G : Nat → ClassId} {n : Nat} {σ : zWd} {i : Nat} {q : Nat × va_E} (h : (zw b G n σ)[i]? = some q) : i < n ∧ q = (b + i, ze b G (σ i)) := by
  have hl : i < n := by
    have := (List.getElem?_eq_some_iff.mp h).1
    simpa [zw] using this
  rw [zw_at hl] at h
  exact ⟨hl, (Option.some.inj h).symm⟩
theorem zw_set {b : Nat} {G : Nat → ClassId} {n : Nat} {σ : zWd} {i : Nat} {e : va_E} : (zw b G n σ).set i (b + i, ze b G e) = zw b G n (va_up σ i e) := by
  apply List.ext_getElem?
  intro j
  by_cases hj : j < n
  · rw [zw_at hj, List.getElem?_set]
    have hl : (zw b G n σ).length = n := by simp [zw]
    by_cases hij : i = j
    · subst hij
      rw [if_pos rfl, if_pos (by rw [hl]; exact hj)]
      simp [va_up]
    · rw [if_neg hij, zw_at hj]
      have : ¬ j = i := fun z => hij z.symm
      simp [va_up, this]
  · rw [List.getElem?_eq_none (by simp [zw]; omega), List.getElem?_eq_none (by simp [zw]; omega)]
theorem zw_push {b : Nat} {G : Nat → ClassId} {n : Nat} {σ : zWd} {e : va_E} : zw b G n σ ++ [(b + n, ze b G e)] = zw b G (n + 1) (va_up σ n e) := by
  apply List.ext_getElem?
  intro j
  have hl : (zw b G n σ).length = n := by simp [zw]
  by_cases hj : j < n
  · rw [List.getElem?_append_left (by rw [hl]; exact hj), zw_at hj, zw_at (by omega)]
    have : ¬ j = n := by omega
    simp [va_up, this]
  · by_cases hjn : j = n
    · subst hjn
      rw [List.getElem?_append_right (by omega), zw_at (by omega), hl, Nat.sub_self]
      simp [va_up]
    · rw [List.getElem?_eq_none (by simp [zw]; omega), List.getElem?_eq_none (by simp [zw]; omega)]
theorem zw_D {b : Nat} {G : Nat → ClassId} {n : Nat} {σ : zWd} : va_D (fun q => b ≤ q) (zw b G n σ) := by
  refine ⟨fun i j p q hi hj h => ?_, fun k q hk => ?_⟩
  · obtain ⟨-, rfl⟩ := zw_of hi
    obtain ⟨-, rfl⟩ := zw_of hj
    have : b + i = b + j := h
    omega
  · obtain ⟨-, rfl⟩ := zw_of hk
    exact Nat.le_add_right b k
theorem zw_P {b : Nat} {G : Nat → ClassId} {D : va_G} {cl : List vw_C} {n : Nat} {σ : zWd} {H : Heap} (h : va_P D cl (zw b G n σ) H) {i : Nat} (hi : i < n) : va_at D cl (b + i, ze b G (σ i)) H := h i _ (zw_at hi)
def zt (G : Nat → ClassId) : List (ClassId × FieldType) := [(G 0, .int), (G 1, .long), (G 2, .object "RecurrentSeries$Series")]
/-- locals -/
def zn2 : Option Value → Bool
  | some v => v.category != 2
  | none => true
def zkb : List (Option Value) → Nat → Bool
  | _, 0 => true
  | lv, i + 1 => match lv[i]? with
    | some o => zn2 o
    | none => true
def zl (b : Nat) (ls : Array Slot) (nL : Nat) (lv : List (Option Value)) : Prop := ls.size = nL ∧ lv_wf ls ∧ lv.length ≤ nL ∧ ∀ (i : Nat) (v : Value), lv[i]? = some (some v) → ls[i]? = some (.val (zv b v))
def zp (b : Nat) (lv : List (Option Value)) : List (Nat × Value) := (List.range lv.length).filterMap (fun i => (lv[i]?.join).map (fun v => (i, zv b v)))
theorem zp_in {b : Nat} {lv : List (Option Value)} {j : Nat} {x : Value} : (j, x) ∈ zp b lv ↔ ∃ v, lv[j]? = some (some v) ∧ x = zv b v := by
  constructor
  · intro h
    obtain ⟨i, hi, he⟩ := List.mem_filterMap.mp h
    cases hv : lv[i]? with
    | none => rw [hv] at he; cases he
    | some o =>
      cases o with
      | none => rw [hv] at he; cases he
      | some v =>
        rw [hv] at he
        cases he
        exact ⟨v, hv, rfl⟩
  · rintro ⟨v, hv, rfl⟩
    refine List.mem_filterMap.mpr ⟨j, List.mem_range.mpr ?_, by rw [hv]; rfl⟩
    exact (List.getElem?_eq_some_iff.mp hv).1
theorem zl_has {b : Nat} {ls : Array Slot} {nL : Nat} {lv : List (Option Value)} (h : zl b ls nL lv) : lv_has ls nL (zp b lv) := by
  refine ⟨h.1, h.2.1, fun q hq => ?_⟩
  obtain ⟨v, hv, hx⟩ := zp_in.mp (show (q.1, q.2) ∈ zp b lv from hq)
  rw [hx]
  exact h.2.2.2 _ _ hv
theorem zkb_use {lv : List (Option Value)} {i j : Nat} {v : Value} (h : zkb lv i = true) (hj : j + 1 = i) (hv : lv[j]? = some (some v)) : v.category ≠ 2 := by
  subst hj
  simp only [zkb, hv, zn2] at h
  simpa using h
theorem zl_set1 {b : Nat} {ls ls' : Array Slot} {nL i : Nat} {lv : List (Option Value)} {x : Value} (h : zl b ls nL lv) (hi : i < lv.length) (hk : zkb lv i = true)
    (h' : lv_has ls' nL ((i, zv b x) :: (zp b lv).filter (fun q => !(q.1 == i) && !(q.1 + 1 == i && q.2.category == 2)))) : zl b ls' nL (lv.set i (some x)) := by
  refine ⟨h'.1, h'.2.1, by rw [List.length_set]; exact h.2.2.1, fun j v hj => ?_⟩
  by_cases hji : i = j
  · subst hji
    rw [List.getElem?_set_self hi] at hj
    cases hj
    exact h'.2.2 (i, zv b x) List.mem_cons_self
  · rw [List.getElem?_set_ne hji] at hj
    refine h'.2.2 (j, zv b v) (List.mem_cons_of_mem _ (List.mem_filter.mpr ⟨zp_in.mpr ⟨v, hj, rfl⟩, ?_⟩))
    have h1 : ¬ j = i := fun z => hji z.symm
    simp only [Bool.and_eq_true, Bool.not_eq_true', beq_eq_false_iff_ne, ne_eq, Bool.and_eq_false_iff, zv_cat]
    refine ⟨h1, ?_⟩
    by_cases h2 : j + 1 = i
    · exact Or.inr (zkb_use hk h2 hj)
    · exact Or.inl h2
theorem zl_set2 {b : Nat} {ls ls' : Array Slot} {nL i : Nat} {lv : List (Option Value)} {x : Value} (h : zl b ls nL lv) (hi : i + 1 < lv.length) (hk : zkb lv i = true)
    (h' : lv_has ls' nL ((i, zv b x) :: (zp b lv).filter (fun q => !(q.1 == i) && (!(q.1 == i + 1) && !(q.1 + 1 == i && q.2.category == 2))))) : zl b ls' nL ((lv.set i (some x)).set (i + 1) none) := by
  refine ⟨h'.1, h'.2.1, by rw [List.length_set, List.length_set]; exact h.2.2.1, fun j v hj => ?_⟩
  by_cases hj1 : i + 1 = j
  · subst hj1
    rw [List.getElem?_set_self (by rw [List.length_set]; exact hi)] at hj
    cases hj
  · rw [List.getElem?_set_ne hj1] at hj
    by_cases hji : i = j
    · subst hji
      rw [List.getElem?_set_self (by omega)] at hj
      cases hj
      exact h'.2.2 (i, zv b x) List.mem_cons_self
    · rw [List.getElem?_set_ne hji] at hj
      refine h'.2.2 (j, zv b v) (List.mem_cons_of_mem _ (List.mem_filter.mpr ⟨zp_in.mpr ⟨v, hj, rfl⟩, ?_⟩))
      have h1 : ¬ j = i := fun z => hji z.symm
      have h3 : ¬ j = i + 1 := fun z => hj1 z.symm
      simp only [Bool.and_eq_true, Bool.not_eq_true', beq_eq_false_iff_ne, ne_eq, Bool.and_eq_false_iff, zv_cat]
      refine ⟨h1, h3, ?_⟩
      by_cases h2 : j + 1 = i
      · exact Or.inr (zkb_use hk h2 hj)
      · exact Or.inl h2
def zE : List Value → List (Option Value)
  | [] => []
  | v :: vs => if v.category = 2 then some v :: none :: zE vs else some v :: zE vs
theorem zE_in {b : Nat} : ∀ (avs : List Value) (o i : Nat) (v : Value), (zE avs)[i]? = some (some v) → (o + i, zv b v) ∈ lv_args o (avs.map (zv b))
  | [], o, i, v, h => by simp [zE] at h
  | a :: avs, o, i, v, h => by
    simp only [List.map_cons, lv_args, zv_cat]
    by_cases hc : a.category = 2
    · rw [zE, if_pos hc] at h
      rw [if_pos hc]
      match i, h with
      | 0, h =>
        cases h
        exact List.mem_cons_self
      | 1, h => cases h
      | i + 2, h =>
        have h1 : (zE avs)[i]? = some (some v) := h
        have h2 := zE_in (b := b) avs (o + 2) i v h1
        rw [show o + (i + 2) = o + 2 + i by omega]
        exact List.mem_cons_of_mem _ h2
    · rw [zE, if_neg hc] at h
      rw [if_neg hc]
      match i, h with
      | 0, h =>
        cases h
        exact List.mem_cons_self
      | i + 1, h =>
        have h1 : (zE avs)[i]? = some (some v) := h
        have h2 := zE_in (b := b) avs (o + 1) i v h1
        rw [show o + (i + 1) = o + 1 + i by omega]
        exact List.mem_cons_of_mem _ h2
theorem zE_len {b : Nat} : ∀ (avs : List Value), (lg_sl (avs.map (zv b))).length = (zE avs).length
  | [] => rfl
  | a :: avs => by
    have ih := zE_len (b := b) avs
    simp only [lg_sl, List.map_cons, List.flatMap_cons, List.length_append] at ih ⊢
    rw [ih, zv_cat]
    by_cases hc : a.category = 2
    · rw [zE, if_pos hc, if_pos hc]
      simp only [List.length_cons, List.length_nil]
      omega
    · rw [zE, if_neg hc, if_neg hc]
      simp only [List.length_cons, List.length_nil]
      omega
/-- the judgement -/
def zCx (M : zMI) (b : Nat) (G : Nat → ClassId) (D : va_G) (p : Program) (s : State) (m : MethodId) (args : Array Value) (meth : Method) (c : Code) : Prop :=
  p.tables.exec = Jvm.exec ∧ c.code = mB M ∧ c.maxLocals = mL M ∧ s.vm.findClass (mY M).cls = some m.cls ∧ (∀ w ∈ mW M, w.before args s = true) ∧ (∀ w ∈ NB, va_Nw w s) ∧ meth.sig.returnType = mT M ∧ meth.locks = false ∧ va_K D zCl (zt G) s ∧ b ≤ s.heap.size ∧ ((mY M).name = "<init>" → meth.name = "<init>")
theorem zCx.tb {M : zMI} {b : Nat} {G : Nat → ClassId} {D : va_G} {p : Program} {s : State} {m : MethodId} {args : Array Value} {meth : Method} {c : Code} (h : zCx M b G D p s m args meth c) {w : Cond} (hw : w ∈ TB) : w.before args s = true := h.2.2.2.2.1 w (mW_tb hw)
theorem zCx.nb {M : zMI} {b : Nat} {G : Nat → ClassId} {D : va_G} {p : Program} {s : State} {m : MethodId} {args : Array Value} {meth : Method} {c : Code} (h : zCx M b G D p s m args meth c) {w : Cond} (hw : w ∈ NB) : va_Nw w s := h.2.2.2.2.2.1 w hw
theorem zCx.k {M : zMI} {b : Nat} {G : Nat → ClassId} {D : va_G} {p : Program} {s : State} {m : MethodId} {args : Array Value} {meth : Method} {c : Code} (h : zCx M b G D p s m args meth c) : va_K D zCl (zt G) s := h.2.2.2.2.2.2.2.2.1
def zQc (b : Nat) (G : Nat → ClassId) (D : va_G) (Po : Option Value → Nat → zWd → Prop) : Array Value → State → Outcome → State → Prop := fun _ st oc t =>
  (∃ (r : Option Value) (n' : Nat) (σ' : zWd), oc = .returned (r.map (zv b)) ∧ Po r n' σ' ∧ t.heap.size = b + n' ∧ va_P D zCl (zw b G n' σ') t.heap) ∧ va_F (fun q => b ≤ q) st t
def zPc (b : Nat) (G : Nat → ClassId) (D : va_G) (n : Nat) (σ : zWd) (avs : List Value) : Array Value → State → Prop :=
  va_Pc (avs.map (zv b)) (fun U => U.heap.size = b + n ∧ va_P D zCl (zw b G n σ) U.heap ∧ va_K D zCl (zt G) U ∧ ∀ w ∈ NB, va_Nw w U)
def Z (M : zMI) (Po : Option Value → Nat → zWd → Prop) (kc ks n : Nat) (σ : zWd) (pc : Nat) (lv : List (Option Value)) (st : List Value) : Prop :=
  ∀ (p : Program) (l : Launch) (e : Env) (s : State) (m : MethodId) (args : Array Value) (below : List Frame) (meth : Method) (c : Code) (b : Nat) (G : Nat → ClassId) (D : va_G), zCx M b G D p s m args meth c →
  ∀ (H : Heap) (locs : List Loc) (ls : Array Slot), H.size = b + n → va_P D zCl (zw b G n σ) H → va_S (fun q => b ≤ q) s.heap H locs → zl b ls (mL M) lv →
    W p l e (mR M) s m args below meth c H locs kc ks (MQ below (zQc b G D Po) args s (mR M).cells (mR M).slots (fun q => b ≤ q)) (F0 m pc ls (st.map (zv b)))
def Ct (M : zMI) (avs : List Value) (n : Nat) (σ : zWd) (Po : Option Value → Nat → zWd → Prop) : Prop :=
  ∀ (l : Launch) (b : Nat) (G : Nat → ClassId) (D : va_G), Met l (mY M) (mW M) (mR M) (zPc b G D n σ avs) (zQc b G D Po) (mR M).cells (mR M).slots (fun q => b ≤ q)
theorem Ct.of {M : zMI} {avs : List Value} {n : Nat} {σ : zWd} {Po : Option Value → Nat → zWd → Prop} {lv : List (Option Value)} (k : Nat) (hy : plainName (mY M).cls = true) (he : zE avs ++ List.replicate k none = lv) (hl : lv.length ≤ mL M) (body : Z M Po 0 0 n σ 0 lv []) : Ct M avs n σ Po := by
  intro l b G D
  refine Met.ofW (cc := mB M) (maxL := mL M) (ret := mT M) hy rfl ?_
  intro p e s m args below meth c s₁ B hml hv
  obtain ⟨rfl, hsz, hP, hK, hN⟩ := hv
  have hcx : zCx M b G D p s m (avs.map (zv b)).toArray meth c := ⟨B.exec, B.bytes, hml, findClass_of_methodNamed B.named, atoms_spec (ws := mW M) B.pre, hN, B.returns, B.notSynchronized, hK, by omega, fun h => ((name_of_methodNamed B.named B.method).1).trans h⟩
  have hlen : (lg_sl (avs.map (zv b))).length ≤ mL M := by
    rw [zE_len]
    rw [← he, List.length_append] at hl
    omega
  have hh := lv_entry (avs.map (zv b)) hlen
  rw [lg_entry_eq]
  refine body p l e s m _ below meth c b G D hcx s.heap [] _ hsz hP va_S.rf ⟨hh.1, hh.2.1, hl, fun i v hi => ?_⟩
  rw [← he] at hi
  have hi2 : (zE avs)[i]? = some (some v) := by
    by_cases hz : i < (zE avs).length
    · rwa [List.getElem?_append_left hz] at hi
    · rw [List.getElem?_append_right (by omega)] at hi
      have := List.eq_of_mem_replicate (List.mem_of_getElem? hi)
      cases this
  have h3 := hh.2.2 _ (zE_in (b := b) avs 0 i v hi2)
  simpa using h3
theorem Ct.weaken {M : zMI} {avs : List Value} {n : Nat} {σ : zWd} {Po Po' : Option Value → Nat → zWd → Prop} (h : Ct M avs n σ Po) (hp : ∀ r n' σ', Po r n' σ' → Po' r n' σ') : Ct M avs n σ Po' := by
  intro l b G D p e h1 h2 h3 s m args below h4 h5 h6 h7
  obtain ⟨k, o, g1, g2, g3, ⟨⟨⟨r, n', σ', e1, e2, e3⟩, hF⟩, hL⟩⟩ := h l b G D p e h1 h2 h3 s m args below h4 h5 h6 h7
  exact ⟨k, o, g1, g2, g3, ⟨⟨⟨r, n', σ', e1, hp _ _ _ e2, e3⟩, hF⟩, hL⟩⟩

section ZR
variable {M : zMI} {Po : Option Value → Nat → zWd → Prop} {kc ks n pc q : Nat} {σ : zWd} {lv : List (Option Value)} {st : List Value}
theorem Z.eq {st' : List Value} (h : st = st') (k : Z M Po kc ks n σ pc lv st') : Z M Po kc ks n σ pc lv st := h ▸ k
theorem Z.eqw {σ' : zWd} (h : σ = σ') (k : Z M Po kc ks n σ' pc lv st) : Z M Po kc ks n σ pc lv st := h ▸ k
theorem Z.widen {kc' ks' : Nat} (h1 : kc ≤ kc') (h2 : ks ≤ ks') (k : Z M Po kc' ks' n σ pc lv st) : Z M Po kc ks n σ pc lv st := by
  intro p l e s m args below meth c b G D hC H locs ls hz hP hS hl
  exact W.widen h1 h2 (k p l e s m args below meth c b G D hC H locs ls hz hP hS hl)
theorem z_iadd {x y : Int32} (hd : decode (mB M) pc = .ok (.iadd, 1)) (hq : pc + 1 = q)  (k : Z M Po kc ks n σ q lv (.int (x + y) :: st)) : Z M Po kc ks n σ pc lv (.int y :: .int x :: st) := by
  subst hq; intro p l e s m args below meth c b G D hC H locs ls hz hP hS hl
  exact lv_iadd hC.1 hC.2.1 hd (k p l e s m args below meth c b G D hC H locs ls hz hP hS hl)
theorem z_isub {x y : Int32} (hd : decode (mB M) pc = .ok (.isub, 1)) (hq : pc + 1 = q)  (k : Z M Po kc ks n σ q lv (.int (x - y) :: st)) : Z M Po kc ks n σ pc lv (.int y :: .int x :: st) := by
  subst hq; intro p l e s m args below meth c b G D hC H locs ls hz hP hS hl
  exact lv_isub hC.1 hC.2.1 hd (k p l e s m args below meth c b G D hC H locs ls hz hP hS hl)
theorem z_imul {x y : Int32} (hd : decode (mB M) pc = .ok (.imul, 1)) (hq : pc + 1 = q)  (k : Z M Po kc ks n σ q lv (.int (x * y) :: st)) : Z M Po kc ks n σ pc lv (.int y :: .int x :: st) := by
  subst hq; intro p l e s m args below meth c b G D hC H locs ls hz hP hS hl
  exact lv_imul hC.1 hC.2.1 hd (k p l e s m args below meth c b G D hC H locs ls hz hP hS hl)
theorem z_iand {x y : Int32} (hd : decode (mB M) pc = .ok (.iand, 1)) (hq : pc + 1 = q)  (k : Z M Po kc ks n σ q lv (.int (x &&& y) :: st)) : Z M Po kc ks n σ pc lv (.int y :: .int x :: st) := by
  subst hq; intro p l e s m args below meth c b G D hC H locs ls hz hP hS hl
  exact lv_iand hC.1 hC.2.1 hd (k p l e s m args below meth c b G D hC H locs ls hz hP hS hl)
theorem z_ior {x y : Int32} (hd : decode (mB M) pc = .ok (.ior, 1)) (hq : pc + 1 = q)  (k : Z M Po kc ks n σ q lv (.int (x ||| y) :: st)) : Z M Po kc ks n σ pc lv (.int y :: .int x :: st) := by
  subst hq; intro p l e s m args below meth c b G D hC H locs ls hz hP hS hl
  exact lv_ior hC.1 hC.2.1 hd (k p l e s m args below meth c b G D hC H locs ls hz hP hS hl)
theorem z_ladd {x y : Int64} (hd : decode (mB M) pc = .ok (.ladd, 1)) (hq : pc + 1 = q)  (k : Z M Po kc ks n σ q lv (.long (x + y) :: st)) : Z M Po kc ks n σ pc lv (.long y :: .long x :: st) := by
  subst hq; intro p l e s m args below meth c b G D hC H locs ls hz hP hS hl
  exact lv_ladd hC.1 hC.2.1 hd (k p l e s m args below meth c b G D hC H locs ls hz hP hS hl)
theorem z_lsub {x y : Int64} (hd : decode (mB M) pc = .ok (.lsub, 1)) (hq : pc + 1 = q)  (k : Z M Po kc ks n σ q lv (.long (x - y) :: st)) : Z M Po kc ks n σ pc lv (.long y :: .long x :: st) := by
  subst hq; intro p l e s m args below meth c b G D hC H locs ls hz hP hS hl
  exact lv_lsub hC.1 hC.2.1 hd (k p l e s m args below meth c b G D hC H locs ls hz hP hS hl)
theorem z_lmul {x y : Int64} (hd : decode (mB M) pc = .ok (.lmul, 1)) (hq : pc + 1 = q)  (k : Z M Po kc ks n σ q lv (.long (x * y) :: st)) : Z M Po kc ks n σ pc lv (.long y :: .long x :: st) := by
  subst hq; intro p l e s m args below meth c b G D hC H locs ls hz hP hS hl
  exact lv_lmul hC.1 hC.2.1 hd (k p l e s m args below meth c b G D hC H locs ls hz hP hS hl)
theorem z_land {x y : Int64} (hd : decode (mB M) pc = .ok (.land, 1)) (hq : pc + 1 = q)  (k : Z M Po kc ks n σ q lv (.long (x &&& y) :: st)) : Z M Po kc ks n σ pc lv (.long y :: .long x :: st) := by
  subst hq; intro p l e s m args below meth c b G D hC H locs ls hz hP hS hl
  exact lv_land hC.1 hC.2.1 hd (k p l e s m args below meth c b G D hC H locs ls hz hP hS hl)
theorem z_lor {x y : Int64} (hd : decode (mB M) pc = .ok (.lor, 1)) (hq : pc + 1 = q)  (k : Z M Po kc ks n σ q lv (.long (x ||| y) :: st)) : Z M Po kc ks n σ pc lv (.long y :: .long x :: st) := by
  subst hq; intro p l e s m args below meth c b G D hC H locs ls hz hP hS hl
  exact lv_lor hC.1 hC.2.1 hd (k p l e s m args below meth c b G D hC H locs ls hz hP hS hl)
theorem z_irem {x y : Int32} (hd : decode (mB M) pc = .ok (.irem, 1)) (hq : pc + 1 = q) (hne : ¬ y = 0) (k : Z M Po kc ks n σ q lv (.int (x - x / y * y) :: st)) : Z M Po kc ks n σ pc lv (.int y :: .int x :: st) := by
  subst hq; intro p l e s m args below meth c b G D hC H locs ls hz hP hS hl
  exact lv_irem hC.1 hC.2.1 hd hne (k p l e s m args below meth c b G D hC H locs ls hz hP hS hl)
theorem z_idiv {x y : Int32} (hd : decode (mB M) pc = .ok (.idiv, 1)) (hq : pc + 1 = q) (hne : ¬ y = 0) (k : Z M Po kc ks n σ q lv (.int (x / y) :: st)) : Z M Po kc ks n σ pc lv (.int y :: .int x :: st) := by
  subst hq; intro p l e s m args below meth c b G D hC H locs ls hz hP hS hl
  exact lv_idiv hC.1 hC.2.1 hd hne (k p l e s m args below meth c b G D hC H locs ls hz hP hS hl)
theorem z_lrem {x y : Int64} (hd : decode (mB M) pc = .ok (.lrem, 1)) (hq : pc + 1 = q) (hne : ¬ y = 0) (k : Z M Po kc ks n σ q lv (.long (x - x / y * y) :: st)) : Z M Po kc ks n σ pc lv (.long y :: .long x :: st) := by
  subst hq; intro p l e s m args below meth c b G D hC H locs ls hz hP hS hl
  exact lv_lrem hC.1 hC.2.1 hd hne (k p l e s m args below meth c b G D hC H locs ls hz hP hS hl)
theorem z_i2l {x : Int32} (hd : decode (mB M) pc = .ok (.i2l, 1)) (hq : pc + 1 = q)  (k : Z M Po kc ks n σ q lv (.long (x.toInt64) :: st)) : Z M Po kc ks n σ pc lv (.int x :: st) := by
  subst hq; intro p l e s m args below meth c b G D hC H locs ls hz hP hS hl
  exact lv_i2l hC.1 hC.2.1 hd rfl (k p l e s m args below meth c b G D hC H locs ls hz hP hS hl)
theorem z_l2i {x : Int64} (hd : decode (mB M) pc = .ok (.l2i, 1)) (hq : pc + 1 = q)  (k : Z M Po kc ks n σ q lv (.int (x.toInt32) :: st)) : Z M Po kc ks n σ pc lv (.long x :: st) := by
  subst hq; intro p l e s m args below meth c b G D hC H locs ls hz hP hS hl
  exact lv_l2i hC.1 hC.2.1 hd rfl (k p l e s m args below meth c b G D hC H locs ls hz hP hS hl)
theorem z_lshr {x : Int64} {y : Int32} (hd : decode (mB M) pc = .ok (.lshr, 1)) (hq : pc + 1 = q)  (k : Z M Po kc ks n σ q lv (.long (x >>> (y.toInt64 &&& 63)) :: st)) : Z M Po kc ks n σ pc lv (.int y :: .long x :: st) := by
  subst hq; intro p l e s m args below meth c b G D hC H locs ls hz hP hS hl
  exact lv_lshr hC.1 hC.2.1 hd rfl (k p l e s m args below meth c b G D hC H locs ls hz hP hS hl)
theorem z_lshl {x : Int64} {y : Int32} (hd : decode (mB M) pc = .ok (.lshl, 1)) (hq : pc + 1 = q)  (k : Z M Po kc ks n σ q lv (.long (x <<< (y.toInt64 &&& 63)) :: st)) : Z M Po kc ks n σ pc lv (.int y :: .long x :: st) := by
  subst hq; intro p l e s m args below meth c b G D hC H locs ls hz hP hS hl
  exact lv_lshl hC.1 hC.2.1 hd rfl (k p l e s m args below meth c b G D hC H locs ls hz hP hS hl)
theorem z_lcmp {x y : Int64} (hd : decode (mB M) pc = .ok (.lcmp, 1)) (hq : pc + 1 = q)  (k : Z M Po kc ks n σ q lv (.int (lg_cmp x y) :: st)) : Z M Po kc ks n σ pc lv (.long y :: .long x :: st) := by
  subst hq; intro p l e s m args below meth c b G D hC H locs ls hz hP hS hl
  exact W.lcmp hC.1 hC.2.1 hd (k p l e s m args below meth c b G D hC H locs ls hz hP hS hl)
theorem z_iconst {i : Int} {v : Int32} (hd : decode (mB M) pc = .ok (.iconst i, 1)) (hq : pc + 1 = q) (hv : Int32.ofInt i = v) (k : Z M Po kc ks n σ q lv (.int v :: st)) : Z M Po kc ks n σ pc lv (st) := by
  subst hq; intro p l e s m args below meth c b G D hC H locs ls hz hP hS hl
  exact lv_iconst hC.1 hC.2.1 hd hv (k p l e s m args below meth c b G D hC H locs ls hz hP hS hl)
theorem z_bipush {i : Int} {v : Int32} (hd : decode (mB M) pc = .ok (.bipush i, 2)) (hq : pc + 2 = q) (hv : (Int8.ofInt i).toInt32 = v) (k : Z M Po kc ks n σ q lv (.int v :: st)) : Z M Po kc ks n σ pc lv (st) := by
  subst hq; intro p l e s m args below meth c b G D hC H locs ls hz hP hS hl
  exact lv_bipush hC.1 hC.2.1 hd hv (k p l e s m args below meth c b G D hC H locs ls hz hP hS hl)
theorem z_sipush {i : Int} {v : Int32} (hd : decode (mB M) pc = .ok (.sipush i, 3)) (hq : pc + 3 = q) (hv : (Int16.ofInt i).toInt32 = v) (k : Z M Po kc ks n σ q lv (.int v :: st)) : Z M Po kc ks n σ pc lv (st) := by
  subst hq; intro p l e s m args below meth c b G D hC H locs ls hz hP hS hl
  exact lv_sipush hC.1 hC.2.1 hd hv (k p l e s m args below meth c b G D hC H locs ls hz hP hS hl)
theorem z_lconst {i : Fin 2} {v : Int64} (hd : decode (mB M) pc = .ok (.lconst i, 1)) (hq : pc + 1 = q) (hv : Int64.ofNat (i : Nat) = v) (k : Z M Po kc ks n σ q lv (.long v :: st)) : Z M Po kc ks n σ pc lv (st) := by
  subst hq; intro p l e s m args below meth c b G D hC H locs ls hz hP hS hl
  exact lv_lconst hC.1 hC.2.1 hd hv (k p l e s m args below meth c b G D hC H locs ls hz hP hS hl)
theorem z_ldc2 {idx : Nat} {v : Int64} (hd : decode (mB M) pc = .ok (.ldc2_w idx, 3)) (hq : pc + 3 = q) (hv : Cond.constantLong (mY M).cls idx v ∈ TB) (k : Z M Po kc ks n σ q lv (.long v :: st)) : Z M Po kc ks n σ pc lv (st) := by
  subst hq; intro p l e s m args below meth c b G D hC H locs ls hz hP hS hl
  exact lv_ldc2 hC.1 hC.2.1 hC.2.2.2.1 (hC.tb hv) hd (k p l e s m args below meth c b G D hC H locs ls hz hP hS hl)
theorem z_ldc {idx : Nat} {v : Int32} (hd : decode (mB M) pc = .ok (.ldc idx, 2)) (hq : pc + 2 = q) (hv : Cond.constant (mY M).cls idx v ∈ TB) (k : Z M Po kc ks n σ q lv (.int v :: st)) : Z M Po kc ks n σ pc lv (st) := by
  subst hq; intro p l e s m args below meth c b G D hC H locs ls hz hP hS hl
  exact lv_ldc hC.1 hC.2.1 hC.2.2.2.1 (hC.tb hv) hd (k p l e s m args below meth c b G D hC H locs ls hz hP hS hl)
theorem z_dup_i {x : Int32} (hd : decode (mB M) pc = .ok (.dup, 1)) (hq : pc + 1 = q)  (k : Z M Po kc ks n σ q lv (.int x :: .int x :: st)) : Z M Po kc ks n σ pc lv (.int x :: st) := by
  subst hq; intro p l e s m args below meth c b G D hC H locs ls hz hP hS hl
  exact lv_dup hC.1 hC.2.1 hd rfl (k p l e s m args below meth c b G D hC H locs ls hz hP hS hl)
theorem z_dup_r {x : Nat} (hd : decode (mB M) pc = .ok (.dup, 1)) (hq : pc + 1 = q)  (k : Z M Po kc ks n σ q lv (.ref x :: .ref x :: st)) : Z M Po kc ks n σ pc lv (.ref x :: st) := by
  subst hq; intro p l e s m args below meth c b G D hC H locs ls hz hP hS hl
  exact lv_dup hC.1 hC.2.1 hd rfl (k p l e s m args below meth c b G D hC H locs ls hz hP hS hl)
theorem z_pop_i {x : Int32} (hd : decode (mB M) pc = .ok (.pop, 1)) (hq : pc + 1 = q)  (k : Z M Po kc ks n σ q lv (st)) : Z M Po kc ks n σ pc lv (.int x :: st) := by
  subst hq; intro p l e s m args below meth c b G D hC H locs ls hz hP hS hl
  exact lv_pop hC.1 hC.2.1 hd rfl (k p l e s m args below meth c b G D hC H locs ls hz hP hS hl)
theorem z_dup2_ir {x : Int32} {y : Nat} (hd : decode (mB M) pc = .ok (.dup2, 1)) (hq : pc + 1 = q)  (k : Z M Po kc ks n σ q lv (.int x :: .ref y :: .int x :: .ref y :: st)) : Z M Po kc ks n σ pc lv (.int x :: .ref y :: st) := by
  subst hq; intro p l e s m args below meth c b G D hC H locs ls hz hP hS hl
  exact lv_dup2_11 hC.1 hC.2.1 hd rfl rfl (k p l e s m args below meth c b G D hC H locs ls hz hP hS hl)
theorem zn_iadd {x y : Nat} (hd : decode (mB M) pc = .ok (.iadd, 1)) (hq : pc + 1 = q)  (k : Z M Po kc ks n σ q lv (.int (nI (x + y)) :: st)) : Z M Po kc ks n σ pc lv (.int (nI y) :: .int (nI x) :: st) := z_iadd hd hq (by rw [nI_add]; exact k)
theorem zn_isub {x y : Nat} (hd : decode (mB M) pc = .ok (.isub, 1)) (hq : pc + 1 = q) (h : y ≤ x) (k : Z M Po kc ks n σ q lv (.int (nI (x - y)) :: st)) : Z M Po kc ks n σ pc lv (.int (nI y) :: .int (nI x) :: st) := z_isub hd hq (by rw [pk_sub h]; exact k)
theorem zn_imul {x y : Nat} (hd : decode (mB M) pc = .ok (.imul, 1)) (hq : pc + 1 = q)  (k : Z M Po kc ks n σ q lv (.int (nI (x * y)) :: st)) : Z M Po kc ks n σ pc lv (.int (nI y) :: .int (nI x) :: st) := z_imul hd hq (by rw [pk_mul]; exact k)
theorem zn_irem {x y : Nat} (hd : decode (mB M) pc = .ok (.irem, 1)) (hq : pc + 1 = q) (hx : x < 2 ^ 31) (h0 : 0 < y) (hy : y < 2 ^ 31) (k : Z M Po kc ks n σ q lv (.int (nI (x % y)) :: st)) : Z M Po kc ks n σ pc lv (.int (nI y) :: .int (nI x) :: st) := z_irem hd hq (nI_ne0 h0 hy) (by rw [pk_rem hx h0 hy]; exact k)
theorem zn_idiv {x y : Nat} (hd : decode (mB M) pc = .ok (.idiv, 1)) (hq : pc + 1 = q) (hx : x < 2 ^ 31) (h0 : 0 < y) (hy : y < 2 ^ 31) (k : Z M Po kc ks n σ q lv (.int (nI (x / y)) :: st)) : Z M Po kc ks n σ pc lv (.int (nI y) :: .int (nI x) :: st) := z_idiv hd hq (nI_ne0 h0 hy) (by rw [pk_div hx h0 hy]; exact k)
theorem zn_ladd {x y : Nat} (hd : decode (mB M) pc = .ok (.ladd, 1)) (hq : pc + 1 = q)  (k : Z M Po kc ks n σ q lv (.long (lN (x + y)) :: st)) : Z M Po kc ks n σ pc lv (.long (lN y) :: .long (lN x) :: st) := z_ladd hd hq (by rw [lN_add]; exact k)
theorem zn_lsub {x y : Nat} (hd : decode (mB M) pc = .ok (.lsub, 1)) (hq : pc + 1 = q) (h : y ≤ x) (k : Z M Po kc ks n σ q lv (.long (lN (x - y)) :: st)) : Z M Po kc ks n σ pc lv (.long (lN y) :: .long (lN x) :: st) := z_lsub hd hq (by rw [lN_sub h]; exact k)
theorem zn_lmul {x y : Nat} (hd : decode (mB M) pc = .ok (.lmul, 1)) (hq : pc + 1 = q)  (k : Z M Po kc ks n σ q lv (.long (lN (x * y)) :: st)) : Z M Po kc ks n σ pc lv (.long (lN y) :: .long (lN x) :: st) := z_lmul hd hq (by rw [lN_mul]; exact k)
theorem z_lne0 {y : Nat} (h0 : 0 < y) (hy : y < 2 ^ 63) : ¬ lN y = 0 := fun h => by have := (pk_lEQ hy (show 0 < 2 ^ 63 by decide)).mp (h.trans (show (0 : Int64) = lN 0 from rfl)); omega
theorem zn_lrem {x y : Nat} (hd : decode (mB M) pc = .ok (.lrem, 1)) (hq : pc + 1 = q) (hx : x < 2 ^ 63) (h0 : 0 < y) (hy : y < 2 ^ 63) (k : Z M Po kc ks n σ q lv (.long (lN (x % y)) :: st)) : Z M Po kc ks n σ pc lv (.long (lN y) :: .long (lN x) :: st) := z_lrem hd hq (z_lne0 h0 hy) (by rw [pk_lRem hx h0 hy]; exact k)
theorem zn_i2l {x : Nat} (hd : decode (mB M) pc = .ok (.i2l, 1)) (hq : pc + 1 = q) (hx : x < 2 ^ 31) (k : Z M Po kc ks n σ q lv (.long (lN x) :: st)) : Z M Po kc ks n σ pc lv (.int (nI x) :: st) := z_i2l hd hq (by rw [nI_l hx]; exact k)
theorem zn_l2i {x : Nat} (hd : decode (mB M) pc = .ok (.l2i, 1)) (hq : pc + 1 = q)  (k : Z M Po kc ks n σ q lv (.int (nI x) :: st)) : Z M Po kc ks n σ pc lv (.long (lN x) :: st) := z_l2i hd hq (by rw [lN_i]; exact k)
theorem z_if_eq {x : Int32} {off : Int} {tgt : Nat} (hd : decode (mB M) pc = .ok (.ifCond .eq off, 3)) (hq : pc + 3 = q) (ht : (pc : Int) + off = (tgt : Int)) (kt : x = 0 → Z M Po kc ks n σ tgt lv st) (kf : ¬ (x = 0) → Z M Po kc ks n σ q lv st) : Z M Po kc ks n σ pc lv (.int x :: st) := by
  subst hq; intro p l e s m args below meth c b G D hC H locs ls hz hP hS hl
  exact lv_if_eq hC.1 hC.2.1 hd ht (fun hh => kt hh p l e s m args below meth c b G D hC H locs ls hz hP hS hl) (fun hh => kf hh p l e s m args below meth c b G D hC H locs ls hz hP hS hl)
theorem z_icmp_eq {x y : Int32} {off : Int} {tgt : Nat} (hd : decode (mB M) pc = .ok (.if_icmp .eq off, 3)) (hq : pc + 3 = q) (ht : (pc : Int) + off = (tgt : Int)) (kt : x = y → Z M Po kc ks n σ tgt lv st) (kf : ¬ (x = y) → Z M Po kc ks n σ q lv st) : Z M Po kc ks n σ pc lv (.int y :: .int x :: st) := by
  subst hq; intro p l e s m args below meth c b G D hC H locs ls hz hP hS hl
  exact lv_icmp_eq hC.1 hC.2.1 hd ht (fun hh => kt hh p l e s m args below meth c b G D hC H locs ls hz hP hS hl) (fun hh => kf hh p l e s m args below meth c b G D hC H locs ls hz hP hS hl)
theorem z_if_ne {x : Int32} {off : Int} {tgt : Nat} (hd : decode (mB M) pc = .ok (.ifCond .ne off, 3)) (hq : pc + 3 = q) (ht : (pc : Int) + off = (tgt : Int)) (kt : ¬ x = 0 → Z M Po kc ks n σ tgt lv st) (kf : x = 0 → Z M Po kc ks n σ q lv st) : Z M Po kc ks n σ pc lv (.int x :: st) := by
  subst hq; intro p l e s m args below meth c b G D hC H locs ls hz hP hS hl
  exact lv_if_ne hC.1 hC.2.1 hd ht (fun hh => kt hh p l e s m args below meth c b G D hC H locs ls hz hP hS hl) (fun hh => kf hh p l e s m args below meth c b G D hC H locs ls hz hP hS hl)
theorem z_icmp_ne {x y : Int32} {off : Int} {tgt : Nat} (hd : decode (mB M) pc = .ok (.if_icmp .ne off, 3)) (hq : pc + 3 = q) (ht : (pc : Int) + off = (tgt : Int)) (kt : ¬ x = y → Z M Po kc ks n σ tgt lv st) (kf : x = y → Z M Po kc ks n σ q lv st) : Z M Po kc ks n σ pc lv (.int y :: .int x :: st) := by
  subst hq; intro p l e s m args below meth c b G D hC H locs ls hz hP hS hl
  exact lv_icmp_ne hC.1 hC.2.1 hd ht (fun hh => kt hh p l e s m args below meth c b G D hC H locs ls hz hP hS hl) (fun hh => kf hh p l e s m args below meth c b G D hC H locs ls hz hP hS hl)
theorem z_if_lt {x : Int32} {off : Int} {tgt : Nat} (hd : decode (mB M) pc = .ok (.ifCond .lt off, 3)) (hq : pc + 3 = q) (ht : (pc : Int) + off = (tgt : Int)) (kt : x < 0 → Z M Po kc ks n σ tgt lv st) (kf : ¬ (x < 0) → Z M Po kc ks n σ q lv st) : Z M Po kc ks n σ pc lv (.int x :: st) := by
  subst hq; intro p l e s m args below meth c b G D hC H locs ls hz hP hS hl
  exact lv_if_lt hC.1 hC.2.1 hd ht (fun hh => kt hh p l e s m args below meth c b G D hC H locs ls hz hP hS hl) (fun hh => kf hh p l e s m args below meth c b G D hC H locs ls hz hP hS hl)
theorem z_icmp_lt {x y : Int32} {off : Int} {tgt : Nat} (hd : decode (mB M) pc = .ok (.if_icmp .lt off, 3)) (hq : pc + 3 = q) (ht : (pc : Int) + off = (tgt : Int)) (kt : x < y → Z M Po kc ks n σ tgt lv st) (kf : ¬ (x < y) → Z M Po kc ks n σ q lv st) : Z M Po kc ks n σ pc lv (.int y :: .int x :: st) := by
  subst hq; intro p l e s m args below meth c b G D hC H locs ls hz hP hS hl
  exact lv_icmp_lt hC.1 hC.2.1 hd ht (fun hh => kt hh p l e s m args below meth c b G D hC H locs ls hz hP hS hl) (fun hh => kf hh p l e s m args below meth c b G D hC H locs ls hz hP hS hl)
theorem z_if_ge {x : Int32} {off : Int} {tgt : Nat} (hd : decode (mB M) pc = .ok (.ifCond .ge off, 3)) (hq : pc + 3 = q) (ht : (pc : Int) + off = (tgt : Int)) (kt : 0 ≤ x → Z M Po kc ks n σ tgt lv st) (kf : ¬ (0 ≤ x) → Z M Po kc ks n σ q lv st) : Z M Po kc ks n σ pc lv (.int x :: st) := by
  subst hq; intro p l e s m args below meth c b G D hC H locs ls hz hP hS hl
  exact lv_if_ge hC.1 hC.2.1 hd ht (fun hh => kt hh p l e s m args below meth c b G D hC H locs ls hz hP hS hl) (fun hh => kf hh p l e s m args below meth c b G D hC H locs ls hz hP hS hl)
theorem z_icmp_ge {x y : Int32} {off : Int} {tgt : Nat} (hd : decode (mB M) pc = .ok (.if_icmp .ge off, 3)) (hq : pc + 3 = q) (ht : (pc : Int) + off = (tgt : Int)) (kt : y ≤ x → Z M Po kc ks n σ tgt lv st) (kf : ¬ (y ≤ x) → Z M Po kc ks n σ q lv st) : Z M Po kc ks n σ pc lv (.int y :: .int x :: st) := by
  subst hq; intro p l e s m args below meth c b G D hC H locs ls hz hP hS hl
  exact lv_icmp_ge hC.1 hC.2.1 hd ht (fun hh => kt hh p l e s m args below meth c b G D hC H locs ls hz hP hS hl) (fun hh => kf hh p l e s m args below meth c b G D hC H locs ls hz hP hS hl)
theorem z_if_gt {x : Int32} {off : Int} {tgt : Nat} (hd : decode (mB M) pc = .ok (.ifCond .gt off, 3)) (hq : pc + 3 = q) (ht : (pc : Int) + off = (tgt : Int)) (kt : 0 < x → Z M Po kc ks n σ tgt lv st) (kf : ¬ (0 < x) → Z M Po kc ks n σ q lv st) : Z M Po kc ks n σ pc lv (.int x :: st) := by
  subst hq; intro p l e s m args below meth c b G D hC H locs ls hz hP hS hl
  exact lv_if_gt hC.1 hC.2.1 hd ht (fun hh => kt hh p l e s m args below meth c b G D hC H locs ls hz hP hS hl) (fun hh => kf hh p l e s m args below meth c b G D hC H locs ls hz hP hS hl)
theorem z_icmp_gt {x y : Int32} {off : Int} {tgt : Nat} (hd : decode (mB M) pc = .ok (.if_icmp .gt off, 3)) (hq : pc + 3 = q) (ht : (pc : Int) + off = (tgt : Int)) (kt : y < x → Z M Po kc ks n σ tgt lv st) (kf : ¬ (y < x) → Z M Po kc ks n σ q lv st) : Z M Po kc ks n σ pc lv (.int y :: .int x :: st) := by
  subst hq; intro p l e s m args below meth c b G D hC H locs ls hz hP hS hl
  exact lv_icmp_gt hC.1 hC.2.1 hd ht (fun hh => kt hh p l e s m args below meth c b G D hC H locs ls hz hP hS hl) (fun hh => kf hh p l e s m args below meth c b G D hC H locs ls hz hP hS hl)
theorem z_if_le {x : Int32} {off : Int} {tgt : Nat} (hd : decode (mB M) pc = .ok (.ifCond .le off, 3)) (hq : pc + 3 = q) (ht : (pc : Int) + off = (tgt : Int)) (kt : x ≤ 0 → Z M Po kc ks n σ tgt lv st) (kf : ¬ (x ≤ 0) → Z M Po kc ks n σ q lv st) : Z M Po kc ks n σ pc lv (.int x :: st) := by
  subst hq; intro p l e s m args below meth c b G D hC H locs ls hz hP hS hl
  exact lv_if_le hC.1 hC.2.1 hd ht (fun hh => kt hh p l e s m args below meth c b G D hC H locs ls hz hP hS hl) (fun hh => kf hh p l e s m args below meth c b G D hC H locs ls hz hP hS hl)
theorem z_icmp_le {x y : Int32} {off : Int} {tgt : Nat} (hd : decode (mB M) pc = .ok (.if_icmp .le off, 3)) (hq : pc + 3 = q) (ht : (pc : Int) + off = (tgt : Int)) (kt : x ≤ y → Z M Po kc ks n σ tgt lv st) (kf : ¬ (x ≤ y) → Z M Po kc ks n σ q lv st) : Z M Po kc ks n σ pc lv (.int y :: .int x :: st) := by
  subst hq; intro p l e s m args below meth c b G D hC H locs ls hz hP hS hl
  exact lv_icmp_le hC.1 hC.2.1 hd ht (fun hh => kt hh p l e s m args below meth c b G D hC H locs ls hz hP hS hl) (fun hh => kf hh p l e s m args below meth c b G D hC H locs ls hz hP hS hl)
theorem zn_icmp_eq {x y : Nat} {off : Int} {tgt : Nat} (hd : decode (mB M) pc = .ok (.if_icmp .eq off, 3)) (hq : pc + 3 = q) (ht : (pc : Int) + off = (tgt : Int)) (hx : x < 2 ^ 31) (hy : y < 2 ^ 31) (kt : x = y → Z M Po kc ks n σ tgt lv st) (kf : ¬ (x = y) → Z M Po kc ks n σ q lv st) : Z M Po kc ks n σ pc lv (.int (nI y) :: .int (nI x) :: st) := z_icmp_eq hd hq ht (fun h => kt ((nI_eq hx hy).mp h)) (fun h => kf (fun g => h ((nI_eq hx hy).mpr g)))
theorem zn_icmp_lt {x y : Nat} {off : Int} {tgt : Nat} (hd : decode (mB M) pc = .ok (.if_icmp .lt off, 3)) (hq : pc + 3 = q) (ht : (pc : Int) + off = (tgt : Int)) (hx : x < 2 ^ 31) (hy : y < 2 ^ 31) (kt : x < y → Z M Po kc ks n σ tgt lv st) (kf : ¬ (x < y) → Z M Po kc ks n σ q lv st) : Z M Po kc ks n σ pc lv (.int (nI y) :: .int (nI x) :: st) := z_icmp_lt hd hq ht (fun h => kt ((nI_ltI hx hy).mp h)) (fun h => kf (fun g => h ((nI_ltI hx hy).mpr g)))
theorem zn_icmp_ge {x y : Nat} {off : Int} {tgt : Nat} (hd : decode (mB M) pc = .ok (.if_icmp .ge off, 3)) (hq : pc + 3 = q) (ht : (pc : Int) + off = (tgt : Int)) (hx : x < 2 ^ 31) (hy : y < 2 ^ 31) (kt : y ≤ x → Z M Po kc ks n σ tgt lv st) (kf : ¬ (y ≤ x) → Z M Po kc ks n σ q lv st) : Z M Po kc ks n σ pc lv (.int (nI y) :: .int (nI x) :: st) := z_icmp_ge hd hq ht (fun h => kt ((nI_leI hy hx).mp h)) (fun h => kf (fun g => h ((nI_leI hy hx).mpr g)))
theorem zn_icmp_gt {x y : Nat} {off : Int} {tgt : Nat} (hd : decode (mB M) pc = .ok (.if_icmp .gt off, 3)) (hq : pc + 3 = q) (ht : (pc : Int) + off = (tgt : Int)) (hx : x < 2 ^ 31) (hy : y < 2 ^ 31) (kt : y < x → Z M Po kc ks n σ tgt lv st) (kf : ¬ (y < x) → Z M Po kc ks n σ q lv st) : Z M Po kc ks n σ pc lv (.int (nI y) :: .int (nI x) :: st) := z_icmp_gt hd hq ht (fun h => kt ((nI_ltI hy hx).mp h)) (fun h => kf (fun g => h ((nI_ltI hy hx).mpr g)))
theorem zn_icmp_le {x y : Nat} {off : Int} {tgt : Nat} (hd : decode (mB M) pc = .ok (.if_icmp .le off, 3)) (hq : pc + 3 = q) (ht : (pc : Int) + off = (tgt : Int)) (hx : x < 2 ^ 31) (hy : y < 2 ^ 31) (kt : x ≤ y → Z M Po kc ks n σ tgt lv st) (kf : ¬ (x ≤ y) → Z M Po kc ks n σ q lv st) : Z M Po kc ks n σ pc lv (.int (nI y) :: .int (nI x) :: st) := z_icmp_le hd hq ht (fun h => kt ((nI_leI hx hy).mp h)) (fun h => kf (fun g => h ((nI_leI hx hy).mpr g)))
theorem zn_icmp_ne {x y : Nat} {off : Int} {tgt : Nat} (hd : decode (mB M) pc = .ok (.if_icmp .ne off, 3)) (hq : pc + 3 = q) (ht : (pc : Int) + off = (tgt : Int)) (hx : x < 2 ^ 31) (hy : y < 2 ^ 31) (kt : ¬ x = y → Z M Po kc ks n σ tgt lv st) (kf : x = y → Z M Po kc ks n σ q lv st) : Z M Po kc ks n σ pc lv (.int (nI y) :: .int (nI x) :: st) := z_icmp_ne hd hq ht (fun h => kt (fun g => h ((nI_eq hx hy).mpr g))) (fun h => kf ((nI_eq hx hy).mp h))
theorem z_lgN {x y : Nat} (hx : x < 2 ^ 63) (hy : y < 2 ^ 63) : lg_cmp (lN x) (lN y) = if y < x then 1 else if x = y then 0 else -1 := by
  unfold lg_cmp
  by_cases h1 : y < x
  · rw [if_pos h1, if_pos ((pk_lLT hy hx).mpr h1)]
  · rw [if_neg h1, if_neg (fun z => h1 ((pk_lLT hy hx).mp z))]
    by_cases h2 : x = y
    · subst h2; simp
    · rw [if_neg h2, if_neg (fun z => h2 ((pk_lEQ hx hy).mp z))]
theorem z_goto {off : Int} {tgt : Nat} (hd : decode (mB M) pc = .ok (.goto off, 3)) (ht : (pc : Int) + off = (tgt : Int)) (k : Z M Po kc ks n σ tgt lv st) : Z M Po kc ks n σ pc lv st := by
  intro p l e s m args below meth c b G D hC H locs ls hz hP hS hl
  exact lv_goto hC.1 hC.2.1 hd ht (k p l e s m args below meth c b G D hC H locs ls hz hP hS hl)
theorem z_iload_n {j : Fin 4} {i : Nat} {x : Int32} (hd : decode (mB M) pc = .ok (.iload_n j, 1)) (hi : (j : Nat) = i) (hv : lv[i]? = some (some (.int x))) (hq : pc + 1 = q) (k : Z M Po kc ks n σ q lv (.int x :: st)) : Z M Po kc ks n σ pc lv st := by
  subst hq; intro p l e s m args below meth c b G D hC H locs ls hz hP hS hl
  exact lv_iload_n hC.1 hC.2.1 hd hi (hl.2.2.2 _ _ hv) (k p l e s m args below meth c b G D hC H locs ls hz hP hS hl)
theorem z_iload {i : Nat} {x : Int32} (hd : decode (mB M) pc = .ok (.iload i, 2)) (hv : lv[i]? = some (some (.int x))) (hq : pc + 2 = q) (k : Z M Po kc ks n σ q lv (.int x :: st)) : Z M Po kc ks n σ pc lv st := by
  subst hq; intro p l e s m args below meth c b G D hC H locs ls hz hP hS hl
  exact lv_iload hC.1 hC.2.1 hd (hl.2.2.2 _ _ hv) (k p l e s m args below meth c b G D hC H locs ls hz hP hS hl)
theorem z_istore_n {j : Fin 4} {i : Nat} {x : Int32} (hd : decode (mB M) pc = .ok (.istore_n j, 1)) (hi : (j : Nat) = i) (hn : i < lv.length) (hk : zkb lv i = true) (hq : pc + 1 = q) (k : Z M Po kc ks n σ q (lv.set i (some (.int x))) st) : Z M Po kc ks n σ pc lv (.int x :: st) := by
  subst hq; intro p l e s m args below meth c b G D hC H locs ls hz hP hS hl
  exact lv_istore_n hC.1 hC.2.1 hd hi (zl_has hl) (Nat.lt_of_lt_of_le hn hl.2.2.1) rfl (fun ls' h' => k p l e s m args below meth c b G D hC H locs ls' hz hP hS (zl_set1 (x := .int x) hl hn hk h'))
theorem z_istore {i : Nat} {x : Int32} (hd : decode (mB M) pc = .ok (.istore i, 2)) (hn : i < lv.length) (hk : zkb lv i = true) (hq : pc + 2 = q) (k : Z M Po kc ks n σ q (lv.set i (some (.int x))) st) : Z M Po kc ks n σ pc lv (.int x :: st) := by
  subst hq; intro p l e s m args below meth c b G D hC H locs ls hz hP hS hl
  exact lv_istore hC.1 hC.2.1 hd (zl_has hl) (Nat.lt_of_lt_of_le hn hl.2.2.1) rfl (fun ls' h' => k p l e s m args below meth c b G D hC H locs ls' hz hP hS (zl_set1 (x := .int x) hl hn hk h'))
theorem z_lload_n {j : Fin 4} {i : Nat} {x : Int64} (hd : decode (mB M) pc = .ok (.lload_n j, 1)) (hi : (j : Nat) = i) (hv : lv[i]? = some (some (.long x))) (hq : pc + 1 = q) (k : Z M Po kc ks n σ q lv (.long x :: st)) : Z M Po kc ks n σ pc lv st := by
  subst hq; intro p l e s m args below meth c b G D hC H locs ls hz hP hS hl
  exact lv_lload_n hC.1 hC.2.1 hd hi (hl.2.2.2 _ _ hv) (k p l e s m args below meth c b G D hC H locs ls hz hP hS hl)
theorem z_lload {i : Nat} {x : Int64} (hd : decode (mB M) pc = .ok (.lload i, 2)) (hv : lv[i]? = some (some (.long x))) (hq : pc + 2 = q) (k : Z M Po kc ks n σ q lv (.long x :: st)) : Z M Po kc ks n σ pc lv st := by
  subst hq; intro p l e s m args below meth c b G D hC H locs ls hz hP hS hl
  exact lv_lload hC.1 hC.2.1 hd (hl.2.2.2 _ _ hv) (k p l e s m args below meth c b G D hC H locs ls hz hP hS hl)
theorem z_lstore_n {j : Fin 4} {i : Nat} {x : Int64} (hd : decode (mB M) pc = .ok (.lstore_n j, 1)) (hi : (j : Nat) = i) (hn : i + 1 < lv.length) (hk : zkb lv i = true) (hq : pc + 1 = q) (k : Z M Po kc ks n σ q ((lv.set i (some (.long x))).set (i + 1) none) st) : Z M Po kc ks n σ pc lv (.long x :: st) := by
  subst hq; intro p l e s m args below meth c b G D hC H locs ls hz hP hS hl
  exact lv_lstore_n hC.1 hC.2.1 hd hi (zl_has hl) (Nat.lt_of_lt_of_le hn hl.2.2.1) rfl (fun ls' h' => k p l e s m args below meth c b G D hC H locs ls' hz hP hS (zl_set2 (x := .long x) hl hn hk h'))
theorem z_lstore {i : Nat} {x : Int64} (hd : decode (mB M) pc = .ok (.lstore i, 2)) (hn : i + 1 < lv.length) (hk : zkb lv i = true) (hq : pc + 2 = q) (k : Z M Po kc ks n σ q ((lv.set i (some (.long x))).set (i + 1) none) st) : Z M Po kc ks n σ pc lv (.long x :: st) := by
  subst hq; intro p l e s m args below meth c b G D hC H locs ls hz hP hS hl
  exact lv_lstore hC.1 hC.2.1 hd (zl_has hl) (Nat.lt_of_lt_of_le hn hl.2.2.1) rfl (fun ls' h' => k p l e s m args below meth c b G D hC H locs ls' hz hP hS (zl_set2 (x := .long x) hl hn hk h'))
theorem z_aload_n {j : Fin 4} {i : Nat} {x : Nat} (hd : decode (mB M) pc = .ok (.aload_n j, 1)) (hi : (j : Nat) = i) (hv : lv[i]? = some (some (.ref x))) (hq : pc + 1 = q) (k : Z M Po kc ks n σ q lv (.ref x :: st)) : Z M Po kc ks n σ pc lv st := by
  subst hq; intro p l e s m args below meth c b G D hC H locs ls hz hP hS hl
  exact lv_aload_n hC.1 hC.2.1 hd hi (hl.2.2.2 _ _ hv) (k p l e s m args below meth c b G D hC H locs ls hz hP hS hl)
theorem z_aload {i : Nat} {x : Nat} (hd : decode (mB M) pc = .ok (.aload i, 2)) (hv : lv[i]? = some (some (.ref x))) (hq : pc + 2 = q) (k : Z M Po kc ks n σ q lv (.ref x :: st)) : Z M Po kc ks n σ pc lv st := by
  subst hq; intro p l e s m args below meth c b G D hC H locs ls hz hP hS hl
  exact lv_aload hC.1 hC.2.1 hd (hl.2.2.2 _ _ hv) (k p l e s m args below meth c b G D hC H locs ls hz hP hS hl)
theorem z_astore_n {j : Fin 4} {i : Nat} {x : Nat} (hd : decode (mB M) pc = .ok (.astore_n j, 1)) (hi : (j : Nat) = i) (hn : i < lv.length) (hk : zkb lv i = true) (hq : pc + 1 = q) (k : Z M Po kc ks n σ q (lv.set i (some (.ref x))) st) : Z M Po kc ks n σ pc lv (.ref x :: st) := by
  subst hq; intro p l e s m args below meth c b G D hC H locs ls hz hP hS hl
  exact lv_astore_n hC.1 hC.2.1 hd hi (zl_has hl) (Nat.lt_of_lt_of_le hn hl.2.2.1) rfl (fun ls' h' => k p l e s m args below meth c b G D hC H locs ls' hz hP hS (zl_set1 (x := .ref x) hl hn hk h'))
theorem z_astore {i : Nat} {x : Nat} (hd : decode (mB M) pc = .ok (.astore i, 2)) (hn : i < lv.length) (hk : zkb lv i = true) (hq : pc + 2 = q) (k : Z M Po kc ks n σ q (lv.set i (some (.ref x))) st) : Z M Po kc ks n σ pc lv (.ref x :: st) := by
  subst hq; intro p l e s m args below meth c b G D hC H locs ls hz hP hS hl
  exact lv_astore hC.1 hC.2.1 hd (zl_has hl) (Nat.lt_of_lt_of_le hn hl.2.2.1) rfl (fun ls' h' => k p l e s m args below meth c b G D hC H locs ls' hz hP hS (zl_set1 (x := .ref x) hl hn hk h'))
theorem z_iinc {i : Nat} {x v : Int32} {d : Int} (hd : decode (mB M) pc = .ok (.iinc i d, 3)) (hv : lv[i]? = some (some (.int x))) (hx : x + Int32.ofInt d = v) (hn : i < lv.length) (hk : zkb lv i = true) (hq : pc + 3 = q) (k : Z M Po kc ks n σ q (lv.set i (some (.int v))) st) : Z M Po kc ks n σ pc lv st := by
  subst hq; intro p l e s m args below meth c b G D hC H locs ls hz hP hS hl
  obtain ⟨j, hj⟩ := List.getElem?_of_mem (zp_in (b := b).mpr ⟨_, hv, rfl⟩)
  exact lv_iinc hC.1 hC.2.1 hd (zl_has hl) hj hx (Nat.lt_of_lt_of_le hn hl.2.2.1) rfl (fun ls' h' => k p l e s m args below meth c b G D hC H locs ls' hz hP hS (zl_set1 (x := .int v) hl hn hk h'))
theorem z_ild0 {t : List (Option Value)} {x : Int32} (hd : decode (mB M) pc = .ok (.iload_n 0, 1)) (hq : pc + 1 = q) (k : Z M Po kc ks n σ q (some (.int x) :: t) (.int x :: st)) : Z M Po kc ks n σ pc (some (.int x) :: t) st := z_iload_n (i := 0) hd rfl rfl hq k
theorem z_ist0 {o : Option Value} {t : List (Option Value)} {x : Int32} (hd : decode (mB M) pc = .ok (.istore_n 0, 1)) (hq : pc + 1 = q) (k : Z M Po kc ks n σ q (some (.int x) :: t) st) : Z M Po kc ks n σ pc (o :: t) (.int x :: st) := z_istore_n (i := 0) hd rfl (by simp only [List.length_cons]; omega) rfl hq k
theorem z_lld0 {t : List (Option Value)} {x : Int64} (hd : decode (mB M) pc = .ok (.lload_n 0, 1)) (hq : pc + 1 = q) (k : Z M Po kc ks n σ q (some (.long x) :: t) (.long x :: st)) : Z M Po kc ks n σ pc (some (.long x) :: t) st := z_lload_n (i := 0) hd rfl rfl hq k
theorem z_lst0 {o o2 : Option Value} {t : List (Option Value)} {x : Int64} (hd : decode (mB M) pc = .ok (.lstore_n 0, 1)) (hq : pc + 1 = q) (k : Z M Po kc ks n σ q (some (.long x) :: none :: t) st) : Z M Po kc ks n σ pc (o :: o2 :: t) (.long x :: st) := z_lstore_n (i := 0) hd rfl (by simp only [List.length_cons]; omega) rfl hq k
theorem z_ald0 {t : List (Option Value)} {x : Nat} (hd : decode (mB M) pc = .ok (.aload_n 0, 1)) (hq : pc + 1 = q) (k : Z M Po kc ks n σ q (some (.ref x) :: t) (.ref x :: st)) : Z M Po kc ks n σ pc (some (.ref x) :: t) st := z_aload_n (i := 0) hd rfl rfl hq k
theorem z_ast0 {o : Option Value} {t : List (Option Value)} {x : Nat} (hd : decode (mB M) pc = .ok (.astore_n 0, 1)) (hq : pc + 1 = q) (k : Z M Po kc ks n σ q (some (.ref x) :: t) st) : Z M Po kc ks n σ pc (o :: t) (.ref x :: st) := z_astore_n (i := 0) hd rfl (by simp only [List.length_cons]; omega) rfl hq k
theorem zn_iinc0 {t : List (Option Value)} {x d : Nat} (hd : decode (mB M) pc = .ok (.iinc 0 (d : Int), 3)) (hq : pc + 3 = q) (k : Z M Po kc ks n σ q (some (.int (nI (x + d))) :: t) st) : Z M Po kc ks n σ pc (some (.int (nI x)) :: t) st := z_iinc (i := 0) hd rfl (show nI x + Int32.ofInt (d : Int) = nI (x + d) from nI_add x d) (by simp only [List.length_cons]; omega) rfl hq k
theorem z_ild1 {a0 : Option Value} {t : List (Option Value)} {x : Int32} (hd : decode (mB M) pc = .ok (.iload_n 1, 1)) (hq : pc + 1 = q) (k : Z M Po kc ks n σ q (a0 :: some (.int x) :: t) (.int x :: st)) : Z M Po kc ks n σ pc (a0 :: some (.int x) :: t) st := z_iload_n (i := 1) hd rfl rfl hq k
theorem z_ist1 {a0 : Option Value} {o : Option Value} {t : List (Option Value)} {x : Int32} (hd : decode (mB M) pc = .ok (.istore_n 1, 1)) (hq : pc + 1 = q) (hk : zn2 a0 = true) (k : Z M Po kc ks n σ q (a0 :: some (.int x) :: t) st) : Z M Po kc ks n σ pc (a0 :: o :: t) (.int x :: st) := z_istore_n (i := 1) hd rfl (by simp only [List.length_cons]; omega) hk hq k
theorem z_lld1 {a0 : Option Value} {t : List (Option Value)} {x : Int64} (hd : decode (mB M) pc = .ok (.lload_n 1, 1)) (hq : pc + 1 = q) (k : Z M Po kc ks n σ q (a0 :: some (.long x) :: t) (.long x :: st)) : Z M Po kc ks n σ pc (a0 :: some (.long x) :: t) st := z_lload_n (i := 1) hd rfl rfl hq k
theorem z_lst1 {a0 : Option Value} {o o2 : Option Value} {t : List (Option Value)} {x : Int64} (hd : decode (mB M) pc = .ok (.lstore_n 1, 1)) (hq : pc + 1 = q) (hk : zn2 a0 = true) (k : Z M Po kc ks n σ q (a0 :: some (.long x) :: none :: t) st) : Z M Po kc ks n σ pc (a0 :: o :: o2 :: t) (.long x :: st) := z_lstore_n (i := 1) hd rfl (by simp only [List.length_cons]; omega) hk hq k
theorem z_ald1 {a0 : Option Value} {t : List (Option Value)} {x : Nat} (hd : decode (mB M) pc = .ok (.aload_n 1, 1)) (hq : pc + 1 = q) (k : Z M Po kc ks n σ q (a0 :: some (.ref x) :: t) (.ref x :: st)) : Z M Po kc ks n σ pc (a0 :: some (.ref x) :: t) st := z_aload_n (i := 1) hd rfl rfl hq k
theorem z_ast1 {a0 : Option Value} {o : Option Value} {t : List (Option Value)} {x : Nat} (hd : decode (mB M) pc = .ok (.astore_n 1, 1)) (hq : pc + 1 = q) (hk : zn2 a0 = true) (k : Z M Po kc ks n σ q (a0 :: some (.ref x) :: t) st) : Z M Po kc ks n σ pc (a0 :: o :: t) (.ref x :: st) := z_astore_n (i := 1) hd rfl (by simp only [List.length_cons]; omega) hk hq k
theorem zn_iinc1 {a0 : Option Value} {t : List (Option Value)} {x d : Nat} (hd : decode (mB M) pc = .ok (.iinc 1 (d : Int), 3)) (hq : pc + 3 = q) (hk : zn2 a0 = true) (k : Z M Po kc ks n σ q (a0 :: some (.int (nI (x + d))) :: t) st) : Z M Po kc ks n σ pc (a0 :: some (.int (nI x)) :: t) st := z_iinc (i := 1) hd rfl (show nI x + Int32.ofInt (d : Int) = nI (x + d) from nI_add x d) (by simp only [List.length_cons]; omega) hk hq k
theorem z_ild2 {a0 a1 : Option Value} {t : List (Option Value)} {x : Int32} (hd : decode (mB M) pc = .ok (.iload_n 2, 1)) (hq : pc + 1 = q) (k : Z M Po kc ks n σ q (a0 :: a1 :: some (.int x) :: t) (.int x :: st)) : Z M Po kc ks n σ pc (a0 :: a1 :: some (.int x) :: t) st := z_iload_n (i := 2) hd rfl rfl hq k
theorem z_ist2 {a0 a1 : Option Value} {o : Option Value} {t : List (Option Value)} {x : Int32} (hd : decode (mB M) pc = .ok (.istore_n 2, 1)) (hq : pc + 1 = q) (hk : zn2 a1 = true) (k : Z M Po kc ks n σ q (a0 :: a1 :: some (.int x) :: t) st) : Z M Po kc ks n σ pc (a0 :: a1 :: o :: t) (.int x :: st) := z_istore_n (i := 2) hd rfl (by simp only [List.length_cons]; omega) hk hq k
theorem z_lld2 {a0 a1 : Option Value} {t : List (Option Value)} {x : Int64} (hd : decode (mB M) pc = .ok (.lload_n 2, 1)) (hq : pc + 1 = q) (k : Z M Po kc ks n σ q (a0 :: a1 :: some (.long x) :: t) (.long x :: st)) : Z M Po kc ks n σ pc (a0 :: a1 :: some (.long x) :: t) st := z_lload_n (i := 2) hd rfl rfl hq k
theorem z_lst2 {a0 a1 : Option Value} {o o2 : Option Value} {t : List (Option Value)} {x : Int64} (hd : decode (mB M) pc = .ok (.lstore_n 2, 1)) (hq : pc + 1 = q) (hk : zn2 a1 = true) (k : Z M Po kc ks n σ q (a0 :: a1 :: some (.long x) :: none :: t) st) : Z M Po kc ks n σ pc (a0 :: a1 :: o :: o2 :: t) (.long x :: st) := z_lstore_n (i := 2) hd rfl (by simp only [List.length_cons]; omega) hk hq k
theorem z_ald2 {a0 a1 : Option Value} {t : List (Option Value)} {x : Nat} (hd : decode (mB M) pc = .ok (.aload_n 2, 1)) (hq : pc + 1 = q) (k : Z M Po kc ks n σ q (a0 :: a1 :: some (.ref x) :: t) (.ref x :: st)) : Z M Po kc ks n σ pc (a0 :: a1 :: some (.ref x) :: t) st := z_aload_n (i := 2) hd rfl rfl hq k
theorem z_ast2 {a0 a1 : Option Value} {o : Option Value} {t : List (Option Value)} {x : Nat} (hd : decode (mB M) pc = .ok (.astore_n 2, 1)) (hq : pc + 1 = q) (hk : zn2 a1 = true) (k : Z M Po kc ks n σ q (a0 :: a1 :: some (.ref x) :: t) st) : Z M Po kc ks n σ pc (a0 :: a1 :: o :: t) (.ref x :: st) := z_astore_n (i := 2) hd rfl (by simp only [List.length_cons]; omega) hk hq k
theorem zn_iinc2 {a0 a1 : Option Value} {t : List (Option Value)} {x d : Nat} (hd : decode (mB M) pc = .ok (.iinc 2 (d : Int), 3)) (hq : pc + 3 = q) (hk : zn2 a1 = true) (k : Z M Po kc ks n σ q (a0 :: a1 :: some (.int (nI (x + d))) :: t) st) : Z M Po kc ks n σ pc (a0 :: a1 :: some (.int (nI x)) :: t) st := z_iinc (i := 2) hd rfl (show nI x + Int32.ofInt (d : Int) = nI (x + d) from nI_add x d) (by simp only [List.length_cons]; omega) hk hq k
theorem z_ild3 {a0 a1 a2 : Option Value} {t : List (Option Value)} {x : Int32} (hd : decode (mB M) pc = .ok (.iload_n 3, 1)) (hq : pc + 1 = q) (k : Z M Po kc ks n σ q (a0 :: a1 :: a2 :: some (.int x) :: t) (.int x :: st)) : Z M Po kc ks n σ pc (a0 :: a1 :: a2 :: some (.int x) :: t) st := z_iload_n (i := 3) hd rfl rfl hq k
theorem z_ist3 {a0 a1 a2 : Option Value} {o : Option Value} {t : List (Option Value)} {x : Int32} (hd : decode (mB M) pc = .ok (.istore_n 3, 1)) (hq : pc + 1 = q) (hk : zn2 a2 = true) (k : Z M Po kc ks n σ q (a0 :: a1 :: a2 :: some (.int x) :: t) st) : Z M Po kc ks n σ pc (a0 :: a1 :: a2 :: o :: t) (.int x :: st) := z_istore_n (i := 3) hd rfl (by simp only [List.length_cons]; omega) hk hq k
theorem z_lld3 {a0 a1 a2 : Option Value} {t : List (Option Value)} {x : Int64} (hd : decode (mB M) pc = .ok (.lload_n 3, 1)) (hq : pc + 1 = q) (k : Z M Po kc ks n σ q (a0 :: a1 :: a2 :: some (.long x) :: t) (.long x :: st)) : Z M Po kc ks n σ pc (a0 :: a1 :: a2 :: some (.long x) :: t) st := z_lload_n (i := 3) hd rfl rfl hq k
theorem z_lst3 {a0 a1 a2 : Option Value} {o o2 : Option Value} {t : List (Option Value)} {x : Int64} (hd : decode (mB M) pc = .ok (.lstore_n 3, 1)) (hq : pc + 1 = q) (hk : zn2 a2 = true) (k : Z M Po kc ks n σ q (a0 :: a1 :: a2 :: some (.long x) :: none :: t) st) : Z M Po kc ks n σ pc (a0 :: a1 :: a2 :: o :: o2 :: t) (.long x :: st) := z_lstore_n (i := 3) hd rfl (by simp only [List.length_cons]; omega) hk hq k
theorem z_ald3 {a0 a1 a2 : Option Value} {t : List (Option Value)} {x : Nat} (hd : decode (mB M) pc = .ok (.aload_n 3, 1)) (hq : pc + 1 = q) (k : Z M Po kc ks n σ q (a0 :: a1 :: a2 :: some (.ref x) :: t) (.ref x :: st)) : Z M Po kc ks n σ pc (a0 :: a1 :: a2 :: some (.ref x) :: t) st := z_aload_n (i := 3) hd rfl rfl hq k
theorem z_ast3 {a0 a1 a2 : Option Value} {o : Option Value} {t : List (Option Value)} {x : Nat} (hd : decode (mB M) pc = .ok (.astore_n 3, 1)) (hq : pc + 1 = q) (hk : zn2 a2 = true) (k : Z M Po kc ks n σ q (a0 :: a1 :: a2 :: some (.ref x) :: t) st) : Z M Po kc ks n σ pc (a0 :: a1 :: a2 :: o :: t) (.ref x :: st) := z_astore_n (i := 3) hd rfl (by simp only [List.length_cons]; omega) hk hq k
theorem zn_iinc3 {a0 a1 a2 : Option Value} {t : List (Option Value)} {x d : Nat} (hd : decode (mB M) pc = .ok (.iinc 3 (d : Int), 3)) (hq : pc + 3 = q) (hk : zn2 a2 = true) (k : Z M Po kc ks n σ q (a0 :: a1 :: a2 :: some (.int (nI (x + d))) :: t) st) : Z M Po kc ks n σ pc (a0 :: a1 :: a2 :: some (.int (nI x)) :: t) st := z_iinc (i := 3) hd rfl (show nI x + Int32.ofInt (d : Int) = nI (x + d) from nI_add x d) (by simp only [List.length_cons]; omega) hk hq k
theorem z_ild4 {a0 a1 a2 a3 : Option Value} {t : List (Option Value)} {x : Int32} (hd : decode (mB M) pc = .ok (.iload 4, 2)) (hq : pc + 2 = q) (k : Z M Po kc ks n σ q (a0 :: a1 :: a2 :: a3 :: some (.int x) :: t) (.int x :: st)) : Z M Po kc ks n σ pc (a0 :: a1 :: a2 :: a3 :: some (.int x) :: t) st := z_iload (i := 4) hd rfl hq k
theorem z_ist4 {a0 a1 a2 a3 : Option Value} {o : Option Value} {t : List (Option Value)} {x : Int32} (hd : decode (mB M) pc = .ok (.istore 4, 2)) (hq : pc + 2 = q) (hk : zn2 a3 = true) (k : Z M Po kc ks n σ q (a0 :: a1 :: a2 :: a3 :: some (.int x) :: t) st) : Z M Po kc ks n σ pc (a0 :: a1 :: a2 :: a3 :: o :: t) (.int x :: st) := z_istore (i := 4) hd (by simp only [List.length_cons]; omega) hk hq k
theorem z_lld4 {a0 a1 a2 a3 : Option Value} {t : List (Option Value)} {x : Int64} (hd : decode (mB M) pc = .ok (.lload 4, 2)) (hq : pc + 2 = q) (k : Z M Po kc ks n σ q (a0 :: a1 :: a2 :: a3 :: some (.long x) :: t) (.long x :: st)) : Z M Po kc ks n σ pc (a0 :: a1 :: a2 :: a3 :: some (.long x) :: t) st := z_lload (i := 4) hd rfl hq k
theorem z_lst4 {a0 a1 a2 a3 : Option Value} {o o2 : Option Value} {t : List (Option Value)} {x : Int64} (hd : decode (mB M) pc = .ok (.lstore 4, 2)) (hq : pc + 2 = q) (hk : zn2 a3 = true) (k : Z M Po kc ks n σ q (a0 :: a1 :: a2 :: a3 :: some (.long x) :: none :: t) st) : Z M Po kc ks n σ pc (a0 :: a1 :: a2 :: a3 :: o :: o2 :: t) (.long x :: st) := z_lstore (i := 4) hd (by simp only [List.length_cons]; omega) hk hq k
theorem z_ald4 {a0 a1 a2 a3 : Option Value} {t : List (Option Value)} {x : Nat} (hd : decode (mB M) pc = .ok (.aload 4, 2)) (hq : pc + 2 = q) (k : Z M Po kc ks n σ q (a0 :: a1 :: a2 :: a3 :: some (.ref x) :: t) (.ref x :: st)) : Z M Po kc ks n σ pc (a0 :: a1 :: a2 :: a3 :: some (.ref x) :: t) st := z_aload (i := 4) hd rfl hq k
theorem z_ast4 {a0 a1 a2 a3 : Option Value} {o : Option Value} {t : List (Option Value)} {x : Nat} (hd : decode (mB M) pc = .ok (.astore 4, 2)) (hq : pc + 2 = q) (hk : zn2 a3 = true) (k : Z M Po kc ks n σ q (a0 :: a1 :: a2 :: a3 :: some (.ref x) :: t) st) : Z M Po kc ks n σ pc (a0 :: a1 :: a2 :: a3 :: o :: t) (.ref x :: st) := z_astore (i := 4) hd (by simp only [List.length_cons]; omega) hk hq k
theorem zn_iinc4 {a0 a1 a2 a3 : Option Value} {t : List (Option Value)} {x d : Nat} (hd : decode (mB M) pc = .ok (.iinc 4 (d : Int), 3)) (hq : pc + 3 = q) (hk : zn2 a3 = true) (k : Z M Po kc ks n σ q (a0 :: a1 :: a2 :: a3 :: some (.int (nI (x + d))) :: t) st) : Z M Po kc ks n σ pc (a0 :: a1 :: a2 :: a3 :: some (.int (nI x)) :: t) st := z_iinc (i := 4) hd rfl (show nI x + Int32.ofInt (d : Int) = nI (x + d) from nI_add x d) (by simp only [List.length_cons]; omega) hk hq k
theorem z_ild5 {a0 a1 a2 a3 a4 : Option Value} {t : List (Option Value)} {x : Int32} (hd : decode (mB M) pc = .ok (.iload 5, 2)) (hq : pc + 2 = q) (k : Z M Po kc ks n σ q (a0 :: a1 :: a2 :: a3 :: a4 :: some (.int x) :: t) (.int x :: st)) : Z M Po kc ks n σ pc (a0 :: a1 :: a2 :: a3 :: a4 :: some (.int x) :: t) st := z_iload (i := 5) hd rfl hq k
theorem z_ist5 {a0 a1 a2 a3 a4 : Option Value} {o : Option Value} {t : List (Option Value)} {x : Int32} (hd : decode (mB M) pc = .ok (.istore 5, 2)) (hq : pc + 2 = q) (hk : zn2 a4 = true) (k : Z M Po kc ks n σ q (a0 :: a1 :: a2 :: a3 :: a4 :: some (.int x) :: t) st) : Z M Po kc ks n σ pc (a0 :: a1 :: a2 :: a3 :: a4 :: o :: t) (.int x :: st) := z_istore (i := 5) hd (by simp only [List.length_cons]; omega) hk hq k
theorem z_lld5 {a0 a1 a2 a3 a4 : Option Value} {t : List (Option Value)} {x : Int64} (hd : decode (mB M) pc = .ok (.lload 5, 2)) (hq : pc + 2 = q) (k : Z M Po kc ks n σ q (a0 :: a1 :: a2 :: a3 :: a4 :: some (.long x) :: t) (.long x :: st)) : Z M Po kc ks n σ pc (a0 :: a1 :: a2 :: a3 :: a4 :: some (.long x) :: t) st := z_lload (i := 5) hd rfl hq k
theorem z_lst5 {a0 a1 a2 a3 a4 : Option Value} {o o2 : Option Value} {t : List (Option Value)} {x : Int64} (hd : decode (mB M) pc = .ok (.lstore 5, 2)) (hq : pc + 2 = q) (hk : zn2 a4 = true) (k : Z M Po kc ks n σ q (a0 :: a1 :: a2 :: a3 :: a4 :: some (.long x) :: none :: t) st) : Z M Po kc ks n σ pc (a0 :: a1 :: a2 :: a3 :: a4 :: o :: o2 :: t) (.long x :: st) := z_lstore (i := 5) hd (by simp only [List.length_cons]; omega) hk hq k
theorem z_ald5 {a0 a1 a2 a3 a4 : Option Value} {t : List (Option Value)} {x : Nat} (hd : decode (mB M) pc = .ok (.aload 5, 2)) (hq : pc + 2 = q) (k : Z M Po kc ks n σ q (a0 :: a1 :: a2 :: a3 :: a4 :: some (.ref x) :: t) (.ref x :: st)) : Z M Po kc ks n σ pc (a0 :: a1 :: a2 :: a3 :: a4 :: some (.ref x) :: t) st := z_aload (i := 5) hd rfl hq k
theorem z_ast5 {a0 a1 a2 a3 a4 : Option Value} {o : Option Value} {t : List (Option Value)} {x : Nat} (hd : decode (mB M) pc = .ok (.astore 5, 2)) (hq : pc + 2 = q) (hk : zn2 a4 = true) (k : Z M Po kc ks n σ q (a0 :: a1 :: a2 :: a3 :: a4 :: some (.ref x) :: t) st) : Z M Po kc ks n σ pc (a0 :: a1 :: a2 :: a3 :: a4 :: o :: t) (.ref x :: st) := z_astore (i := 5) hd (by simp only [List.length_cons]; omega) hk hq k
theorem zn_iinc5 {a0 a1 a2 a3 a4 : Option Value} {t : List (Option Value)} {x d : Nat} (hd : decode (mB M) pc = .ok (.iinc 5 (d : Int), 3)) (hq : pc + 3 = q) (hk : zn2 a4 = true) (k : Z M Po kc ks n σ q (a0 :: a1 :: a2 :: a3 :: a4 :: some (.int (nI (x + d))) :: t) st) : Z M Po kc ks n σ pc (a0 :: a1 :: a2 :: a3 :: a4 :: some (.int (nI x)) :: t) st := z_iinc (i := 5) hd rfl (show nI x + Int32.ofInt (d : Int) = nI (x + d) from nI_add x d) (by simp only [List.length_cons]; omega) hk hq k
theorem z_ild6 {a0 a1 a2 a3 a4 a5 : Option Value} {t : List (Option Value)} {x : Int32} (hd : decode (mB M) pc = .ok (.iload 6, 2)) (hq : pc + 2 = q) (k : Z M Po kc ks n σ q (a0 :: a1 :: a2 :: a3 :: a4 :: a5 :: some (.int x) :: t) (.int x :: st)) : Z M Po kc ks n σ pc (a0 :: a1 :: a2 :: a3 :: a4 :: a5 :: some (.int x) :: t) st := z_iload (i := 6) hd rfl hq k
theorem z_ist6 {a0 a1 a2 a3 a4 a5 : Option Value} {o : Option Value} {t : List (Option Value)} {x : Int32} (hd : decode (mB M) pc = .ok (.istore 6, 2)) (hq : pc + 2 = q) (hk : zn2 a5 = true) (k : Z M Po kc ks n σ q (a0 :: a1 :: a2 :: a3 :: a4 :: a5 :: some (.int x) :: t) st) : Z M Po kc ks n σ pc (a0 :: a1 :: a2 :: a3 :: a4 :: a5 :: o :: t) (.int x :: st) := z_istore (i := 6) hd (by simp only [List.length_cons]; omega) hk hq k
theorem z_lld6 {a0 a1 a2 a3 a4 a5 : Option Value} {t : List (Option Value)} {x : Int64} (hd : decode (mB M) pc = .ok (.lload 6, 2)) (hq : pc + 2 = q) (k : Z M Po kc ks n σ q (a0 :: a1 :: a2 :: a3 :: a4 :: a5 :: some (.long x) :: t) (.long x :: st)) : Z M Po kc ks n σ pc (a0 :: a1 :: a2 :: a3 :: a4 :: a5 :: some (.long x) :: t) st := z_lload (i := 6) hd rfl hq k
theorem z_lst6 {a0 a1 a2 a3 a4 a5 : Option Value} {o o2 : Option Value} {t : List (Option Value)} {x : Int64} (hd : decode (mB M) pc = .ok (.lstore 6, 2)) (hq : pc + 2 = q) (hk : zn2 a5 = true) (k : Z M Po kc ks n σ q (a0 :: a1 :: a2 :: a3 :: a4 :: a5 :: some (.long x) :: none :: t) st) : Z M Po kc ks n σ pc (a0 :: a1 :: a2 :: a3 :: a4 :: a5 :: o :: o2 :: t) (.long x :: st) := z_lstore (i := 6) hd (by simp only [List.length_cons]; omega) hk hq k
theorem z_ald6 {a0 a1 a2 a3 a4 a5 : Option Value} {t : List (Option Value)} {x : Nat} (hd : decode (mB M) pc = .ok (.aload 6, 2)) (hq : pc + 2 = q) (k : Z M Po kc ks n σ q (a0 :: a1 :: a2 :: a3 :: a4 :: a5 :: some (.ref x) :: t) (.ref x :: st)) : Z M Po kc ks n σ pc (a0 :: a1 :: a2 :: a3 :: a4 :: a5 :: some (.ref x) :: t) st := z_aload (i := 6) hd rfl hq k
theorem z_ast6 {a0 a1 a2 a3 a4 a5 : Option Value} {o : Option Value} {t : List (Option Value)} {x : Nat} (hd : decode (mB M) pc = .ok (.astore 6, 2)) (hq : pc + 2 = q) (hk : zn2 a5 = true) (k : Z M Po kc ks n σ q (a0 :: a1 :: a2 :: a3 :: a4 :: a5 :: some (.ref x) :: t) st) : Z M Po kc ks n σ pc (a0 :: a1 :: a2 :: a3 :: a4 :: a5 :: o :: t) (.ref x :: st) := z_astore (i := 6) hd (by simp only [List.length_cons]; omega) hk hq k
theorem zn_iinc6 {a0 a1 a2 a3 a4 a5 : Option Value} {t : List (Option Value)} {x d : Nat} (hd : decode (mB M) pc = .ok (.iinc 6 (d : Int), 3)) (hq : pc + 3 = q) (hk : zn2 a5 = true) (k : Z M Po kc ks n σ q (a0 :: a1 :: a2 :: a3 :: a4 :: a5 :: some (.int (nI (x + d))) :: t) st) : Z M Po kc ks n σ pc (a0 :: a1 :: a2 :: a3 :: a4 :: a5 :: some (.int (nI x)) :: t) st := z_iinc (i := 6) hd rfl (show nI x + Int32.ofInt (d : Int) = nI (x + d) from nI_add x d) (by simp only [List.length_cons]; omega) hk hq k
theorem z_ild7 {a0 a1 a2 a3 a4 a5 a6 : Option Value} {t : List (Option Value)} {x : Int32} (hd : decode (mB M) pc = .ok (.iload 7, 2)) (hq : pc + 2 = q) (k : Z M Po kc ks n σ q (a0 :: a1 :: a2 :: a3 :: a4 :: a5 :: a6 :: some (.int x) :: t) (.int x :: st)) : Z M Po kc ks n σ pc (a0 :: a1 :: a2 :: a3 :: a4 :: a5 :: a6 :: some (.int x) :: t) st := z_iload (i := 7) hd rfl hq k
theorem z_ist7 {a0 a1 a2 a3 a4 a5 a6 : Option Value} {o : Option Value} {t : List (Option Value)} {x : Int32} (hd : decode (mB M) pc = .ok (.istore 7, 2)) (hq : pc + 2 = q) (hk : zn2 a6 = true) (k : Z M Po kc ks n σ q (a0 :: a1 :: a2 :: a3 :: a4 :: a5 :: a6 :: some (.int x) :: t) st) : Z M Po kc ks n σ pc (a0 :: a1 :: a2 :: a3 :: a4 :: a5 :: a6 :: o :: t) (.int x :: st) := z_istore (i := 7) hd (by simp only [List.length_cons]; omega) hk hq k
theorem z_lld7 {a0 a1 a2 a3 a4 a5 a6 : Option Value} {t : List (Option Value)} {x : Int64} (hd : decode (mB M) pc = .ok (.lload 7, 2)) (hq : pc + 2 = q) (k : Z M Po kc ks n σ q (a0 :: a1 :: a2 :: a3 :: a4 :: a5 :: a6 :: some (.long x) :: t) (.long x :: st)) : Z M Po kc ks n σ pc (a0 :: a1 :: a2 :: a3 :: a4 :: a5 :: a6 :: some (.long x) :: t) st := z_lload (i := 7) hd rfl hq k
theorem z_lst7 {a0 a1 a2 a3 a4 a5 a6 : Option Value} {o o2 : Option Value} {t : List (Option Value)} {x : Int64} (hd : decode (mB M) pc = .ok (.lstore 7, 2)) (hq : pc + 2 = q) (hk : zn2 a6 = true) (k : Z M Po kc ks n σ q (a0 :: a1 :: a2 :: a3 :: a4 :: a5 :: a6 :: some (.long x) :: none :: t) st) : Z M Po kc ks n σ pc (a0 :: a1 :: a2 :: a3 :: a4 :: a5 :: a6 :: o :: o2 :: t) (.long x :: st) := z_lstore (i := 7) hd (by simp only [List.length_cons]; omega) hk hq k
theorem z_ald7 {a0 a1 a2 a3 a4 a5 a6 : Option Value} {t : List (Option Value)} {x : Nat} (hd : decode (mB M) pc = .ok (.aload 7, 2)) (hq : pc + 2 = q) (k : Z M Po kc ks n σ q (a0 :: a1 :: a2 :: a3 :: a4 :: a5 :: a6 :: some (.ref x) :: t) (.ref x :: st)) : Z M Po kc ks n σ pc (a0 :: a1 :: a2 :: a3 :: a4 :: a5 :: a6 :: some (.ref x) :: t) st := z_aload (i := 7) hd rfl hq k
theorem z_ast7 {a0 a1 a2 a3 a4 a5 a6 : Option Value} {o : Option Value} {t : List (Option Value)} {x : Nat} (hd : decode (mB M) pc = .ok (.astore 7, 2)) (hq : pc + 2 = q) (hk : zn2 a6 = true) (k : Z M Po kc ks n σ q (a0 :: a1 :: a2 :: a3 :: a4 :: a5 :: a6 :: some (.ref x) :: t) st) : Z M Po kc ks n σ pc (a0 :: a1 :: a2 :: a3 :: a4 :: a5 :: a6 :: o :: t) (.ref x :: st) := z_astore (i := 7) hd (by simp only [List.length_cons]; omega) hk hq k
theorem zn_iinc7 {a0 a1 a2 a3 a4 a5 a6 : Option Value} {t : List (Option Value)} {x d : Nat} (hd : decode (mB M) pc = .ok (.iinc 7 (d : Int), 3)) (hq : pc + 3 = q) (hk : zn2 a6 = true) (k : Z M Po kc ks n σ q (a0 :: a1 :: a2 :: a3 :: a4 :: a5 :: a6 :: some (.int (nI (x + d))) :: t) st) : Z M Po kc ks n σ pc (a0 :: a1 :: a2 :: a3 :: a4 :: a5 :: a6 :: some (.int (nI x)) :: t) st := z_iinc (i := 7) hd rfl (show nI x + Int32.ofInt (d : Int) = nI (x + d) from nI_add x d) (by simp only [List.length_cons]; omega) hk hq k
theorem z_ild8 {a0 a1 a2 a3 a4 a5 a6 a7 : Option Value} {t : List (Option Value)} {x : Int32} (hd : decode (mB M) pc = .ok (.iload 8, 2)) (hq : pc + 2 = q) (k : Z M Po kc ks n σ q (a0 :: a1 :: a2 :: a3 :: a4 :: a5 :: a6 :: a7 :: some (.int x) :: t) (.int x :: st)) : Z M Po kc ks n σ pc (a0 :: a1 :: a2 :: a3 :: a4 :: a5 :: a6 :: a7 :: some (.int x) :: t) st := z_iload (i := 8) hd rfl hq k
theorem z_ist8 {a0 a1 a2 a3 a4 a5 a6 a7 : Option Value} {o : Option Value} {t : List (Option Value)} {x : Int32} (hd : decode (mB M) pc = .ok (.istore 8, 2)) (hq : pc + 2 = q) (hk : zn2 a7 = true) (k : Z M Po kc ks n σ q (a0 :: a1 :: a2 :: a3 :: a4 :: a5 :: a6 :: a7 :: some (.int x) :: t) st) : Z M Po kc ks n σ pc (a0 :: a1 :: a2 :: a3 :: a4 :: a5 :: a6 :: a7 :: o :: t) (.int x :: st) := z_istore (i := 8) hd (by simp only [List.length_cons]; omega) hk hq k
theorem z_lld8 {a0 a1 a2 a3 a4 a5 a6 a7 : Option Value} {t : List (Option Value)} {x : Int64} (hd : decode (mB M) pc = .ok (.lload 8, 2)) (hq : pc + 2 = q) (k : Z M Po kc ks n σ q (a0 :: a1 :: a2 :: a3 :: a4 :: a5 :: a6 :: a7 :: some (.long x) :: t) (.long x :: st)) : Z M Po kc ks n σ pc (a0 :: a1 :: a2 :: a3 :: a4 :: a5 :: a6 :: a7 :: some (.long x) :: t) st := z_lload (i := 8) hd rfl hq k
theorem z_lst8 {a0 a1 a2 a3 a4 a5 a6 a7 : Option Value} {o o2 : Option Value} {t : List (Option Value)} {x : Int64} (hd : decode (mB M) pc = .ok (.lstore 8, 2)) (hq : pc + 2 = q) (hk : zn2 a7 = true) (k : Z M Po kc ks n σ q (a0 :: a1 :: a2 :: a3 :: a4 :: a5 :: a6 :: a7 :: some (.long x) :: none :: t) st) : Z M Po kc ks n σ pc (a0 :: a1 :: a2 :: a3 :: a4 :: a5 :: a6 :: a7 :: o :: o2 :: t) (.long x :: st) := z_lstore (i := 8) hd (by simp only [List.length_cons]; omega) hk hq k
theorem z_ald8 {a0 a1 a2 a3 a4 a5 a6 a7 : Option Value} {t : List (Option Value)} {x : Nat} (hd : decode (mB M) pc = .ok (.aload 8, 2)) (hq : pc + 2 = q) (k : Z M Po kc ks n σ q (a0 :: a1 :: a2 :: a3 :: a4 :: a5 :: a6 :: a7 :: some (.ref x) :: t) (.ref x :: st)) : Z M Po kc ks n σ pc (a0 :: a1 :: a2 :: a3 :: a4 :: a5 :: a6 :: a7 :: some (.ref x) :: t) st := z_aload (i := 8) hd rfl hq k
theorem z_ast8 {a0 a1 a2 a3 a4 a5 a6 a7 : Option Value} {o : Option Value} {t : List (Option Value)} {x : Nat} (hd : decode (mB M) pc = .ok (.astore 8, 2)) (hq : pc + 2 = q) (hk : zn2 a7 = true) (k : Z M Po kc ks n σ q (a0 :: a1 :: a2 :: a3 :: a4 :: a5 :: a6 :: a7 :: some (.ref x) :: t) st) : Z M Po kc ks n σ pc (a0 :: a1 :: a2 :: a3 :: a4 :: a5 :: a6 :: a7 :: o :: t) (.ref x :: st) := z_astore (i := 8) hd (by simp only [List.length_cons]; omega) hk hq k
theorem zn_iinc8 {a0 a1 a2 a3 a4 a5 a6 a7 : Option Value} {t : List (Option Value)} {x d : Nat} (hd : decode (mB M) pc = .ok (.iinc 8 (d : Int), 3)) (hq : pc + 3 = q) (hk : zn2 a7 = true) (k : Z M Po kc ks n σ q (a0 :: a1 :: a2 :: a3 :: a4 :: a5 :: a6 :: a7 :: some (.int (nI (x + d))) :: t) st) : Z M Po kc ks n σ pc (a0 :: a1 :: a2 :: a3 :: a4 :: a5 :: a6 :: a7 :: some (.int (nI x)) :: t) st := z_iinc (i := 8) hd rfl (show nI x + Int32.ofInt (d : Int) = nI (x + d) from nI_add x d) (by simp only [List.length_cons]; omega) hk hq k
theorem z_ild9 {a0 a1 a2 a3 a4 a5 a6 a7 a8 : Option Value} {t : List (Option Value)} {x : Int32} (hd : decode (mB M) pc = .ok (.iload 9, 2)) (hq : pc + 2 = q) (k : Z M Po kc ks n σ q (a0 :: a1 :: a2 :: a3 :: a4 :: a5 :: a6 :: a7 :: a8 :: some (.int x) :: t) (.int x :: st)) : Z M Po kc ks n σ pc (a0 :: a1 :: a2 :: a3 :: a4 :: a5 :: a6 :: a7 :: a8 :: some (.int x) :: t) st := z_iload (i := 9) hd rfl hq k
theorem z_ist9 {a0 a1 a2 a3 a4 a5 a6 a7 a8 : Option Value} {o : Option Value} {t : List (Option Value)} {x : Int32} (hd : decode (mB M) pc = .ok (.istore 9, 2)) (hq : pc + 2 = q) (hk : zn2 a8 = true) (k : Z M Po kc ks n σ q (a0 :: a1 :: a2 :: a3 :: a4 :: a5 :: a6 :: a7 :: a8 :: some (.int x) :: t) st) : Z M Po kc ks n σ pc (a0 :: a1 :: a2 :: a3 :: a4 :: a5 :: a6 :: a7 :: a8 :: o :: t) (.int x :: st) := z_istore (i := 9) hd (by simp only [List.length_cons]; omega) hk hq k
theorem z_lld9 {a0 a1 a2 a3 a4 a5 a6 a7 a8 : Option Value} {t : List (Option Value)} {x : Int64} (hd : decode (mB M) pc = .ok (.lload 9, 2)) (hq : pc + 2 = q) (k : Z M Po kc ks n σ q (a0 :: a1 :: a2 :: a3 :: a4 :: a5 :: a6 :: a7 :: a8 :: some (.long x) :: t) (.long x :: st)) : Z M Po kc ks n σ pc (a0 :: a1 :: a2 :: a3 :: a4 :: a5 :: a6 :: a7 :: a8 :: some (.long x) :: t) st := z_lload (i := 9) hd rfl hq k
theorem z_lst9 {a0 a1 a2 a3 a4 a5 a6 a7 a8 : Option Value} {o o2 : Option Value} {t : List (Option Value)} {x : Int64} (hd : decode (mB M) pc = .ok (.lstore 9, 2)) (hq : pc + 2 = q) (hk : zn2 a8 = true) (k : Z M Po kc ks n σ q (a0 :: a1 :: a2 :: a3 :: a4 :: a5 :: a6 :: a7 :: a8 :: some (.long x) :: none :: t) st) : Z M Po kc ks n σ pc (a0 :: a1 :: a2 :: a3 :: a4 :: a5 :: a6 :: a7 :: a8 :: o :: o2 :: t) (.long x :: st) := z_lstore (i := 9) hd (by simp only [List.length_cons]; omega) hk hq k
theorem z_ald9 {a0 a1 a2 a3 a4 a5 a6 a7 a8 : Option Value} {t : List (Option Value)} {x : Nat} (hd : decode (mB M) pc = .ok (.aload 9, 2)) (hq : pc + 2 = q) (k : Z M Po kc ks n σ q (a0 :: a1 :: a2 :: a3 :: a4 :: a5 :: a6 :: a7 :: a8 :: some (.ref x) :: t) (.ref x :: st)) : Z M Po kc ks n σ pc (a0 :: a1 :: a2 :: a3 :: a4 :: a5 :: a6 :: a7 :: a8 :: some (.ref x) :: t) st := z_aload (i := 9) hd rfl hq k
theorem z_ast9 {a0 a1 a2 a3 a4 a5 a6 a7 a8 : Option Value} {o : Option Value} {t : List (Option Value)} {x : Nat} (hd : decode (mB M) pc = .ok (.astore 9, 2)) (hq : pc + 2 = q) (hk : zn2 a8 = true) (k : Z M Po kc ks n σ q (a0 :: a1 :: a2 :: a3 :: a4 :: a5 :: a6 :: a7 :: a8 :: some (.ref x) :: t) st) : Z M Po kc ks n σ pc (a0 :: a1 :: a2 :: a3 :: a4 :: a5 :: a6 :: a7 :: a8 :: o :: t) (.ref x :: st) := z_astore (i := 9) hd (by simp only [List.length_cons]; omega) hk hq k
theorem zn_iinc9 {a0 a1 a2 a3 a4 a5 a6 a7 a8 : Option Value} {t : List (Option Value)} {x d : Nat} (hd : decode (mB M) pc = .ok (.iinc 9 (d : Int), 3)) (hq : pc + 3 = q) (hk : zn2 a8 = true) (k : Z M Po kc ks n σ q (a0 :: a1 :: a2 :: a3 :: a4 :: a5 :: a6 :: a7 :: a8 :: some (.int (nI (x + d))) :: t) st) : Z M Po kc ks n σ pc (a0 :: a1 :: a2 :: a3 :: a4 :: a5 :: a6 :: a7 :: a8 :: some (.int (nI x)) :: t) st := z_iinc (i := 9) hd rfl (show nI x + Int32.ofInt (d : Int) = nI (x + d) from nI_add x d) (by simp only [List.length_cons]; omega) hk hq k
theorem z_ild10 {a0 a1 a2 a3 a4 a5 a6 a7 a8 a9 : Option Value} {t : List (Option Value)} {x : Int32} (hd : decode (mB M) pc = .ok (.iload 10, 2)) (hq : pc + 2 = q) (k : Z M Po kc ks n σ q (a0 :: a1 :: a2 :: a3 :: a4 :: a5 :: a6 :: a7 :: a8 :: a9 :: some (.int x) :: t) (.int x :: st)) : Z M Po kc ks n σ pc (a0 :: a1 :: a2 :: a3 :: a4 :: a5 :: a6 :: a7 :: a8 :: a9 :: some (.int x) :: t) st := z_iload (i := 10) hd rfl hq k
theorem z_ist10 {a0 a1 a2 a3 a4 a5 a6 a7 a8 a9 : Option Value} {o : Option Value} {t : List (Option Value)} {x : Int32} (hd : decode (mB M) pc = .ok (.istore 10, 2)) (hq : pc + 2 = q) (hk : zn2 a9 = true) (k : Z M Po kc ks n σ q (a0 :: a1 :: a2 :: a3 :: a4 :: a5 :: a6 :: a7 :: a8 :: a9 :: some (.int x) :: t) st) : Z M Po kc ks n σ pc (a0 :: a1 :: a2 :: a3 :: a4 :: a5 :: a6 :: a7 :: a8 :: a9 :: o :: t) (.int x :: st) := z_istore (i := 10) hd (by simp only [List.length_cons]; omega) hk hq k
theorem z_lld10 {a0 a1 a2 a3 a4 a5 a6 a7 a8 a9 : Option Value} {t : List (Option Value)} {x : Int64} (hd : decode (mB M) pc = .ok (.lload 10, 2)) (hq : pc + 2 = q) (k : Z M Po kc ks n σ q (a0 :: a1 :: a2 :: a3 :: a4 :: a5 :: a6 :: a7 :: a8 :: a9 :: some (.long x) :: t) (.long x :: st)) : Z M Po kc ks n σ pc (a0 :: a1 :: a2 :: a3 :: a4 :: a5 :: a6 :: a7 :: a8 :: a9 :: some (.long x) :: t) st := z_lload (i := 10) hd rfl hq k
theorem z_lst10 {a0 a1 a2 a3 a4 a5 a6 a7 a8 a9 : Option Value} {o o2 : Option Value} {t : List (Option Value)} {x : Int64} (hd : decode (mB M) pc = .ok (.lstore 10, 2)) (hq : pc + 2 = q) (hk : zn2 a9 = true) (k : Z M Po kc ks n σ q (a0 :: a1 :: a2 :: a3 :: a4 :: a5 :: a6 :: a7 :: a8 :: a9 :: some (.long x) :: none :: t) st) : Z M Po kc ks n σ pc (a0 :: a1 :: a2 :: a3 :: a4 :: a5 :: a6 :: a7 :: a8 :: a9 :: o :: o2 :: t) (.long x :: st) := z_lstore (i := 10) hd (by simp only [List.length_cons]; omega) hk hq k
theorem z_ald10 {a0 a1 a2 a3 a4 a5 a6 a7 a8 a9 : Option Value} {t : List (Option Value)} {x : Nat} (hd : decode (mB M) pc = .ok (.aload 10, 2)) (hq : pc + 2 = q) (k : Z M Po kc ks n σ q (a0 :: a1 :: a2 :: a3 :: a4 :: a5 :: a6 :: a7 :: a8 :: a9 :: some (.ref x) :: t) (.ref x :: st)) : Z M Po kc ks n σ pc (a0 :: a1 :: a2 :: a3 :: a4 :: a5 :: a6 :: a7 :: a8 :: a9 :: some (.ref x) :: t) st := z_aload (i := 10) hd rfl hq k
theorem z_ast10 {a0 a1 a2 a3 a4 a5 a6 a7 a8 a9 : Option Value} {o : Option Value} {t : List (Option Value)} {x : Nat} (hd : decode (mB M) pc = .ok (.astore 10, 2)) (hq : pc + 2 = q) (hk : zn2 a9 = true) (k : Z M Po kc ks n σ q (a0 :: a1 :: a2 :: a3 :: a4 :: a5 :: a6 :: a7 :: a8 :: a9 :: some (.ref x) :: t) st) : Z M Po kc ks n σ pc (a0 :: a1 :: a2 :: a3 :: a4 :: a5 :: a6 :: a7 :: a8 :: a9 :: o :: t) (.ref x :: st) := z_astore (i := 10) hd (by simp only [List.length_cons]; omega) hk hq k
theorem zn_iinc10 {a0 a1 a2 a3 a4 a5 a6 a7 a8 a9 : Option Value} {t : List (Option Value)} {x d : Nat} (hd : decode (mB M) pc = .ok (.iinc 10 (d : Int), 3)) (hq : pc + 3 = q) (hk : zn2 a9 = true) (k : Z M Po kc ks n σ q (a0 :: a1 :: a2 :: a3 :: a4 :: a5 :: a6 :: a7 :: a8 :: a9 :: some (.int (nI (x + d))) :: t) st) : Z M Po kc ks n σ pc (a0 :: a1 :: a2 :: a3 :: a4 :: a5 :: a6 :: a7 :: a8 :: a9 :: some (.int (nI x)) :: t) st := z_iinc (i := 10) hd rfl (show nI x + Int32.ofInt (d : Int) = nI (x + d) from nI_add x d) (by simp only [List.length_cons]; omega) hk hq k
theorem z_ild11 {a0 a1 a2 a3 a4 a5 a6 a7 a8 a9 a10 : Option Value} {t : List (Option Value)} {x : Int32} (hd : decode (mB M) pc = .ok (.iload 11, 2)) (hq : pc + 2 = q) (k : Z M Po kc ks n σ q (a0 :: a1 :: a2 :: a3 :: a4 :: a5 :: a6 :: a7 :: a8 :: a9 :: a10 :: some (.int x) :: t) (.int x :: st)) : Z M Po kc ks n σ pc (a0 :: a1 :: a2 :: a3 :: a4 :: a5 :: a6 :: a7 :: a8 :: a9 :: a10 :: some (.int x) :: t) st := z_iload (i := 11) hd rfl hq k
theorem z_ist11 {a0 a1 a2 a3 a4 a5 a6 a7 a8 a9 a10 : Option Value} {o : Option Value} {t : List (Option Value)} {x : Int32} (hd : decode (mB M) pc = .ok (.istore 11, 2)) (hq : pc + 2 = q) (hk : zn2 a10 = true) (k : Z M Po kc ks n σ q (a0 :: a1 :: a2 :: a3 :: a4 :: a5 :: a6 :: a7 :: a8 :: a9 :: a10 :: some (.int x) :: t) st) : Z M Po kc ks n σ pc (a0 :: a1 :: a2 :: a3 :: a4 :: a5 :: a6 :: a7 :: a8 :: a9 :: a10 :: o :: t) (.int x :: st) := z_istore (i := 11) hd (by simp only [List.length_cons]; omega) hk hq k
theorem z_lld11 {a0 a1 a2 a3 a4 a5 a6 a7 a8 a9 a10 : Option Value} {t : List (Option Value)} {x : Int64} (hd : decode (mB M) pc = .ok (.lload 11, 2)) (hq : pc + 2 = q) (k : Z M Po kc ks n σ q (a0 :: a1 :: a2 :: a3 :: a4 :: a5 :: a6 :: a7 :: a8 :: a9 :: a10 :: some (.long x) :: t) (.long x :: st)) : Z M Po kc ks n σ pc (a0 :: a1 :: a2 :: a3 :: a4 :: a5 :: a6 :: a7 :: a8 :: a9 :: a10 :: some (.long x) :: t) st := z_lload (i := 11) hd rfl hq k
theorem z_lst11 {a0 a1 a2 a3 a4 a5 a6 a7 a8 a9 a10 : Option Value} {o o2 : Option Value} {t : List (Option Value)} {x : Int64} (hd : decode (mB M) pc = .ok (.lstore 11, 2)) (hq : pc + 2 = q) (hk : zn2 a10 = true) (k : Z M Po kc ks n σ q (a0 :: a1 :: a2 :: a3 :: a4 :: a5 :: a6 :: a7 :: a8 :: a9 :: a10 :: some (.long x) :: none :: t) st) : Z M Po kc ks n σ pc (a0 :: a1 :: a2 :: a3 :: a4 :: a5 :: a6 :: a7 :: a8 :: a9 :: a10 :: o :: o2 :: t) (.long x :: st) := z_lstore (i := 11) hd (by simp only [List.length_cons]; omega) hk hq k
theorem z_ald11 {a0 a1 a2 a3 a4 a5 a6 a7 a8 a9 a10 : Option Value} {t : List (Option Value)} {x : Nat} (hd : decode (mB M) pc = .ok (.aload 11, 2)) (hq : pc + 2 = q) (k : Z M Po kc ks n σ q (a0 :: a1 :: a2 :: a3 :: a4 :: a5 :: a6 :: a7 :: a8 :: a9 :: a10 :: some (.ref x) :: t) (.ref x :: st)) : Z M Po kc ks n σ pc (a0 :: a1 :: a2 :: a3 :: a4 :: a5 :: a6 :: a7 :: a8 :: a9 :: a10 :: some (.ref x) :: t) st := z_aload (i := 11) hd rfl hq k
theorem z_ast11 {a0 a1 a2 a3 a4 a5 a6 a7 a8 a9 a10 : Option Value} {o : Option Value} {t : List (Option Value)} {x : Nat} (hd : decode (mB M) pc = .ok (.astore 11, 2)) (hq : pc + 2 = q) (hk : zn2 a10 = true) (k : Z M Po kc ks n σ q (a0 :: a1 :: a2 :: a3 :: a4 :: a5 :: a6 :: a7 :: a8 :: a9 :: a10 :: some (.ref x) :: t) st) : Z M Po kc ks n σ pc (a0 :: a1 :: a2 :: a3 :: a4 :: a5 :: a6 :: a7 :: a8 :: a9 :: a10 :: o :: t) (.ref x :: st) := z_astore (i := 11) hd (by simp only [List.length_cons]; omega) hk hq k
theorem zn_iinc11 {a0 a1 a2 a3 a4 a5 a6 a7 a8 a9 a10 : Option Value} {t : List (Option Value)} {x d : Nat} (hd : decode (mB M) pc = .ok (.iinc 11 (d : Int), 3)) (hq : pc + 3 = q) (hk : zn2 a10 = true) (k : Z M Po kc ks n σ q (a0 :: a1 :: a2 :: a3 :: a4 :: a5 :: a6 :: a7 :: a8 :: a9 :: a10 :: some (.int (nI (x + d))) :: t) st) : Z M Po kc ks n σ pc (a0 :: a1 :: a2 :: a3 :: a4 :: a5 :: a6 :: a7 :: a8 :: a9 :: a10 :: some (.int (nI x)) :: t) st := z_iinc (i := 11) hd rfl (show nI x + Int32.ofInt (d : Int) = nI (x + d) from nI_add x d) (by simp only [List.length_cons]; omega) hk hq k
theorem z_ild12 {a0 a1 a2 a3 a4 a5 a6 a7 a8 a9 a10 a11 : Option Value} {t : List (Option Value)} {x : Int32} (hd : decode (mB M) pc = .ok (.iload 12, 2)) (hq : pc + 2 = q) (k : Z M Po kc ks n σ q (a0 :: a1 :: a2 :: a3 :: a4 :: a5 :: a6 :: a7 :: a8 :: a9 :: a10 :: a11 :: some (.int x) :: t) (.int x :: st)) : Z M Po kc ks n σ pc (a0 :: a1 :: a2 :: a3 :: a4 :: a5 :: a6 :: a7 :: a8 :: a9 :: a10 :: a11 :: some (.int x) :: t) st := z_iload (i := 12) hd rfl hq k
theorem z_ist12 {a0 a1 a2 a3 a4 a5 a6 a7 a8 a9 a10 a11 : Option Value} {o : Option Value} {t : List (Option Value)} {x : Int32} (hd : decode (mB M) pc = .ok (.istore 12, 2)) (hq : pc + 2 = q) (hk : zn2 a11 = true) (k : Z M Po kc ks n σ q (a0 :: a1 :: a2 :: a3 :: a4 :: a5 :: a6 :: a7 :: a8 :: a9 :: a10 :: a11 :: some (.int x) :: t) st) : Z M Po kc ks n σ pc (a0 :: a1 :: a2 :: a3 :: a4 :: a5 :: a6 :: a7 :: a8 :: a9 :: a10 :: a11 :: o :: t) (.int x :: st) := z_istore (i := 12) hd (by simp only [List.length_cons]; omega) hk hq k
theorem z_lld12 {a0 a1 a2 a3 a4 a5 a6 a7 a8 a9 a10 a11 : Option Value} {t : List (Option Value)} {x : Int64} (hd : decode (mB M) pc = .ok (.lload 12, 2)) (hq : pc + 2 = q) (k : Z M Po kc ks n σ q (a0 :: a1 :: a2 :: a3 :: a4 :: a5 :: a6 :: a7 :: a8 :: a9 :: a10 :: a11 :: some (.long x) :: t) (.long x :: st)) : Z M Po kc ks n σ pc (a0 :: a1 :: a2 :: a3 :: a4 :: a5 :: a6 :: a7 :: a8 :: a9 :: a10 :: a11 :: some (.long x) :: t) st := z_lload (i := 12) hd rfl hq k
theorem z_lst12 {a0 a1 a2 a3 a4 a5 a6 a7 a8 a9 a10 a11 : Option Value} {o o2 : Option Value} {t : List (Option Value)} {x : Int64} (hd : decode (mB M) pc = .ok (.lstore 12, 2)) (hq : pc + 2 = q) (hk : zn2 a11 = true) (k : Z M Po kc ks n σ q (a0 :: a1 :: a2 :: a3 :: a4 :: a5 :: a6 :: a7 :: a8 :: a9 :: a10 :: a11 :: some (.long x) :: none :: t) st) : Z M Po kc ks n σ pc (a0 :: a1 :: a2 :: a3 :: a4 :: a5 :: a6 :: a7 :: a8 :: a9 :: a10 :: a11 :: o :: o2 :: t) (.long x :: st) := z_lstore (i := 12) hd (by simp only [List.length_cons]; omega) hk hq k
theorem z_ald12 {a0 a1 a2 a3 a4 a5 a6 a7 a8 a9 a10 a11 : Option Value} {t : List (Option Value)} {x : Nat} (hd : decode (mB M) pc = .ok (.aload 12, 2)) (hq : pc + 2 = q) (k : Z M Po kc ks n σ q (a0 :: a1 :: a2 :: a3 :: a4 :: a5 :: a6 :: a7 :: a8 :: a9 :: a10 :: a11 :: some (.ref x) :: t) (.ref x :: st)) : Z M Po kc ks n σ pc (a0 :: a1 :: a2 :: a3 :: a4 :: a5 :: a6 :: a7 :: a8 :: a9 :: a10 :: a11 :: some (.ref x) :: t) st := z_aload (i := 12) hd rfl hq k
theorem z_ast12 {a0 a1 a2 a3 a4 a5 a6 a7 a8 a9 a10 a11 : Option Value} {o : Option Value} {t : List (Option Value)} {x : Nat} (hd : decode (mB M) pc = .ok (.astore 12, 2)) (hq : pc + 2 = q) (hk : zn2 a11 = true) (k : Z M Po kc ks n σ q (a0 :: a1 :: a2 :: a3 :: a4 :: a5 :: a6 :: a7 :: a8 :: a9 :: a10 :: a11 :: some (.ref x) :: t) st) : Z M Po kc ks n σ pc (a0 :: a1 :: a2 :: a3 :: a4 :: a5 :: a6 :: a7 :: a8 :: a9 :: a10 :: a11 :: o :: t) (.ref x :: st) := z_astore (i := 12) hd (by simp only [List.length_cons]; omega) hk hq k
theorem zn_iinc12 {a0 a1 a2 a3 a4 a5 a6 a7 a8 a9 a10 a11 : Option Value} {t : List (Option Value)} {x d : Nat} (hd : decode (mB M) pc = .ok (.iinc 12 (d : Int), 3)) (hq : pc + 3 = q) (hk : zn2 a11 = true) (k : Z M Po kc ks n σ q (a0 :: a1 :: a2 :: a3 :: a4 :: a5 :: a6 :: a7 :: a8 :: a9 :: a10 :: a11 :: some (.int (nI (x + d))) :: t) st) : Z M Po kc ks n σ pc (a0 :: a1 :: a2 :: a3 :: a4 :: a5 :: a6 :: a7 :: a8 :: a9 :: a10 :: a11 :: some (.int (nI x)) :: t) st := z_iinc (i := 12) hd rfl (show nI x + Int32.ofInt (d : Int) = nI (x + d) from nI_add x d) (by simp only [List.length_cons]; omega) hk hq k
theorem z_ild13 {a0 a1 a2 a3 a4 a5 a6 a7 a8 a9 a10 a11 a12 : Option Value} {t : List (Option Value)} {x : Int32} (hd : decode (mB M) pc = .ok (.iload 13, 2)) (hq : pc + 2 = q) (k : Z M Po kc ks n σ q (a0 :: a1 :: a2 :: a3 :: a4 :: a5 :: a6 :: a7 :: a8 :: a9 :: a10 :: a11 :: a12 :: some (.int x) :: t) (.int x :: st)) : Z M Po kc ks n σ pc (a0 :: a1 :: a2 :: a3 :: a4 :: a5 :: a6 :: a7 :: a8 :: a9 :: a10 :: a11 :: a12 :: some (.int x) :: t) st := z_iload (i := 13) hd rfl hq k
theorem z_ist13 {a0 a1 a2 a3 a4 a5 a6 a7 a8 a9 a10 a11 a12 : Option Value} {o : Option Value} {t : List (Option Value)} {x : Int32} (hd : decode (mB M) pc = .ok (.istore 13, 2)) (hq : pc + 2 = q) (hk : zn2 a12 = true) (k : Z M Po kc ks n σ q (a0 :: a1 :: a2 :: a3 :: a4 :: a5 :: a6 :: a7 :: a8 :: a9 :: a10 :: a11 :: a12 :: some (.int x) :: t) st) : Z M Po kc ks n σ pc (a0 :: a1 :: a2 :: a3 :: a4 :: a5 :: a6 :: a7 :: a8 :: a9 :: a10 :: a11 :: a12 :: o :: t) (.int x :: st) := z_istore (i := 13) hd (by simp only [List.length_cons]; omega) hk hq k
theorem z_lld13 {a0 a1 a2 a3 a4 a5 a6 a7 a8 a9 a10 a11 a12 : Option Value} {t : List (Option Value)} {x : Int64} (hd : decode (mB M) pc = .ok (.lload 13, 2)) (hq : pc + 2 = q) (k : Z M Po kc ks n σ q (a0 :: a1 :: a2 :: a3 :: a4 :: a5 :: a6 :: a7 :: a8 :: a9 :: a10 :: a11 :: a12 :: some (.long x) :: t) (.long x :: st)) : Z M Po kc ks n σ pc (a0 :: a1 :: a2 :: a3 :: a4 :: a5 :: a6 :: a7 :: a8 :: a9 :: a10 :: a11 :: a12 :: some (.long x) :: t) st := z_lload (i := 13) hd rfl hq k
theorem z_lst13 {a0 a1 a2 a3 a4 a5 a6 a7 a8 a9 a10 a11 a12 : Option Value} {o o2 : Option Value} {t : List (Option Value)} {x : Int64} (hd : decode (mB M) pc = .ok (.lstore 13, 2)) (hq : pc + 2 = q) (hk : zn2 a12 = true) (k : Z M Po kc ks n σ q (a0 :: a1 :: a2 :: a3 :: a4 :: a5 :: a6 :: a7 :: a8 :: a9 :: a10 :: a11 :: a12 :: some (.long x) :: none :: t) st) : Z M Po kc ks n σ pc (a0 :: a1 :: a2 :: a3 :: a4 :: a5 :: a6 :: a7 :: a8 :: a9 :: a10 :: a11 :: a12 :: o :: o2 :: t) (.long x :: st) := z_lstore (i := 13) hd (by simp only [List.length_cons]; omega) hk hq k
theorem z_ald13 {a0 a1 a2 a3 a4 a5 a6 a7 a8 a9 a10 a11 a12 : Option Value} {t : List (Option Value)} {x : Nat} (hd : decode (mB M) pc = .ok (.aload 13, 2)) (hq : pc + 2 = q) (k : Z M Po kc ks n σ q (a0 :: a1 :: a2 :: a3 :: a4 :: a5 :: a6 :: a7 :: a8 :: a9 :: a10 :: a11 :: a12 :: some (.ref x) :: t) (.ref x :: st)) : Z M Po kc ks n σ pc (a0 :: a1 :: a2 :: a3 :: a4 :: a5 :: a6 :: a7 :: a8 :: a9 :: a10 :: a11 :: a12 :: some (.ref x) :: t) st := z_aload (i := 13) hd rfl hq k
theorem z_ast13 {a0 a1 a2 a3 a4 a5 a6 a7 a8 a9 a10 a11 a12 : Option Value} {o : Option Value} {t : List (Option Value)} {x : Nat} (hd : decode (mB M) pc = .ok (.astore 13, 2)) (hq : pc + 2 = q) (hk : zn2 a12 = true) (k : Z M Po kc ks n σ q (a0 :: a1 :: a2 :: a3 :: a4 :: a5 :: a6 :: a7 :: a8 :: a9 :: a10 :: a11 :: a12 :: some (.ref x) :: t) st) : Z M Po kc ks n σ pc (a0 :: a1 :: a2 :: a3 :: a4 :: a5 :: a6 :: a7 :: a8 :: a9 :: a10 :: a11 :: a12 :: o :: t) (.ref x :: st) := z_astore (i := 13) hd (by simp only [List.length_cons]; omega) hk hq k
theorem zn_iinc13 {a0 a1 a2 a3 a4 a5 a6 a7 a8 a9 a10 a11 a12 : Option Value} {t : List (Option Value)} {x d : Nat} (hd : decode (mB M) pc = .ok (.iinc 13 (d : Int), 3)) (hq : pc + 3 = q) (hk : zn2 a12 = true) (k : Z M Po kc ks n σ q (a0 :: a1 :: a2 :: a3 :: a4 :: a5 :: a6 :: a7 :: a8 :: a9 :: a10 :: a11 :: a12 :: some (.int (nI (x + d))) :: t) st) : Z M Po kc ks n σ pc (a0 :: a1 :: a2 :: a3 :: a4 :: a5 :: a6 :: a7 :: a8 :: a9 :: a10 :: a11 :: a12 :: some (.int (nI x)) :: t) st := z_iinc (i := 13) hd rfl (show nI x + Int32.ofInt (d : Int) = nI (x + d) from nI_add x d) (by simp only [List.length_cons]; omega) hk hq k
theorem z_ild14 {a0 a1 a2 a3 a4 a5 a6 a7 a8 a9 a10 a11 a12 a13 : Option Value} {t : List (Option Value)} {x : Int32} (hd : decode (mB M) pc = .ok (.iload 14, 2)) (hq : pc + 2 = q) (k : Z M Po kc ks n σ q (a0 :: a1 :: a2 :: a3 :: a4 :: a5 :: a6 :: a7 :: a8 :: a9 :: a10 :: a11 :: a12 :: a13 :: some (.int x) :: t) (.int x :: st)) : Z M Po kc ks n σ pc (a0 :: a1 :: a2 :: a3 :: a4 :: a5 :: a6 :: a7 :: a8 :: a9 :: a10 :: a11 :: a12 :: a13 :: some (.int x) :: t) st := z_iload (i := 14) hd rfl hq k
theorem z_ist14 {a0 a1 a2 a3 a4 a5 a6 a7 a8 a9 a10 a11 a12 a13 : Option Value} {o : Option Value} {t : List (Option Value)} {x : Int32} (hd : decode (mB M) pc = .ok (.istore 14, 2)) (hq : pc + 2 = q) (hk : zn2 a13 = true) (k : Z M Po kc ks n σ q (a0 :: a1 :: a2 :: a3 :: a4 :: a5 :: a6 :: a7 :: a8 :: a9 :: a10 :: a11 :: a12 :: a13 :: some (.int x) :: t) st) : Z M Po kc ks n σ pc (a0 :: a1 :: a2 :: a3 :: a4 :: a5 :: a6 :: a7 :: a8 :: a9 :: a10 :: a11 :: a12 :: a13 :: o :: t) (.int x :: st) := z_istore (i := 14) hd (by simp only [List.length_cons]; omega) hk hq k
theorem z_lld14 {a0 a1 a2 a3 a4 a5 a6 a7 a8 a9 a10 a11 a12 a13 : Option Value} {t : List (Option Value)} {x : Int64} (hd : decode (mB M) pc = .ok (.lload 14, 2)) (hq : pc + 2 = q) (k : Z M Po kc ks n σ q (a0 :: a1 :: a2 :: a3 :: a4 :: a5 :: a6 :: a7 :: a8 :: a9 :: a10 :: a11 :: a12 :: a13 :: some (.long x) :: t) (.long x :: st)) : Z M Po kc ks n σ pc (a0 :: a1 :: a2 :: a3 :: a4 :: a5 :: a6 :: a7 :: a8 :: a9 :: a10 :: a11 :: a12 :: a13 :: some (.long x) :: t) st := z_lload (i := 14) hd rfl hq k
theorem z_lst14 {a0 a1 a2 a3 a4 a5 a6 a7 a8 a9 a10 a11 a12 a13 : Option Value} {o o2 : Option Value} {t : List (Option Value)} {x : Int64} (hd : decode (mB M) pc = .ok (.lstore 14, 2)) (hq : pc + 2 = q) (hk : zn2 a13 = true) (k : Z M Po kc ks n σ q (a0 :: a1 :: a2 :: a3 :: a4 :: a5 :: a6 :: a7 :: a8 :: a9 :: a10 :: a11 :: a12 :: a13 :: some (.long x) :: none :: t) st) : Z M Po kc ks n σ pc (a0 :: a1 :: a2 :: a3 :: a4 :: a5 :: a6 :: a7 :: a8 :: a9 :: a10 :: a11 :: a12 :: a13 :: o :: o2 :: t) (.long x :: st) := z_lstore (i := 14) hd (by simp only [List.length_cons]; omega) hk hq k
theorem z_ald14 {a0 a1 a2 a3 a4 a5 a6 a7 a8 a9 a10 a11 a12 a13 : Option Value} {t : List (Option Value)} {x : Nat} (hd : decode (mB M) pc = .ok (.aload 14, 2)) (hq : pc + 2 = q) (k : Z M Po kc ks n σ q (a0 :: a1 :: a2 :: a3 :: a4 :: a5 :: a6 :: a7 :: a8 :: a9 :: a10 :: a11 :: a12 :: a13 :: some (.ref x) :: t) (.ref x :: st)) : Z M Po kc ks n σ pc (a0 :: a1 :: a2 :: a3 :: a4 :: a5 :: a6 :: a7 :: a8 :: a9 :: a10 :: a11 :: a12 :: a13 :: some (.ref x) :: t) st := z_aload (i := 14) hd rfl hq k
theorem z_ast14 {a0 a1 a2 a3 a4 a5 a6 a7 a8 a9 a10 a11 a12 a13 : Option Value} {o : Option Value} {t : List (Option Value)} {x : Nat} (hd : decode (mB M) pc = .ok (.astore 14, 2)) (hq : pc + 2 = q) (hk : zn2 a13 = true) (k : Z M Po kc ks n σ q (a0 :: a1 :: a2 :: a3 :: a4 :: a5 :: a6 :: a7 :: a8 :: a9 :: a10 :: a11 :: a12 :: a13 :: some (.ref x) :: t) st) : Z M Po kc ks n σ pc (a0 :: a1 :: a2 :: a3 :: a4 :: a5 :: a6 :: a7 :: a8 :: a9 :: a10 :: a11 :: a12 :: a13 :: o :: t) (.ref x :: st) := z_astore (i := 14) hd (by simp only [List.length_cons]; omega) hk hq k
theorem zn_iinc14 {a0 a1 a2 a3 a4 a5 a6 a7 a8 a9 a10 a11 a12 a13 : Option Value} {t : List (Option Value)} {x d : Nat} (hd : decode (mB M) pc = .ok (.iinc 14 (d : Int), 3)) (hq : pc + 3 = q) (hk : zn2 a13 = true) (k : Z M Po kc ks n σ q (a0 :: a1 :: a2 :: a3 :: a4 :: a5 :: a6 :: a7 :: a8 :: a9 :: a10 :: a11 :: a12 :: a13 :: some (.int (nI (x + d))) :: t) st) : Z M Po kc ks n σ pc (a0 :: a1 :: a2 :: a3 :: a4 :: a5 :: a6 :: a7 :: a8 :: a9 :: a10 :: a11 :: a12 :: a13 :: some (.int (nI x)) :: t) st := z_iinc (i := 14) hd rfl (show nI x + Int32.ofInt (d : Int) = nI (x + d) from nI_add x d) (by simp only [List.length_cons]; omega) hk hq k
theorem z_ild15 {a0 a1 a2 a3 a4 a5 a6 a7 a8 a9 a10 a11 a12 a13 a14 : Option Value} {t : List (Option Value)} {x : Int32} (hd : decode (mB M) pc = .ok (.iload 15, 2)) (hq : pc + 2 = q) (k : Z M Po kc ks n σ q (a0 :: a1 :: a2 :: a3 :: a4 :: a5 :: a6 :: a7 :: a8 :: a9 :: a10 :: a11 :: a12 :: a13 :: a14 :: some (.int x) :: t) (.int x :: st)) : Z M Po kc ks n σ pc (a0 :: a1 :: a2 :: a3 :: a4 :: a5 :: a6 :: a7 :: a8 :: a9 :: a10 :: a11 :: a12 :: a13 :: a14 :: some (.int x) :: t) st := z_iload (i := 15) hd rfl hq k
theorem z_ist15 {a0 a1 a2 a3 a4 a5 a6 a7 a8 a9 a10 a11 a12 a13 a14 : Option Value} {o : Option Value} {t : List (Option Value)} {x : Int32} (hd : decode (mB M) pc = .ok (.istore 15, 2)) (hq : pc + 2 = q) (hk : zn2 a14 = true) (k : Z M Po kc ks n σ q (a0 :: a1 :: a2 :: a3 :: a4 :: a5 :: a6 :: a7 :: a8 :: a9 :: a10 :: a11 :: a12 :: a13 :: a14 :: some (.int x) :: t) st) : Z M Po kc ks n σ pc (a0 :: a1 :: a2 :: a3 :: a4 :: a5 :: a6 :: a7 :: a8 :: a9 :: a10 :: a11 :: a12 :: a13 :: a14 :: o :: t) (.int x :: st) := z_istore (i := 15) hd (by simp only [List.length_cons]; omega) hk hq k
theorem z_lld15 {a0 a1 a2 a3 a4 a5 a6 a7 a8 a9 a10 a11 a12 a13 a14 : Option Value} {t : List (Option Value)} {x : Int64} (hd : decode (mB M) pc = .ok (.lload 15, 2)) (hq : pc + 2 = q) (k : Z M Po kc ks n σ q (a0 :: a1 :: a2 :: a3 :: a4 :: a5 :: a6 :: a7 :: a8 :: a9 :: a10 :: a11 :: a12 :: a13 :: a14 :: some (.long x) :: t) (.long x :: st)) : Z M Po kc ks n σ pc (a0 :: a1 :: a2 :: a3 :: a4 :: a5 :: a6 :: a7 :: a8 :: a9 :: a10 :: a11 :: a12 :: a13 :: a14 :: some (.long x) :: t) st := z_lload (i := 15) hd rfl hq k
theorem z_lst15 {a0 a1 a2 a3 a4 a5 a6 a7 a8 a9 a10 a11 a12 a13 a14 : Option Value} {o o2 : Option Value} {t : List (Option Value)} {x : Int64} (hd : decode (mB M) pc = .ok (.lstore 15, 2)) (hq : pc + 2 = q) (hk : zn2 a14 = true) (k : Z M Po kc ks n σ q (a0 :: a1 :: a2 :: a3 :: a4 :: a5 :: a6 :: a7 :: a8 :: a9 :: a10 :: a11 :: a12 :: a13 :: a14 :: some (.long x) :: none :: t) st) : Z M Po kc ks n σ pc (a0 :: a1 :: a2 :: a3 :: a4 :: a5 :: a6 :: a7 :: a8 :: a9 :: a10 :: a11 :: a12 :: a13 :: a14 :: o :: o2 :: t) (.long x :: st) := z_lstore (i := 15) hd (by simp only [List.length_cons]; omega) hk hq k
theorem z_ald15 {a0 a1 a2 a3 a4 a5 a6 a7 a8 a9 a10 a11 a12 a13 a14 : Option Value} {t : List (Option Value)} {x : Nat} (hd : decode (mB M) pc = .ok (.aload 15, 2)) (hq : pc + 2 = q) (k : Z M Po kc ks n σ q (a0 :: a1 :: a2 :: a3 :: a4 :: a5 :: a6 :: a7 :: a8 :: a9 :: a10 :: a11 :: a12 :: a13 :: a14 :: some (.ref x) :: t) (.ref x :: st)) : Z M Po kc ks n σ pc (a0 :: a1 :: a2 :: a3 :: a4 :: a5 :: a6 :: a7 :: a8 :: a9 :: a10 :: a11 :: a12 :: a13 :: a14 :: some (.ref x) :: t) st := z_aload (i := 15) hd rfl hq k
theorem z_ast15 {a0 a1 a2 a3 a4 a5 a6 a7 a8 a9 a10 a11 a12 a13 a14 : Option Value} {o : Option Value} {t : List (Option Value)} {x : Nat} (hd : decode (mB M) pc = .ok (.astore 15, 2)) (hq : pc + 2 = q) (hk : zn2 a14 = true) (k : Z M Po kc ks n σ q (a0 :: a1 :: a2 :: a3 :: a4 :: a5 :: a6 :: a7 :: a8 :: a9 :: a10 :: a11 :: a12 :: a13 :: a14 :: some (.ref x) :: t) st) : Z M Po kc ks n σ pc (a0 :: a1 :: a2 :: a3 :: a4 :: a5 :: a6 :: a7 :: a8 :: a9 :: a10 :: a11 :: a12 :: a13 :: a14 :: o :: t) (.ref x :: st) := z_astore (i := 15) hd (by simp only [List.length_cons]; omega) hk hq k
theorem zn_iinc15 {a0 a1 a2 a3 a4 a5 a6 a7 a8 a9 a10 a11 a12 a13 a14 : Option Value} {t : List (Option Value)} {x d : Nat} (hd : decode (mB M) pc = .ok (.iinc 15 (d : Int), 3)) (hq : pc + 3 = q) (hk : zn2 a14 = true) (k : Z M Po kc ks n σ q (a0 :: a1 :: a2 :: a3 :: a4 :: a5 :: a6 :: a7 :: a8 :: a9 :: a10 :: a11 :: a12 :: a13 :: a14 :: some (.int (nI (x + d))) :: t) st) : Z M Po kc ks n σ pc (a0 :: a1 :: a2 :: a3 :: a4 :: a5 :: a6 :: a7 :: a8 :: a9 :: a10 :: a11 :: a12 :: a13 :: a14 :: some (.int (nI x)) :: t) st := z_iinc (i := 15) hd rfl (show nI x + Int32.ofInt (d : Int) = nI (x + d) from nI_add x d) (by simp only [List.length_cons]; omega) hk hq k
theorem z_ild16 {a0 a1 a2 a3 a4 a5 a6 a7 a8 a9 a10 a11 a12 a13 a14 a15 : Option Value} {t : List (Option Value)} {x : Int32} (hd : decode (mB M) pc = .ok (.iload 16, 2)) (hq : pc + 2 = q) (k : Z M Po kc ks n σ q (a0 :: a1 :: a2 :: a3 :: a4 :: a5 :: a6 :: a7 :: a8 :: a9 :: a10 :: a11 :: a12 :: a13 :: a14 :: a15 :: some (.int x) :: t) (.int x :: st)) : Z M Po kc ks n σ pc (a0 :: a1 :: a2 :: a3 :: a4 :: a5 :: a6 :: a7 :: a8 :: a9 :: a10 :: a11 :: a12 :: a13 :: a14 :: a15 :: some (.int x) :: t) st := z_iload (i := 16) hd rfl hq k
theorem z_ist16 {a0 a1 a2 a3 a4 a5 a6 a7 a8 a9 a10 a11 a12 a13 a14 a15 : Option Value} {o : Option Value} {t : List (Option Value)} {x : Int32} (hd : decode (mB M) pc = .ok (.istore 16, 2)) (hq : pc + 2 = q) (hk : zn2 a15 = true) (k : Z M Po kc ks n σ q (a0 :: a1 :: a2 :: a3 :: a4 :: a5 :: a6 :: a7 :: a8 :: a9 :: a10 :: a11 :: a12 :: a13 :: a14 :: a15 :: some (.int x) :: t) st) : Z M Po kc ks n σ pc (a0 :: a1 :: a2 :: a3 :: a4 :: a5 :: a6 :: a7 :: a8 :: a9 :: a10 :: a11 :: a12 :: a13 :: a14 :: a15 :: o :: t) (.int x :: st) := z_istore (i := 16) hd (by simp only [List.length_cons]; omega) hk hq k
theorem z_lld16 {a0 a1 a2 a3 a4 a5 a6 a7 a8 a9 a10 a11 a12 a13 a14 a15 : Option Value} {t : List (Option Value)} {x : Int64} (hd : decode (mB M) pc = .ok (.lload 16, 2)) (hq : pc + 2 = q) (k : Z M Po kc ks n σ q (a0 :: a1 :: a2 :: a3 :: a4 :: a5 :: a6 :: a7 :: a8 :: a9 :: a10 :: a11 :: a12 :: a13 :: a14 :: a15 :: some (.long x) :: t) (.long x :: st)) : Z M Po kc ks n σ pc (a0 :: a1 :: a2 :: a3 :: a4 :: a5 :: a6 :: a7 :: a8 :: a9 :: a10 :: a11 :: a12 :: a13 :: a14 :: a15 :: some (.long x) :: t) st := z_lload (i := 16) hd rfl hq k
theorem z_lst16 {a0 a1 a2 a3 a4 a5 a6 a7 a8 a9 a10 a11 a12 a13 a14 a15 : Option Value} {o o2 : Option Value} {t : List (Option Value)} {x : Int64} (hd : decode (mB M) pc = .ok (.lstore 16, 2)) (hq : pc + 2 = q) (hk : zn2 a15 = true) (k : Z M Po kc ks n σ q (a0 :: a1 :: a2 :: a3 :: a4 :: a5 :: a6 :: a7 :: a8 :: a9 :: a10 :: a11 :: a12 :: a13 :: a14 :: a15 :: some (.long x) :: none :: t) st) : Z M Po kc ks n σ pc (a0 :: a1 :: a2 :: a3 :: a4 :: a5 :: a6 :: a7 :: a8 :: a9 :: a10 :: a11 :: a12 :: a13 :: a14 :: a15 :: o :: o2 :: t) (.long x :: st) := z_lstore (i := 16) hd (by simp only [List.length_cons]; omega) hk hq k
theorem z_ald16 {a0 a1 a2 a3 a4 a5 a6 a7 a8 a9 a10 a11 a12 a13 a14 a15 : Option Value} {t : List (Option Value)} {x : Nat} (hd : decode (mB M) pc = .ok (.aload 16, 2)) (hq : pc + 2 = q) (k : Z M Po kc ks n σ q (a0 :: a1 :: a2 :: a3 :: a4 :: a5 :: a6 :: a7 :: a8 :: a9 :: a10 :: a11 :: a12 :: a13 :: a14 :: a15 :: some (.ref x) :: t) (.ref x :: st)) : Z M Po kc ks n σ pc (a0 :: a1 :: a2 :: a3 :: a4 :: a5 :: a6 :: a7 :: a8 :: a9 :: a10 :: a11 :: a12 :: a13 :: a14 :: a15 :: some (.ref x) :: t) st := z_aload (i := 16) hd rfl hq k
theorem z_ast16 {a0 a1 a2 a3 a4 a5 a6 a7 a8 a9 a10 a11 a12 a13 a14 a15 : Option Value} {o : Option Value} {t : List (Option Value)} {x : Nat} (hd : decode (mB M) pc = .ok (.astore 16, 2)) (hq : pc + 2 = q) (hk : zn2 a15 = true) (k : Z M Po kc ks n σ q (a0 :: a1 :: a2 :: a3 :: a4 :: a5 :: a6 :: a7 :: a8 :: a9 :: a10 :: a11 :: a12 :: a13 :: a14 :: a15 :: some (.ref x) :: t) st) : Z M Po kc ks n σ pc (a0 :: a1 :: a2 :: a3 :: a4 :: a5 :: a6 :: a7 :: a8 :: a9 :: a10 :: a11 :: a12 :: a13 :: a14 :: a15 :: o :: t) (.ref x :: st) := z_astore (i := 16) hd (by simp only [List.length_cons]; omega) hk hq k
theorem zn_iinc16 {a0 a1 a2 a3 a4 a5 a6 a7 a8 a9 a10 a11 a12 a13 a14 a15 : Option Value} {t : List (Option Value)} {x d : Nat} (hd : decode (mB M) pc = .ok (.iinc 16 (d : Int), 3)) (hq : pc + 3 = q) (hk : zn2 a15 = true) (k : Z M Po kc ks n σ q (a0 :: a1 :: a2 :: a3 :: a4 :: a5 :: a6 :: a7 :: a8 :: a9 :: a10 :: a11 :: a12 :: a13 :: a14 :: a15 :: some (.int (nI (x + d))) :: t) st) : Z M Po kc ks n σ pc (a0 :: a1 :: a2 :: a3 :: a4 :: a5 :: a6 :: a7 :: a8 :: a9 :: a10 :: a11 :: a12 :: a13 :: a14 :: a15 :: some (.int (nI x)) :: t) st := z_iinc (i := 16) hd rfl (show nI x + Int32.ofInt (d : Int) = nI (x + d) from nI_add x d) (by simp only [List.length_cons]; omega) hk hq k
theorem z_ild17 {a0 a1 a2 a3 a4 a5 a6 a7 a8 a9 a10 a11 a12 a13 a14 a15 a16 : Option Value} {t : List (Option Value)} {x : Int32} (hd : decode (mB M) pc = .ok (.iload 17, 2)) (hq : pc + 2 = q) (k : Z M Po kc ks n σ q (a0 :: a1 :: a2 :: a3 :: a4 :: a5 :: a6 :: a7 :: a8 :: a9 :: a10 :: a11 :: a12 :: a13 :: a14 :: a15 :: a16 :: some (.int x) :: t) (.int x :: st)) : Z M Po kc ks n σ pc (a0 :: a1 :: a2 :: a3 :: a4 :: a5 :: a6 :: a7 :: a8 :: a9 :: a10 :: a11 :: a12 :: a13 :: a14 :: a15 :: a16 :: some (.int x) :: t) st := z_iload (i := 17) hd rfl hq k
theorem z_ist17 {a0 a1 a2 a3 a4 a5 a6 a7 a8 a9 a10 a11 a12 a13 a14 a15 a16 : Option Value} {o : Option Value} {t : List (Option Value)} {x : Int32} (hd : decode (mB M) pc = .ok (.istore 17, 2)) (hq : pc + 2 = q) (hk : zn2 a16 = true) (k : Z M Po kc ks n σ q (a0 :: a1 :: a2 :: a3 :: a4 :: a5 :: a6 :: a7 :: a8 :: a9 :: a10 :: a11 :: a12 :: a13 :: a14 :: a15 :: a16 :: some (.int x) :: t) st) : Z M Po kc ks n σ pc (a0 :: a1 :: a2 :: a3 :: a4 :: a5 :: a6 :: a7 :: a8 :: a9 :: a10 :: a11 :: a12 :: a13 :: a14 :: a15 :: a16 :: o :: t) (.int x :: st) := z_istore (i := 17) hd (by simp only [List.length_cons]; omega) hk hq k
theorem z_lld17 {a0 a1 a2 a3 a4 a5 a6 a7 a8 a9 a10 a11 a12 a13 a14 a15 a16 : Option Value} {t : List (Option Value)} {x : Int64} (hd : decode (mB M) pc = .ok (.lload 17, 2)) (hq : pc + 2 = q) (k : Z M Po kc ks n σ q (a0 :: a1 :: a2 :: a3 :: a4 :: a5 :: a6 :: a7 :: a8 :: a9 :: a10 :: a11 :: a12 :: a13 :: a14 :: a15 :: a16 :: some (.long x) :: t) (.long x :: st)) : Z M Po kc ks n σ pc (a0 :: a1 :: a2 :: a3 :: a4 :: a5 :: a6 :: a7 :: a8 :: a9 :: a10 :: a11 :: a12 :: a13 :: a14 :: a15 :: a16 :: some (.long x) :: t) st := z_lload (i := 17) hd rfl hq k
theorem z_lst17 {a0 a1 a2 a3 a4 a5 a6 a7 a8 a9 a10 a11 a12 a13 a14 a15 a16 : Option Value} {o o2 : Option Value} {t : List (Option Value)} {x : Int64} (hd : decode (mB M) pc = .ok (.lstore 17, 2)) (hq : pc + 2 = q) (hk : zn2 a16 = true) (k : Z M Po kc ks n σ q (a0 :: a1 :: a2 :: a3 :: a4 :: a5 :: a6 :: a7 :: a8 :: a9 :: a10 :: a11 :: a12 :: a13 :: a14 :: a15 :: a16 :: some (.long x) :: none :: t) st) : Z M Po kc ks n σ pc (a0 :: a1 :: a2 :: a3 :: a4 :: a5 :: a6 :: a7 :: a8 :: a9 :: a10 :: a11 :: a12 :: a13 :: a14 :: a15 :: a16 :: o :: o2 :: t) (.long x :: st) := z_lstore (i := 17) hd (by simp only [List.length_cons]; omega) hk hq k
theorem z_ald17 {a0 a1 a2 a3 a4 a5 a6 a7 a8 a9 a10 a11 a12 a13 a14 a15 a16 : Option Value} {t : List (Option Value)} {x : Nat} (hd : decode (mB M) pc = .ok (.aload 17, 2)) (hq : pc + 2 = q) (k : Z M Po kc ks n σ q (a0 :: a1 :: a2 :: a3 :: a4 :: a5 :: a6 :: a7 :: a8 :: a9 :: a10 :: a11 :: a12 :: a13 :: a14 :: a15 :: a16 :: some (.ref x) :: t) (.ref x :: st)) : Z M Po kc ks n σ pc (a0 :: a1 :: a2 :: a3 :: a4 :: a5 :: a6 :: a7 :: a8 :: a9 :: a10 :: a11 :: a12 :: a13 :: a14 :: a15 :: a16 :: some (.ref x) :: t) st := z_aload (i := 17) hd rfl hq k
theorem z_ast17 {a0 a1 a2 a3 a4 a5 a6 a7 a8 a9 a10 a11 a12 a13 a14 a15 a16 : Option Value} {o : Option Value} {t : List (Option Value)} {x : Nat} (hd : decode (mB M) pc = .ok (.astore 17, 2)) (hq : pc + 2 = q) (hk : zn2 a16 = true) (k : Z M Po kc ks n σ q (a0 :: a1 :: a2 :: a3 :: a4 :: a5 :: a6 :: a7 :: a8 :: a9 :: a10 :: a11 :: a12 :: a13 :: a14 :: a15 :: a16 :: some (.ref x) :: t) st) : Z M Po kc ks n σ pc (a0 :: a1 :: a2 :: a3 :: a4 :: a5 :: a6 :: a7 :: a8 :: a9 :: a10 :: a11 :: a12 :: a13 :: a14 :: a15 :: a16 :: o :: t) (.ref x :: st) := z_astore (i := 17) hd (by simp only [List.length_cons]; omega) hk hq k
theorem zn_iinc17 {a0 a1 a2 a3 a4 a5 a6 a7 a8 a9 a10 a11 a12 a13 a14 a15 a16 : Option Value} {t : List (Option Value)} {x d : Nat} (hd : decode (mB M) pc = .ok (.iinc 17 (d : Int), 3)) (hq : pc + 3 = q) (hk : zn2 a16 = true) (k : Z M Po kc ks n σ q (a0 :: a1 :: a2 :: a3 :: a4 :: a5 :: a6 :: a7 :: a8 :: a9 :: a10 :: a11 :: a12 :: a13 :: a14 :: a15 :: a16 :: some (.int (nI (x + d))) :: t) st) : Z M Po kc ks n σ pc (a0 :: a1 :: a2 :: a3 :: a4 :: a5 :: a6 :: a7 :: a8 :: a9 :: a10 :: a11 :: a12 :: a13 :: a14 :: a15 :: a16 :: some (.int (nI x)) :: t) st := z_iinc (i := 17) hd rfl (show nI x + Int32.ofInt (d : Int) = nI (x + d) from nI_add x d) (by simp only [List.length_cons]; omega) hk hq k
end ZR
end
section
section ZW
variable {M : zMI} {Po : Option Value → Nat → zWd → Prop} {kc ks n pc q : Nat} {σ : zWd} {lv : List (Option Value)} {st : List Value}

theorem zw_N {b : Nat} {G : Nat → ClassId} {i N : Nat} {g : Nat → Nat} (hs : σ i = zN N g) (hi : i < n) : (zw b G n σ)[i]? = some (b + i, .inl (G 1, N, .inr (.inl fun j => lN (g j)))) := by rw [zw_at hi, hs, ze_N]
theorem zw_I {b : Nat} {G : Nat → ClassId} {i N : Nat} {f : Nat → Int32} (hs : σ i = zI N f) (hi : i < n) : (zw b G n σ)[i]? = some (b + i, .inl (G 0, N, .inl f)) := by rw [zw_at hi, hs, ze_I]
theorem zw_R {b : Nat} {G : Nat → ClassId} {i N : Nat} {f : Nat → Option Nat} (hs : σ i = zR N f) (hi : i < n) : (zw b G n σ)[i]? = some (b + i, .inl (G 2, N, .inr (.inr (.inr (.inr (fun j => (f j).map (b + ·))))))) := by rw [zw_at hi, hs, ze_R]
theorem zw_O {b : Nat} {G : Nat → ClassId} {i c : Nat} {fs : List Value} (hs : σ i = zO c fs) (hi : i < n) : (zw b G n σ)[i]? = some (b + i, .inr (c, fs.map (zv b))) := by rw [zw_at hi, hs, ze_O]
theorem z_laload {i j N : Nat} {g : Nat → Nat} (hd : decode (mB M) pc = .ok (.laload, 1)) (hq : pc + 1 = q) (hs : σ i = zN N g) (hi : i < n) (hj : j < N) (hN : N < 2 ^ 31) (k : Z M Po kc ks n σ q lv (.long (lN (g j)) :: st)) : Z M Po kc ks n σ pc lv (.int (nI j) :: .ref i :: st) := by
  subst hq; intro p l e s m args below meth c b G D hC H locs ls hz hP hS hl
  refine va_lald hC.1 hC.2.1 hC.k hP i 1 (zw_N hs hi) rfl (vp_in_nI hj hN) hd ?_
  rw [nI_clamp (by omega)]
  exact k p l e s m args below meth c b G D hC H locs ls hz hP hS hl
theorem z_iaload {i j N : Nat} {f : Nat → Int32} (hd : decode (mB M) pc = .ok (.iaload, 1)) (hq : pc + 1 = q) (hs : σ i = zI N f) (hi : i < n) (hj : j < N) (hN : N < 2 ^ 31) (k : Z M Po kc ks n σ q lv (.int (f j) :: st)) : Z M Po kc ks n σ pc lv (.int (nI j) :: .ref i :: st) := by
  subst hq; intro p l e s m args below meth c b G D hC H locs ls hz hP hS hl
  refine va_iald hC.1 hC.2.1 hC.k hP i 0 (zw_I hs hi) rfl (vp_in_nI hj hN) hd ?_
  rw [nI_clamp (by omega)]
  exact k p l e s m args below meth c b G D hC H locs ls hz hP hS hl
theorem z_aaload {i j N a : Nat} {f : Nat → Option Nat} (hd : decode (mB M) pc = .ok (.aaload, 1)) (hq : pc + 1 = q) (hs : σ i = zR N f) (hi : i < n) (hj : j < N) (hN : N < 2 ^ 31) (ha : f j = some a) (k : Z M Po kc ks n σ q lv (.ref a :: st)) : Z M Po kc ks n σ pc lv (.int (nI j) :: .ref i :: st) := by
  subst hq; intro p l e s m args below meth c b G D hC H locs ls hz hP hS hl
  refine va_aldq hC.1 hC.2.1 hC.k hP i 2 (zw_R hs hi) rfl (vp_in_nI hj hN) hd ?_
  rw [nI_clamp (by omega), ha]
  exact k p l e s m args below meth c b G D hC H locs ls hz hP hS hl
theorem z_lastore {i j N x : Nat} {g : Nat → Nat} (hd : decode (mB M) pc = .ok (.lastore, 1)) (hq : pc + 1 = q) (hs : σ i = zN N g) (hi : i < n) (hj : j < N) (hN : N < 2 ^ 31) (k : Z M Po kc ks n (va_up σ i (zN N (va_up g j x))) q lv st) : Z M Po kc ks n σ pc lv (.long (lN x) :: .int (nI j) :: .ref i :: st) := by
  subst hq; intro p l e s m args below meth c b G D hC H locs ls hz hP hS hl
  have ha := zw_N (b := b) (G := G) hs hi
  have hin : vp_in (nI j) N := vp_in_nI hj hN
  refine W.last hC.1 hC.2.1 (hP i _ ha) ((hC.k.2 1 _ rfl).1 N (fun j => .long (lN (g j)))) (fun q => by cases q) (by show ¬ (nI j < 0 ∨ (arrV _ _ _).slots.size ≤ _); rw [arrV_size]; exact hin) rfl rfl hd fun H1 e1 z oq => ?_
  have hP1 : va_P D zCl (zw b G n (va_up σ i (zN N (va_up g j x)))) H1 := by
    rw [← zw_set, ze_N]
    refine hP.set zw_D ha ?_ oq
    show H1[b + i]? = some (vp_cell _ _)
    rw [e1, vp_cell_l, vp_cell_l, arrV_store, nI_clamp (by omega)]
    congr 2
    funext t
    by_cases ht : t = j
    · subst ht; simp [updV, va_up]
    · simp [updV, va_up, ht]
  exact k p l e s m args below meth c b G D hC H1 _ ls (z.trans hz) hP1 (hS.put z oq (Nat.le_add_right b i)) hl
theorem z_iastore {i j N : Nat} {x : Int32} {f : Nat → Int32} (hd : decode (mB M) pc = .ok (.iastore, 1)) (hq : pc + 1 = q) (hs : σ i = zI N f) (hi : i < n) (hj : j < N) (hN : N < 2 ^ 31) (k : Z M Po kc ks n (va_up σ i (zI N (va_up f j x))) q lv st) : Z M Po kc ks n σ pc lv (.int x :: .int (nI j) :: .ref i :: st) := by
  subst hq; intro p l e s m args below meth c b G D hC H locs ls hz hP hS hl
  have ha := zw_I (b := b) (G := G) hs hi
  have hin : vp_in (nI j) N := vp_in_nI hj hN
  refine W.iast hC.1 hC.2.1 (hP i _ ha) ((hC.k.2 0 _ rfl).1 N (fun j => .int (f j))) (fun q => by cases q) (by show ¬ (nI j < 0 ∨ (arrV _ _ _).slots.size ≤ _); rw [arrV_size]; exact hin) rfl rfl hd fun H1 e1 z oq => ?_
  have hP1 : va_P D zCl (zw b G n (va_up σ i (zI N (va_up f j x)))) H1 := by
    rw [← zw_set, ze_I]
    refine hP.set zw_D ha ?_ oq
    show H1[b + i]? = some (vp_cell _ _)
    rw [e1, vp_cell_i, vp_cell_i, arrV_store, nI_clamp (by omega)]
    congr 2
    funext t
    by_cases ht : t = j
    · subst ht; simp [updV, va_up]
    · simp [updV, va_up, ht]
  exact k p l e s m args below meth c b G D hC H1 _ ls (z.trans hz) hP1 (hS.put z oq (Nat.le_add_right b i)) hl
theorem z_aastore {i j N a ci : Nat} {fs : List Value} {r : vw_C} {f : Nat → Option Nat} (hd : decode (mB M) pc = .ok (.aastore, 1)) (hq : pc + 1 = q) (hs : σ i = zR N f) (hi : i < n) (hj : j < N) (hN : N < 2 ^ 31) (hv : σ a = zO ci fs) (han : a < n) (hc : zCl[ci]? = some r) (hr : r.1 = "RecurrentSeries$Series") (k : Z M Po kc ks n (va_up σ i (zR N (va_up f j (some a)))) q lv st) : Z M Po kc ks n σ pc lv (.ref a :: .int (nI j) :: .ref i :: st) := by
  subst hq; intro p l e s m args below meth c b G D hC H locs ls hz hP hS hl
  have ha := zw_R (b := b) (G := G) hs hi
  have hK := hC.k
  obtain ⟨r', hr', cellV, g1, g2, g3, -⟩ := hP a _ (zw_O (b := b) (G := G) hv han)
  have hcls := (hK.1 ci r hc).2
  obtain ⟨kA, comp, k1, k2, k3, -⟩ := (hK.2 2 _ rfl).2
  rw [hr] at hcls
  have hcomp : comp = D.1 ci := Option.some.inj (k3.symm.trans hcls.1)
  subst hcomp
  obtain ⟨kC, hkC, -⟩ := hcls.2
  have h0 : ¬ nI j < 0 := nI_pos (by omega)
  refine W.aast hC.1 hC.2.1 (hP i _ ha) (fun q h => by cases h) (fun h => by cases h) k1 k2 rfl hkC ⟨h0, by show _ < (arrV _ _ _).slots.size; rw [arrV_size, nI_clamp (by omega)]; exact hj⟩ g1 (fun q h => by rw [g3] at h; cases h) (by rw [g2]; exact hkC) (by rw [g2]; exact va_assign hcls) rfl rfl hd fun H1 e1 z oq => ?_
  have hP1 : va_P D zCl (zw b G n (va_up σ i (zR N (va_up f j (some a))))) H1 := by
    rw [← zw_set, ze_R]
    refine hP.set zw_D ha ?_ oq
    show H1[b + i]? = some (vp_cell _ _)
    rw [e1, vp_cell_q, vp_cell_q, arrV_store, nI_clamp (by omega)]
    congr 2
    funext t
    by_cases ht : t = j
    · subst ht; simp [updV, va_up, va_rf]
    · simp [updV, va_up, ht]
  exact k p l e s m args below meth c b G D hC H1 _ ls (z.trans hz) hP1 (hS.put z oq (Nat.le_add_right b i)) hl
/-- what the tables say of a field that is read, written, or written once -/
def zFG (own : String) (idx ci fi : Nat) : Prop := ∃ (C : String) (T : u_T) (N : Nat), zCl[ci]? = some (C, T, N) ∧ fi < N ∧ (∀ w ∈ u_ws C T N, w ∈ TB) ∧ (Cond.fieldLink own idx (T fi).1 (T fi).2.1 (T fi).2.2.1 ∈ TB ∨ ∃ host : String, Cond.fieldLinkNest own idx (T fi).1 (T fi).2.1 (T fi).2.2.1 host ∈ NB)
def zFT (ci : Nat) : Prop := ∃ (C : String) (T : u_T) (N : Nat) (ty : Nat → FieldType), zCl[ci]? = some (C, T, N) ∧ (∀ k, k < N → parseFieldDescriptor (T k).2.2.1 = some (ty k)) ∧ (∀ a, a < N → ∀ b, b < N → a ≠ b → (T a).2.1 ≠ (T b).2.1)
def zFk (ci fi : Nat) (fin : Bool) (own : String) (ty : FieldType) : Prop := ∀ (C : String) (T : u_T) (N : Nat), zCl[ci]? = some (C, T, N) → (T fi).2.2.2 = fin ∧ (fin = true → (T fi).1 = own) ∧ parseFieldDescriptor (T fi).2.2.1 = some ty
theorem z_get {idx ci i : Nat} {fs : List Value} {v : Value} (fi : Nat) (hd : decode (mB M) pc = .ok (.getfield idx, 3)) (hq : pc + 3 = q) (hF : zFG (mY M).cls idx ci fi) (hs : σ i = zO ci fs) (hi : i < n) (hv : fs[fi]? = some v) (k : Z M Po kc ks n σ q lv (v :: st)) : Z M Po kc ks n σ pc lv (.ref i :: st) := by
  subst hq; intro p l e s m args below meth c b G D hC H locs ls hz hP hS hl
  obtain ⟨C, T, N, hc, hfi, hws, hlk⟩ := hF
  have hv' : (fs.map (zv b))[fi]? = some (zv b v) := by rw [List.getElem?_map, hv]; rfl
  have hts : ∀ w ∈ TB, w.before args s = true := fun w h => hC.tb h
  rcases hlk with hlk | ⟨host, hlk⟩
  · exact va_get (D := D) (C := C) (T := T) (N := N) hC.1 hC.2.1 hts hws hC.2.2.2.1 hC.k hP i (zw_O hs hi) hc fi hfi (hC.tb hlk) (fun _ h => h) hv' hd (k p l e s m args below meth c b G D hC H locs ls hz hP hS hl)
  · exact va_getN (D := D) (C := C) (T := T) (N := N) hC.1 hC.2.1 hts hws hC.2.2.2.1 hC.k hP i (zw_O hs hi) hc fi hfi (va_Nw.use rfl (hC.nb hlk)) (fun _ h => h) hv' hd (k p l e s m args below meth c b G D hC H locs ls hz hP hS hl)
theorem z_put {idx ci i : Nat} {fs : List Value} {v : Value} {ty : FieldType} (fi : Nat) (hd : decode (mB M) pc = .ok (.putfield idx, 3)) (hq : pc + 3 = q) (hF : zFG (mY M).cls idx ci fi) (hT : zFT ci) (hk : zFk ci fi false "" ty) (hs : σ i = zO ci fs) (hi : i < n) (hn : ∀ b, narrow ty (zv b v) = zv b v) (hfit : ∀ b, fits ty (zv b v) = true) (hlen : fi < fs.length) (k : Z M Po kc ks n (va_up σ i (zO ci (fs.set fi v))) q lv st) : Z M Po kc ks n σ pc lv (v :: .ref i :: st) := by
  subst hq; intro p l e s m args below meth c b G D hC H locs ls hz hP hS hl
  obtain ⟨C, T, N, hc, hfi, hws, hlk⟩ := hF
  obtain ⟨C', T', N', ty0, hc', hty, hnm⟩ := hT
  obtain ⟨rfl, rfl, rfl⟩ : C = C' ∧ T = T' ∧ N = N' := by
    have := Option.some.inj (hc.symm.trans hc')
    simp only [Prod.mk.injEq] at this
    exact this
  obtain ⟨hfin, -, hpt⟩ := hk C T N hc
  have he := zw_O (b := b) (G := G) hs hi
  have hK := hC.k
  have hts : ∀ w ∈ TB, w.before args s = true := fun w h => hC.tb h
  have hap := va_apart (own := (mY M).cls) hts hws ty0 hty hnm hK hc
  obtain ⟨r, h1, cell, q1, q2, q3, q4⟩ := hP i _ he
  have hr : r = (C, T, N) := Option.some.inj (h1.symm.trans hc)
  subst hr
  obtain ⟨hSl, hfc, kC, hkC, hkind⟩ := hK.1 ci _ hc
  obtain ⟨cf, kf, fj, f, hif, hsl⟩ := hSl fi hfi
  have hlay := hts _ (hws _ (u_in_lay hfi))
  unfold u_lay at hlay
  rw [if_neg (by rw [hfin]; decide)] at hlay
  have hst := (u_facts hfc hkC (u_lays hts hws hfi) hif).1
  have h6 := u_store hfc hkC hkind hlay hif hpt (hn b) (hfit b)
  have fin : ∀ H1 : Heap, H1[b + i]? = some (cell.setSlot f.slot (zv b v)) → H1.size = H.size → (∀ q, q ≠ b + i → H1[q]? = H[q]?) → W p l e (mR M) s m args below meth c H1 (locs ++ [⟨b + i, f.slot⟩]) kc ks (MQ below (zQc b G D Po) args s (mR M).cells (mR M).slots (fun q => b ≤ q)) (F0 m (pc + 3) ls (st.map (zv b))) := by
    intro H1 e1 z oq
    rw [hsl] at e1
    have hP1 : va_P D zCl (zw b G n (va_up σ i (zO ci (fs.set fi v)))) H1 := by
      rw [← zw_set, ze_O]
      refine hP.set zw_D he ?_ oq
      refine ⟨_, hc, ?_⟩
      rw [List.map_set]
      exact t_OB.to (V := updV (vp_V (fs.map (zv b))) fi (zv b v)) ⟨_, e1, q2, q3, t_set q4 hap hfi (zv b v)⟩ (fun j _ => vp_updV_set (by rw [List.length_map]; exact hlen) (zv b v) j)
    exact k p l e s m args below meth c b G D hC H1 _ ls (z.trans hz) hP1 (hS.put z oq (Nat.le_add_right b i)) hl
  rcases hlk with hlk | ⟨host, hlk⟩
  · exact W.putK hC.1 hC.2.1 (f := f) ⟨hC.2.2.2.1, hC.tb hlk, ⟨_, _, _, hif⟩, hst⟩ (by rw [q2]; exact h6) q1 q3 (by rw [hsl]; exact k2_hasslot (q4 fi hfi)) rfl rfl hd fin
  · exact va_WputK hC.1 hC.2.1 (f := f) hC.2.2.2.1 (va_Nw.use rfl (hC.nb hlk)) hif hst (by rw [q2]; exact h6) q1 q3 (by rw [hsl]; exact k2_hasslot (q4 fi hfi)) rfl rfl hd fin
theorem z_putF {idx ci i : Nat} {fs : List Value} {v : Value} {ty : FieldType} (fi : Nat) (hd : decode (mB M) pc = .ok (.putfield idx, 3)) (hq : pc + 3 = q) (hF : zFG (mY M).cls idx ci fi) (hT : zFT ci) (hk : zFk ci fi true (mY M).cls ty) (hy : (mY M).name = "<init>") (hnl : ∀ (C : String) (T : u_T) (N : Nat), zCl[ci]? = some (C, T, N) → Cond.fieldLink (mY M).cls idx (T fi).1 (T fi).2.1 (T fi).2.2.1 ∈ TB) (hs : σ i = zO ci fs) (hi : i < n) (hn : ∀ b, narrow ty (zv b v) = zv b v) (hfit : ∀ b, fits ty (zv b v) = true) (hlen : fi < fs.length) (k : Z M Po kc ks n (va_up σ i (zO ci (fs.set fi v))) q lv st) : Z M Po kc ks n σ pc lv (v :: .ref i :: st) := by
  subst hq; intro p l e s m args below meth c b G D hC H locs ls hz hP hS hl
  obtain ⟨C, T, N, hc, hfi, hws, -⟩ := hF
  obtain ⟨C', T', N', ty0, hc', hty, hnm⟩ := hT
  obtain ⟨rfl, rfl, rfl⟩ : C = C' ∧ T = T' ∧ N = N' := by
    have := Option.some.inj (hc.symm.trans hc')
    simp only [Prod.mk.injEq] at this
    exact this
  obtain ⟨hfin, hdecl, hpt⟩ := hk C T N hc
  have hdecl := hdecl rfl
  have hlk := hnl C T N hc
  have he := zw_O (b := b) (G := G) hs hi
  have hK := hC.k
  have hts : ∀ w ∈ TB, w.before args s = true := fun w h => hC.tb h
  have hap := va_apart (own := (mY M).cls) hts hws ty0 hty hnm hK hc
  obtain ⟨r, h1, cell, q1, q2, q3, q4⟩ := hP i _ he
  have hr : r = (C, T, N) := Option.some.inj (h1.symm.trans hc)
  subst hr
  obtain ⟨hSl, hfc, kC, hkC, hkind⟩ := hK.1 ci _ hc
  obtain ⟨cf, kf, fj, f, hif, hsl⟩ := hSl fi hfi
  have hlay := hts _ (hws _ (u_in_lay hfi))
  unfold u_lay at hlay
  rw [if_pos hfin] at hlay
  have hst := (u_facts hfc hkC (u_lays hts hws hfi) hif).1
  have hcf : m.cls = cf := by
    obtain ⟨_, _, c', _, _, _, -, -, hf', -, -, -, hown2, -⟩ := Cond.laysFinal_spec hlay
    have e1 : c' = cf := by have := hif.symm.trans hf'; simp at this; exact this.1.symm
    rw [hdecl] at hown2
    rw [← e1]; exact Option.some.inj (hC.2.2.2.1.symm.trans hown2)
  have h6 := u_fits hfc hkC hkind (Or.inr hlay) hif hpt (hn b) (hfit b)
  refine W.putFinK hC.1 hC.2.1 hC.2.2.2.1 (hC.tb hlk) hif hst hcf (hC.2.2.2.2.2.2.2.2.2.2 hy) (by rw [q2]; exact h6) q1 q3 (by rw [hsl]; exact k2_hasslot (q4 fi hfi)) rfl rfl hd fun H1 e1 z oq => ?_
  rw [hsl] at e1
  have hP1 : va_P D zCl (zw b G n (va_up σ i (zO ci (fs.set fi v)))) H1 := by
    rw [← zw_set, ze_O]
    refine hP.set zw_D he ?_ oq
    refine ⟨_, hc, ?_⟩
    rw [List.map_set]
    exact t_OB.to (V := updV (vp_V (fs.map (zv b))) fi (zv b v)) ⟨_, e1, q2, q3, t_set q4 hap hfi (zv b v)⟩ (fun j _ => vp_updV_set (by rw [List.length_map]; exact hlen) (zv b v) j)
  exact k p l e s m args below meth c b G D hC H1 _ ls (z.trans hz) hP1 (hS.put z oq (Nat.le_add_right b i)) hl
/-- new cells -/
theorem zP_push {b : Nat} {G : Nat → ClassId} {D : va_G} {H H1 : Heap} {e : va_E} (hz : H.size = b + n) (hP : va_P D zCl (zw b G n σ) H) (o1 : ∀ q, q < H.size → H1[q]? = H[q]?) (he : va_at D zCl (b + n, ze b G e) H1) : va_P D zCl (zw b G (n + 1) (va_up σ n e)) H1 := by
  rw [← zw_push]
  refine va_P.app (hP.kept (fun k x hx => o1 x.1 ((hP k x hx).lt))) (fun k x hx => ?_)
  have hk : k < 1 := (List.getElem?_eq_some_iff.mp hx).1
  rw [show k = 0 by omega] at hx
  cases hx
  exact he
theorem zS_push {b : Nat} {s : State} {H H1 : Heap} {locs : List Loc} (hS : va_S (fun q => b ≤ q) s.heap H locs) (z : H1.size = H.size + 1) (o1 : ∀ q, q < H.size → H1[q]? = H[q]?) : va_S (fun q => b ≤ q) s.heap H1 locs :=
  ⟨Nat.le_trans hS.1 (by omega), fun x h1 h2 => (o1 x (Nat.lt_of_lt_of_le h1 hS.1)).trans (hS.2.1 x h1 h2), hS.2.2⟩
theorem z_newl {N : Nat} {a : ArrayType} (hd : decode (mB M) pc = .ok (.newarray a, 2)) (ha : newarray.typeOf a = .long) (hq : pc + 2 = q) (hw : Cond.arrayClass .long ∈ TB) (hN : N < 67108864) (hc : kc + 1 ≤ (mR M).cells) (hs : ks + N ≤ (mR M).slots) (k : Z M Po (kc + 1) (ks + N) (n + 1) (va_up σ n (zN N (fun _ => 0))) q lv (.ref n :: st)) : Z M Po kc ks n σ pc lv (.int (nI N) :: st) := by
  subst hq; intro p l e s m args below meth c b G D hC H locs ls hz hP hS hl
  refine va_newaK (N := N) hC.1 hC.2.1 (by rw [ha]; exact hC.tb hw) rfl hd rfl (nI_pos (by omega)) (nI_clamp (by omega)) (by rw [ha]; show N * 8 ≤ _; omega) hc hs rfl fun H1 cA e1 z1 o1 hAr hNm => ?_
  rw [ha] at e1 hNm
  have hG : cA = G 1 := by
    have h1 : s.vm.findClass ("[" ++ FieldType.long.toString) = some (G 1) := (hC.k.2 1 _ rfl).2
    exact Option.some.inj (hNm.symm.trans h1)
  subst hG
  have hP1 := zP_push (H1 := H1) (e := zN N (fun _ => 0)) hz hP o1 (by rw [ze_N, ← hz]; exact e1)
  have := k p l e s m args below meth c b G D hC H1 locs ls (by rw [z1, hz, Nat.add_assoc]) hP1 (zS_push hS z1 o1) hl
  rw [hz]
  exact this
theorem z_newi {N : Nat} {a : ArrayType} (hd : decode (mB M) pc = .ok (.newarray a, 2)) (ha : newarray.typeOf a = .int) (hq : pc + 2 = q) (hw : Cond.arrayClass .int ∈ TB) (hN : N < 67108864) (hc : kc + 1 ≤ (mR M).cells) (hs : ks + N ≤ (mR M).slots) (k : Z M Po (kc + 1) (ks + N) (n + 1) (va_up σ n (zI N (fun _ => 0))) q lv (.ref n :: st)) : Z M Po kc ks n σ pc lv (.int (nI N) :: st) := by
  subst hq; intro p l e s m args below meth c b G D hC H locs ls hz hP hS hl
  refine va_newaK (N := N) hC.1 hC.2.1 (by rw [ha]; exact hC.tb hw) rfl hd rfl (nI_pos (by omega)) (nI_clamp (by omega)) (by rw [ha]; show N * 4 ≤ _; omega) hc hs rfl fun H1 cA e1 z1 o1 hAr hNm => ?_
  rw [ha] at e1 hNm
  have hG : cA = G 0 := by
    have h1 : s.vm.findClass ("[" ++ FieldType.int.toString) = some (G 0) := (hC.k.2 0 _ rfl).2
    exact Option.some.inj (hNm.symm.trans h1)
  subst hG
  have hP1 := zP_push (H1 := H1) (e := zI N (fun _ => 0)) hz hP o1 (by rw [ze_I, ← hz]; exact e1)
  have := k p l e s m args below meth c b G D hC H1 locs ls (by rw [z1, hz, Nat.add_assoc]) hP1 (zS_push hS z1 o1) hl
  rw [hz]
  exact this
theorem z_newr {N idx : Nat} (hd : decode (mB M) pc = .ok (.anewarray idx, 3)) (hq : pc + 3 = q) (hcl : Cond.classLink (mY M).cls idx "RecurrentSeries$Series" ∈ TB) (hov : Cond.arrayOver (.object "RecurrentSeries$Series") ∈ NB) (hN : N < 67108864) (hc : kc + 1 ≤ (mR M).cells) (hs : ks + N ≤ (mR M).slots) (k : Z M Po (kc + 1) (ks + N) (n + 1) (va_up σ n (zR N (fun _ => none))) q lv (.ref n :: st)) : Z M Po kc ks n σ pc lv (.int (nI N) :: st) := by
  subst hq; intro p l e s m args below meth c b G D hC H locs ls hz hP hS hl
  have hNc : (nI N).toNatClampNeg = N := nI_clamp (by omega)
  refine W.anew hC.1 hC.2.1 hC.2.2.2.1 (hC.tb hcl) (va_AO.use (hC.nb hov)) rfl hd rfl (nI_pos (by omega)) (by rw [hNc]; omega) hc (by rw [hNc]; exact hs) fun cA kA comp f1 f2 f3 f4 => ?_
  rw [hNc]
  generalize hH1 : H.push ({ cls := cA, slots := Array.replicate N .null, vm := .none } : Cell) = H1
  have z1 : H1.size = H.size + 1 := by rw [← hH1, Array.size_push]
  have e1 : H1[H.size]? = some (arrV cA N (fun _ => .null)) := by rw [← hH1, Array.getElem?_push_size, ← arrV_new]
  have o1 : ∀ q : Nat, q < H.size → H1[q]? = H[q]? := fun q hq => by rw [← hH1, Array.getElem?_push, if_neg (Nat.ne_of_lt hq)]
  have hG : cA = G 2 := by
    obtain ⟨_, _, -, -, -, h1⟩ := (hC.k.2 2 _ rfl).2
    exact Option.some.inj (f1.symm.trans h1)
  subst hG
  have hP1 := zP_push (H1 := H1) (e := zR N (fun _ => none)) hz hP o1 (by rw [ze_R, ← hz]; exact e1)
  have := k p l e s m args below meth c b G D hC H1 locs ls (by rw [z1, hz, Nat.add_assoc]) hP1 (zS_push hS z1 o1) hl
  rw [hz]
  exact this
def zNw (own : String) (idx ci N : Nat) (fs : List Value) : Prop := ∃ (C : String) (T : u_T) (ty : Nat → FieldType), zCl[ci]? = some (C, T, N) ∧ (∀ w ∈ u_ws C T N, w ∈ TB) ∧ (∀ k, k < N → parseFieldDescriptor (T k).2.2.1 = some (ty k)) ∧ Cond.classLink own idx C ∈ TB ∧ Cond.instantiable C N ∈ TB ∧ Cond.initialized C ∈ TB ∧ ∀ b j, j < N → defaultValue (ty j) = vp_V (fs.map (zv b)) j
theorem z_new {idx N ci : Nat} {fs : List Value} (hd : decode (mB M) pc = .ok (.new idx, 3)) (hq : pc + 3 = q) (hF : zNw (mY M).cls idx ci N fs) (hc : kc + 1 ≤ (mR M).cells) (hs : ks + N ≤ (mR M).slots) (k : Z M Po (kc + 1) (ks + N) (n + 1) (va_up σ n (zO ci fs)) q lv (.ref n :: st)) : Z M Po kc ks n σ pc lv st := by
  subst hq; intro p l e s m args below meth c b G D hC H locs ls hz hP hS hl
  obtain ⟨C, T, ty, hcl, hws, hty, h1, h2, h3, hfs⟩ := hF
  have hKn := hC.k.1 ci _ hcl
  have hts : ∀ w ∈ TB, w.before args s = true := fun w h => hC.tb h
  refine W.newcK hC.1 hC.2.1 hC.2.2.2.1 (hC.tb h1) (hC.tb h2) (hC.tb h3) rfl hd hc hs hKn.2.1 rfl fun H1 kC hkC e1 z1 o1 => ?_
  have hP1 := zP_push (H1 := H1) (e := zO ci fs) hz hP o1 (by rw [ze_O, ← hz]; exact ⟨_, hcl, (u_born ty hts hws hKn hkC e1 hty).to (hfs b)⟩)
  have := k p l e s m args below meth c b G D hC H1 locs ls (by rw [z1, hz, Nat.add_assoc]) hP1 (zS_push hS z1 o1) hl
  rw [hz]
  exact this
/-- returns -/
theorem zQ_of {b : Nat} {G : Nat → ClassId} {D : va_G} {s : State} {args : Array Value} {H : Heap} {locs : List Loc} {r : Option Value} (h : Po r n σ) (hz : H.size = b + n) (hP : va_P D zCl (zw b G n σ) H) (hS : va_S (fun q => b ≤ q) s.heap H locs) (t : State) (ht : t.heap = H) : zQc b G D Po args s (.returned (r.map (zv b))) t :=
  ⟨⟨r, n, σ, rfl, h, by rw [ht]; exact hz, by rw [ht]; exact hP⟩, hS.F ht⟩
theorem z_iret {v : Int32} (hd : decode (mB M) pc = .ok (.ireturn, 1)) (hT : mT M = some .int) (hc : kc ≤ (mR M).cells) (hs : ks ≤ (mR M).slots) (h : Po (some (.int v)) n σ) : Z M Po kc ks n σ pc lv [.int v] := by
  intro p l e s m args below meth c b G D hC H locs ls hz hP hS hl
  exact W.widen hc hs (W.iret hC.1 hC.2.1 (hC.2.2.2.2.2.2.1.trans hT) (fun t ht _ => zQ_of h hz hP hS t ht) hS.2.2 hd hC.2.2.2.2.2.2.2.1)
theorem z_zret {v : Int32} {ty : FieldType} (hd : decode (mB M) pc = .ok (.ireturn, 1)) (hT : mT M = some ty) (hn : narrow ty (.int v) = .int v) (hc : kc ≤ (mR M).cells) (hs : ks ≤ (mR M).slots) (h : Po (some (.int v)) n σ) : Z M Po kc ks n σ pc lv [.int v] := by
  intro p l e s m args below meth c b G D hC H locs ls hz hP hS hl
  exact W.widen hc hs (W.zret hC.1 hC.2.1 (hC.2.2.2.2.2.2.1.trans hT) hn (fun t ht _ => zQ_of h hz hP hS t ht) hS.2.2 hd hC.2.2.2.2.2.2.2.1)
theorem z_lret {v : Int64} (hd : decode (mB M) pc = .ok (.lreturn, 1)) (hT : mT M = some .long) (hc : kc ≤ (mR M).cells) (hs : ks ≤ (mR M).slots) (h : Po (some (.long v)) n σ) : Z M Po kc ks n σ pc lv [.long v] := by
  intro p l e s m args below meth c b G D hC H locs ls hz hP hS hl
  exact W.widen hc hs (W.lret hC.1 hC.2.1 (hC.2.2.2.2.2.2.1.trans hT) (fun t ht _ => zQ_of h hz hP hS t ht) hS.2.2 hd hC.2.2.2.2.2.2.2.1)
theorem z_vret (hd : decode (mB M) pc = .ok (.return_, 1)) (hT : mT M = none) (hc : kc ≤ (mR M).cells) (hs : ks ≤ (mR M).slots) (h : Po none n σ) : Z M Po kc ks n σ pc lv [] := by
  intro p l e s m args below meth c b G D hC H locs ls hz hP hS hl
  exact W.widen hc hs (W.vret hC.1 hC.2.1 (hC.2.2.2.2.2.2.1.trans hT) (fun t ht _ => zQ_of h hz hP hS t ht) hS.2.2 hd hC.2.2.2.2.2.2.2.1)
/-- calls -/
theorem z_after {p : Program} {l : Launch} {e : Env} {R : Room} {s : State} {m : MethodId} {args : Array Value} {below : List Frame} {meth : Method} {c : Code} {H : Heap} {locs : List Loc} {cells slots mc ms : Nat} {Q : State → Prop} {b : Nat} {G : Nat → ClassId} {D : va_G} {Po' : Option Value → Nat → zWd → Prop} {ls : Array Slot} {st0 rest : List Value} {a : Array Value}
    (hr : va_Run p l e R s m args below meth c H locs cells slots mc ms (F0 m pc ls st0) rest (zQc b G D Po' a) (fun q => b ≤ q)) (hS : va_S (fun q => b ≤ q) s.heap H locs)
    (kk : ∀ (r : Option Value) (n' : Nat) (σ' : zWd), Po' r n' σ' → ∀ (H1 : Heap) (locs1 : List Loc), H1.size = b + n' → va_P D zCl (zw b G n' σ') H1 → va_S (fun q => b ≤ q) s.heap H1 locs1 → W p l e R s m args below meth c H1 locs1 (cells + mc) (slots + ms) Q (F0 m (pc + 3) ls ((r.map (zv b)).toList ++ rest))) : W p l e R s m args below meth c H locs cells slots Q (F0 m pc ls st0) := by
  intro T hT X
  obtain ⟨v, st₀, t, T', L, h0, X', hL, e1, e2, ⟨⟨r, n', σ', hv, hp, hz, hP⟩, hF⟩, st⟩ := hr T hT X
  cases hv
  obtain ⟨hF1, hF2⟩ := hF
  rw [h0] at hF1 hF2
  obtain ⟨t2, a1, b1⟩ := kk r n' σ' hp T'.heap (locs ++ L) (by rw [e1]; exact hz) (by rw [e1]; exact hP)
    ⟨Nat.le_trans hS.1 (by rw [e1]; exact hF1), fun q h1 h2 => by rw [e1, hF2 q (Nat.lt_of_lt_of_le h1 hS.1) h2]; exact hS.2.1 q h1 h2, fun q hq => by
      rcases List.mem_append.mp hq with h | h
      · exact hS.2.2 q h
      · exact hL q h⟩ T' rfl X'
  exact ⟨t2, st t2 a1, b1⟩
theorem zPc_blind {b : Nat} {G : Nat → ClassId} {D : va_G} {avs : List Value} : FrameBlind (zPc b G D n σ avs) := by
  intro a U g mk h
  obtain ⟨h0, hz, hP, hK, hN⟩ := h
  exact ⟨h0, hz, hP, va_K.moved (u := U) (U := U.calling g mk a) (Vm.Alike.refl U.vm) hK, NB_same (s := U) (U := U.calling g mk a) rfl hN⟩
theorem zPc_pre {b : Nat} {G : Nat → ClassId} {D : va_G} {avs : List Value} {p : Program} {s : State} {m : MethodId} {args : Array Value} {meth : Method} {c : Code} {H : Heap} (hC : zCx M b G D p s m args meth c) (hz : H.size = b + n) (hP : va_P D zCl (zw b G n σ) H) (U : State) (hU : U.heap = H) (hW : s.WarmedH U.vm) : zPc b G D n σ avs (avs.map (zv b)).toArray U :=
  ⟨rfl, by rw [hU]; exact hz, by rw [hU]; exact hP, va_K.moved hW.alike hC.k, NB_warm hW hC.2.2.2.2.2.1⟩
def zCk (M' : zMI) (k : Nat) : Prop := Cond.code (mY M') (mB M') (mL M') (mT M') ∈ TB ∧ Cond.initialized (mY M').cls ∈ TB ∧ (mY M').cls ≠ "java/lang/invoke/MethodHandle" ∧ (mY M').cls ≠ "java/lang/invoke/VarHandle" ∧ (parseMethodDescriptor (mY M').desc).map (fun d => d.parameters.length) = some k
def zLk (own : String) (idx : Nat) (y : MethodName) : Prop := Cond.methodLink own idx y ∈ TB ∨ ∃ host : String, Cond.methodLinkNest own idx y host ∈ NB
def zFit (M M' : zMI) : Prop := (mR M').frames + 1 ≤ (mR M).frames ∧ 8 + (mL M' + 11) + (mR M').locals ≤ (mR M).locals
theorem z_cat {b : Nat} {rest : List Value} {m : MethodId} {pc : Nat} {ls : Array Slot} {r : List Value} (h : (rest.map fun v => v.category).sum ≤ 8) : 2 * (F0 m pc ls r).monitorRoom + ((rest.map (zv b)).map fun v => v.category).sum ≤ 8 := by
  refine lv_room ?_
  rw [List.map_map]
  have : ((fun v : Value => v.category) ∘ zv b) = fun v => v.category := by funext v; exact zv_cat b v
  rw [this]
  exact h
theorem z_callS {M' : zMI} {idx : Nat} {As rest : List Value} {Po' : Option Value → Nat → zWd → Prop} (hd : decode (mB M) pc = .ok (.invokestatic idx, 3)) (hq : pc + 3 = q) (hM : Ct M' As n σ Po') (hk : zCk M' As.length) (hl0 : zLk (mY M).cls idx (mY M')) (hst : Cond.static (mY M') ∈ TB) (hR : zFit M M') (hcat : (rest.map fun v => v.category).sum ≤ 8) (hc : kc + (mR M').cells ≤ (mR M).cells) (hs : ks + (mR M').slots ≤ (mR M).slots)
    (k : ∀ (r : Option Value) (n' : Nat) (σ' : zWd), Po' r n' σ' → Z M Po (kc + (mR M').cells) (ks + (mR M').slots) n' σ' q lv (r.toList ++ rest)) : Z M Po kc ks n σ pc lv (As.reverse ++ rest) := by
  subst hq; intro p l e s m args below meth c b G D hC H locs ls hz hP hS hl
  have hts : ∀ w ∈ mW M, w.before args s = true := hC.2.2.2.2.1
  have hpre : PreS s H (zPc b G D n σ As) (As.map (zv b)) := ⟨zPc_blind, zPc_pre hC hz hP⟩
  have hstk : (As.reverse ++ rest).map (zv b) = (As.map (zv b)).reverse ++ rest.map (zv b) := by rw [List.map_append, List.map_reverse]
  have hrun : va_Run p l e (mR M) s m args below meth c H locs kc ks (mR M').cells (mR M').slots (F0 m pc ls ((As.reverse ++ rest).map (zv b))) (rest.map (zv b)) (zQc b G D Po' (As.map (zv b)).toArray) (fun q => b ≤ q) := by
    rcases hl0 with hl0 | ⟨host, hl0⟩
    · exact va_runS (n := As.length) ⟨hC.1, hC.2.1, hC.2.2.1, hC.2.2.2.1, hts⟩ (hM l b G D) ⟨callB_of As.length hts (mW_good hk.1) rfl rfl rfl (hC.tb hk.2.1) (hC.tb hl0) hk.2.2 hR, hC.tb hst⟩ hpre rfl (List.length_map _) hl.1 hstk (z_cat hcat) hd ⟨hc, hs⟩
    · exact va_runSN (n := As.length) ⟨hC.1, hC.2.1, hC.2.2.1, hC.2.2.2.1, hts⟩ (hM l b G D) ⟨va_cnB As.length hts (mW_good hk.1) rfl rfl rfl (hC.nb hl0) (hC.tb hk.2.1) hk.2.2 hR, hC.tb hst, trivial⟩ hpre rfl (List.length_map _) hl.1 hstk (z_cat hcat) hd ⟨hc, hs⟩
  refine z_after hrun hS (fun r n' σ' hp H1 locs1 hz1 hP1 hS1 => ?_)
  have := k r n' σ' hp p l e s m args below meth c b G D hC H1 locs1 ls hz1 hP1 hS1 hl
  rw [List.map_append] at this
  cases r <;> exact this
theorem z_callV {M' : zMI} {idx i ci : Nat} {fs As rest : List Value} {Po' : Option Value → Nat → zWd → Prop} {vc : vw_C} (hd : decode (mB M) pc = .ok (.invokevirtual idx, 3)) (hq : pc + 3 = q) (hM : Ct M' (.ref i :: As) n σ Po') (hs0 : σ i = zO ci fs) (hi : i < n) (hvc : zCl[ci]? = some vc) (hk : zCk M' As.length) (hl0 : zLk (mY M).cls idx (mY M')) (hst : Cond.instanceMethod (mY M') ∈ TB) (hsel : Cond.selects vc.1 (mY M') (mY M') ∈ TB) (hR : zFit M M') (hcat : (rest.map fun v => v.category).sum ≤ 8) (hc : kc + (mR M').cells ≤ (mR M).cells) (hs : ks + (mR M').slots ≤ (mR M).slots)
    (k : ∀ (r : Option Value) (n' : Nat) (σ' : zWd), Po' r n' σ' → Z M Po (kc + (mR M').cells) (ks + (mR M').slots) n' σ' q lv (r.toList ++ rest)) : Z M Po kc ks n σ pc lv (As.reverse ++ .ref i :: rest) := by
  subst hq; intro p l e s m args below meth c b G D hC H locs ls hz hP hS hl
  have hts : ∀ w ∈ mW M, w.before args s = true := hC.2.2.2.2.1
  have hpre : PreV s H vc.1 (b + i) (zPc b G D n σ (.ref i :: As)) (As.map (zv b)) := ⟨zPc_blind, va_recv hC.k hP hvc (zw_O hs0 hi), zPc_pre hC hz hP⟩
  have hstk : (As.reverse ++ .ref i :: rest).map (zv b) = (As.map (zv b)).reverse ++ .ref (b + i) :: rest.map (zv b) := by rw [List.map_append, List.map_reverse]; rfl
  have hrun : va_Run p l e (mR M) s m args below meth c H locs kc ks (mR M').cells (mR M').slots (F0 m pc ls ((As.reverse ++ .ref i :: rest).map (zv b))) (rest.map (zv b)) (zQc b G D Po' (Value.ref (b + i) :: As.map (zv b)).toArray) (fun q => b ≤ q) := by
    rcases hl0 with hl0 | ⟨host, hl0⟩
    · exact va_runV (n := As.length) ⟨hC.1, hC.2.1, hC.2.2.1, hC.2.2.2.1, hts⟩ (hM l b G D) ⟨callB_of As.length hts (mW_good hk.1) rfl rfl rfl (hC.tb hk.2.1) (hC.tb hl0) hk.2.2 hR, hC.tb hst, hC.tb hsel⟩ hpre rfl (List.length_map _) hl.1 hstk (z_cat hcat) hd ⟨hc, hs⟩
    · exact va_runVN (n := As.length) ⟨hC.1, hC.2.1, hC.2.2.1, hC.2.2.2.1, hts⟩ (hM l b G D) ⟨va_cnB As.length hts (mW_good hk.1) rfl rfl rfl (hC.nb hl0) (hC.tb hk.2.1) hk.2.2 hR, hC.tb hst, hC.tb hsel⟩ hpre rfl (List.length_map _) hl.1 hstk (z_cat hcat) hd ⟨hc, hs⟩
  refine z_after hrun hS (fun r n' σ' hp H1 locs1 hz1 hP1 hS1 => ?_)
  have := k r n' σ' hp p l e s m args below meth c b G D hC H1 locs1 ls hz1 hP1 hS1 hl
  rw [List.map_append] at this
  cases r <;> exact this
theorem z_callI {M' : zMI} {idx i : Nat} {As rest : List Value} {Po' : Option Value → Nat → zWd → Prop} (hd : decode (mB M) pc = .ok (.invokespecial idx, 3)) (hq : pc + 3 = q) (hM : Ct M' (.ref i :: As) n σ Po') (hT : mT M' = none) (hy : (mY M').name = "<init>") (hk : zCk M' As.length) (hl0 : zLk (mY M).cls idx (mY M')) (hst : Cond.instanceMethod (mY M') ∈ TB) (hR : zFit M M') (hcat : (rest.map fun v => v.category).sum ≤ 8) (hc : kc + (mR M').cells ≤ (mR M).cells) (hs : ks + (mR M').slots ≤ (mR M).slots)
    (k : ∀ (r : Option Value) (n' : Nat) (σ' : zWd), Po' r n' σ' → Z M Po (kc + (mR M').cells) (ks + (mR M').slots) n' σ' q lv (r.toList ++ rest)) : Z M Po kc ks n σ pc lv (As.reverse ++ .ref i :: rest) := by
  subst hq; intro p l e s m args below meth c b G D hC H locs ls hz hP hS hl
  have hts : ∀ w ∈ mW M, w.before args s = true := hC.2.2.2.2.1
  have hpre : PreS s H (zPc b G D n σ (.ref i :: As)) (.ref (b + i) :: As.map (zv b)) := ⟨zPc_blind, zPc_pre (avs := .ref i :: As) hC hz hP⟩
  have hstk : (As.reverse ++ .ref i :: rest).map (zv b) = (As.map (zv b)).reverse ++ .ref (b + i) :: rest.map (zv b) := by rw [List.map_append, List.map_reverse]; rfl
  have hrun : va_Run p l e (mR M) s m args below meth c H locs kc ks (mR M').cells (mR M').slots (F0 m pc ls ((As.reverse ++ .ref i :: rest).map (zv b))) (rest.map (zv b)) (zQc b G D Po' (Value.ref (b + i) :: As.map (zv b)).toArray) (fun q => b ≤ q) := by
    rcases hl0 with hl0 | ⟨host, hl0⟩
    · exact va_runI (n := As.length) ⟨hC.1, hC.2.1, hC.2.2.1, hC.2.2.2.1, hts⟩ (hM l b G D) ⟨hT ▸ callB_of As.length hts (mW_good hk.1) rfl rfl rfl (hC.tb hk.2.1) (hC.tb hl0) hk.2.2 hR, hy, hC.tb hst⟩ hpre rfl (List.length_map _) hl.1 hstk (z_cat hcat) hd ⟨hc, hs⟩
    · exact va_runIN (n := As.length) ⟨hC.1, hC.2.1, hC.2.2.1, hC.2.2.2.1, hts⟩ (hM l b G D) ⟨hT ▸ va_cnB As.length hts (mW_good hk.1) rfl rfl rfl (hC.nb hl0) (hC.tb hk.2.1) hk.2.2 hR, hy, hC.tb hst⟩ hpre rfl (List.length_map _) hl.1 hstk (z_cat hcat) hd ⟨hc, hs⟩
  refine z_after hrun hS (fun r n' σ' hp H1 locs1 hz1 hP1 hS1 => ?_)
  have := k r n' σ' hp p l e s m args below meth c b G D hC H1 locs1 ls hz1 hP1 hS1 hl
  rw [List.map_append] at this
  cases r <;> exact this
theorem z_objInit {idx i : Nat} {rest : List Value} (hd : decode (mB M) pc = .ok (.invokespecial idx, 3)) (hq : pc + 3 = q) (h1 : Cond.methodLink (mY M).cls idx Lib.objectInit ∈ TB) (h2 : Cond.instanceMethod Lib.objectInit ∈ TB) (h3 : Cond.code Lib.objectInit ⟨#[0xb1]⟩ 1 none ∈ TB) (hf : 1 ≤ (mR M).frames) (hlo : 20 ≤ (mR M).locals) (hcat : (rest.map fun v => v.category).sum ≤ 8) (k : Z M Po kc ks n σ q lv rest) : Z M Po kc ks n σ pc lv (.ref i :: rest) := by
  subst hq; intro p l e s m args below meth c b G D hC H locs ls hz hP hS hl
  refine W.objInit hC.1 hC.2.1 hC.2.2.2.1 (hC.tb h1) (hC.tb h2) (hC.tb h3) rfl (by rw [hC.2.2.1]; exact hl.1) rfl hd hf ?_ (k p l e s m args below meth c b G D hC H locs ls hz hP hS hl)
  have := z_cat (b := b) (m := m) (pc := pc) (ls := ls) (r := (Value.ref i :: rest).map (zv b)) hcat
  omega

end ZW
end
section
/-! What the tables say of each field, call and constant that the code links -/
theorem tb_t {w : Cond} (i : Nat) (h : tables_1[i]? = some w) (hg : goodWord w = true) : w ∈ TB := TB_in (List.mem_append_right _ (List.mem_of_getElem? h)) hg
theorem tb_s {w : Cond} (i : Nat) (h : (k2_sels lw_privs)[i]? = some w) (hg : goodWord w = true) : w ∈ TB := TB_in (List.mem_append_left _ (List.mem_of_getElem? h)) hg
theorem nb_t {w : Cond} (i : Nat) (h : tables_1[i]? = some w) (hg : zIsNest w = true) : w ∈ NB := NB_in (List.mem_of_getElem? h) hg
theorem uw_rs : ∀ w ∈ u_ws "RecurrentSeries" zT_rs 9, w ∈ TB := by
  show ∀ w ∈ [u_lay "RecurrentSeries" zT_rs 0, u_lay "RecurrentSeries" zT_rs 1, u_lay "RecurrentSeries" zT_rs 2, u_lay "RecurrentSeries" zT_rs 3, u_lay "RecurrentSeries" zT_rs 4, u_lay "RecurrentSeries" zT_rs 5, u_lay "RecurrentSeries" zT_rs 6, u_lay "RecurrentSeries" zT_rs 7, u_lay "RecurrentSeries" zT_rs 8], w ∈ TB
  exact List.forall_mem_cons.mpr ⟨tb_t 105 (by decide +kernel) rfl, List.forall_mem_cons.mpr ⟨tb_t 107 (by decide +kernel) rfl, List.forall_mem_cons.mpr ⟨tb_t 109 (by decide +kernel) rfl, List.forall_mem_cons.mpr ⟨tb_t 111 (by decide +kernel) rfl, List.forall_mem_cons.mpr ⟨tb_t 113 (by decide +kernel) rfl, List.forall_mem_cons.mpr ⟨tb_t 115 (by decide +kernel) rfl, List.forall_mem_cons.mpr ⟨tb_t 117 (by decide +kernel) rfl, List.forall_mem_cons.mpr ⟨tb_t 119 (by decide +kernel) rfl, List.forall_mem_cons.mpr ⟨tb_t 121 (by decide +kernel) rfl, fun _ h => absurd h List.not_mem_nil⟩⟩⟩⟩⟩⟩⟩⟩⟩
theorem ft_rs : zFT 0 := ⟨_, zT_rs, 9, zY_rs, rfl, zY_rs_ok, zT_rs_nm⟩
theorem uw_se : ∀ w ∈ u_ws "RecurrentSeries$Series" zT_se 3, w ∈ TB := by
  show ∀ w ∈ [u_lay "RecurrentSeries$Series" zT_se 0, u_lay "RecurrentSeries$Series" zT_se 1, u_lay "RecurrentSeries$Series" zT_se 2], w ∈ TB
  exact List.forall_mem_cons.mpr ⟨tb_t 89 (by decide +kernel) rfl, List.forall_mem_cons.mpr ⟨tb_t 91 (by decide +kernel) rfl, List.forall_mem_cons.mpr ⟨tb_t 93 (by decide +kernel) rfl, fun _ h => absurd h List.not_mem_nil⟩⟩⟩
theorem ft_se : zFT 1 := ⟨_, zT_se, 3, zY_se, rfl, zY_se_ok, zT_se_nm⟩
theorem uw_fi : ∀ w ∈ u_ws "RecurrentSeries$Finder" zT_fi 3, w ∈ TB := by
  show ∀ w ∈ [u_lay "RecurrentSeries$Finder" zT_fi 0, u_lay "RecurrentSeries$Finder" zT_fi 1, u_lay "RecurrentSeries$Finder" zT_fi 2], w ∈ TB
  exact List.forall_mem_cons.mpr ⟨tb_t 28 (by decide +kernel) rfl, List.forall_mem_cons.mpr ⟨tb_t 30 (by decide +kernel) rfl, List.forall_mem_cons.mpr ⟨tb_t 32 (by decide +kernel) rfl, fun _ h => absurd h List.not_mem_nil⟩⟩⟩
theorem ft_fi : zFT 2 := ⟨_, zT_fi, 3, zY_fi, rfl, zY_fi_ok, zT_fi_nm⟩
theorem uw_sk : ∀ w ∈ u_ws "RecurrentSeries$Seeker" zT_sk 5, w ∈ TB := by
  show ∀ w ∈ [u_lay "RecurrentSeries$Seeker" zT_sk 0, u_lay "RecurrentSeries$Seeker" zT_sk 1, u_lay "RecurrentSeries$Seeker" zT_sk 2, u_lay "RecurrentSeries$Seeker" zT_sk 3, u_lay "RecurrentSeries$Seeker" zT_sk 4], w ∈ TB
  exact List.forall_mem_cons.mpr ⟨tb_t 47 (by decide +kernel) rfl, List.forall_mem_cons.mpr ⟨tb_t 49 (by decide +kernel) rfl, List.forall_mem_cons.mpr ⟨tb_t 51 (by decide +kernel) rfl, List.forall_mem_cons.mpr ⟨tb_t 53 (by decide +kernel) rfl, List.forall_mem_cons.mpr ⟨tb_t 55 (by decide +kernel) rfl, fun _ h => absurd h List.not_mem_nil⟩⟩⟩⟩⟩
theorem ft_sk : zFT 3 := ⟨_, zT_sk, 5, zY_sk, rfl, zY_sk_ok, zT_sk_nm⟩
theorem uw_dv : ∀ w ∈ u_ws "RecurrentSeries$Divider" zT_dv 2, w ∈ TB := by
  show ∀ w ∈ [u_lay "RecurrentSeries$Divider" zT_dv 0, u_lay "RecurrentSeries$Divider" zT_dv 1], w ∈ TB
  exact List.forall_mem_cons.mpr ⟨tb_t 66 (by decide +kernel) rfl, List.forall_mem_cons.mpr ⟨tb_t 68 (by decide +kernel) rfl, fun _ h => absurd h List.not_mem_nil⟩⟩
theorem ft_dv : zFT 4 := ⟨_, zT_dv, 2, zY_dv, rfl, zY_dv_ok, zT_dv_nm⟩
theorem uw_mo : ∀ w ∈ u_ws "RecurrentSeriesModel" zT_mo 13, w ∈ TB := by
  show ∀ w ∈ [u_lay "RecurrentSeriesModel" zT_mo 0, u_lay "RecurrentSeriesModel" zT_mo 1, u_lay "RecurrentSeriesModel" zT_mo 2, u_lay "RecurrentSeriesModel" zT_mo 3, u_lay "RecurrentSeriesModel" zT_mo 4, u_lay "RecurrentSeriesModel" zT_mo 5, u_lay "RecurrentSeriesModel" zT_mo 6, u_lay "RecurrentSeriesModel" zT_mo 7, u_lay "RecurrentSeriesModel" zT_mo 8, u_lay "RecurrentSeriesModel" zT_mo 9, u_lay "RecurrentSeriesModel" zT_mo 10, u_lay "RecurrentSeriesModel" zT_mo 11, u_lay "RecurrentSeriesModel" zT_mo 12], w ∈ TB
  exact List.forall_mem_cons.mpr ⟨tb_t 322 (by decide +kernel) rfl, List.forall_mem_cons.mpr ⟨tb_t 324 (by decide +kernel) rfl, List.forall_mem_cons.mpr ⟨tb_t 326 (by decide +kernel) rfl, List.forall_mem_cons.mpr ⟨tb_t 328 (by decide +kernel) rfl, List.forall_mem_cons.mpr ⟨tb_t 330 (by decide +kernel) rfl, List.forall_mem_cons.mpr ⟨tb_t 332 (by decide +kernel) rfl, List.forall_mem_cons.mpr ⟨tb_t 334 (by decide +kernel) rfl, List.forall_mem_cons.mpr ⟨tb_t 336 (by decide +kernel) rfl, List.forall_mem_cons.mpr ⟨tb_t 338 (by decide +kernel) rfl, List.forall_mem_cons.mpr ⟨tb_t 340 (by decide +kernel) rfl, List.forall_mem_cons.mpr ⟨tb_t 342 (by decide +kernel) rfl, List.forall_mem_cons.mpr ⟨tb_t 344 (by decide +kernel) rfl, List.forall_mem_cons.mpr ⟨tb_t 346 (by decide +kernel) rfl, fun _ h => absurd h List.not_mem_nil⟩⟩⟩⟩⟩⟩⟩⟩⟩⟩⟩⟩⟩
theorem ft_mo : zFT 5 := ⟨_, zT_mo, 13, zY_mo, rfl, zY_mo_ok, zT_mo_nm⟩
theorem fg_rs_11 : zFG "RecurrentSeries" 11 0 0 := ⟨_, zT_rs, 9, rfl, by decide, uw_rs, Or.inl (tb_t 96 (by decide +kernel) rfl)⟩
theorem fg_rs_15 : zFG "RecurrentSeries" 15 0 1 := ⟨_, zT_rs, 9, rfl, by decide, uw_rs, Or.inl (tb_t 97 (by decide +kernel) rfl)⟩
theorem fg_rs_19 : zFG "RecurrentSeries" 19 0 2 := ⟨_, zT_rs, 9, rfl, by decide, uw_rs, Or.inl (tb_t 98 (by decide +kernel) rfl)⟩
theorem fg_rs_22 : zFG "RecurrentSeries" 22 0 3 := ⟨_, zT_rs, 9, rfl, by decide, uw_rs, Or.inl (tb_t 99 (by decide +kernel) rfl)⟩
theorem fg_rs_28 : zFG "RecurrentSeries" 28 0 4 := ⟨_, zT_rs, 9, rfl, by decide, uw_rs, Or.inl (tb_t 100 (by decide +kernel) rfl)⟩
theorem fg_rs_35 : zFG "RecurrentSeries" 35 0 5 := ⟨_, zT_rs, 9, rfl, by decide, uw_rs, Or.inl (tb_t 101 (by decide +kernel) rfl)⟩
theorem fg_rs_42 : zFG "RecurrentSeries" 42 0 6 := ⟨_, zT_rs, 9, rfl, by decide, uw_rs, Or.inl (tb_t 102 (by decide +kernel) rfl)⟩
theorem fg_rs_47 : zFG "RecurrentSeries" 47 0 7 := ⟨_, zT_rs, 9, rfl, by decide, uw_rs, Or.inl (tb_t 103 (by decide +kernel) rfl)⟩
theorem fg_rs_51 : zFG "RecurrentSeries" 51 0 8 := ⟨_, zT_rs, 9, rfl, by decide, uw_rs, Or.inl (tb_t 104 (by decide +kernel) rfl)⟩
theorem fg_rs_78 : zFG "RecurrentSeries" 78 1 0 := ⟨_, zT_se, 3, rfl, by decide, uw_se, Or.inr ⟨"RecurrentSeries", nb_t 80 (by decide +kernel) rfl⟩⟩
theorem fg_rs_81 : zFG "RecurrentSeries" 81 1 2 := ⟨_, zT_se, 3, rfl, by decide, uw_se, Or.inr ⟨"RecurrentSeries", nb_t 88 (by decide +kernel) rfl⟩⟩
theorem fg_rs_99 : zFG "RecurrentSeries" 99 1 1 := ⟨_, zT_se, 3, rfl, by decide, uw_se, Or.inr ⟨"RecurrentSeries", nb_t 85 (by decide +kernel) rfl⟩⟩
theorem fg_mo_7 : zFG "RecurrentSeriesModel" 7 5 2 := ⟨_, zT_mo, 13, rfl, by decide, uw_mo, Or.inl (tb_t 311 (by decide +kernel) rfl)⟩
theorem fg_mo_13 : zFG "RecurrentSeriesModel" 13 5 3 := ⟨_, zT_mo, 13, rfl, by decide, uw_mo, Or.inl (tb_t 312 (by decide +kernel) rfl)⟩
theorem fg_mo_17 : zFG "RecurrentSeriesModel" 17 5 4 := ⟨_, zT_mo, 13, rfl, by decide, uw_mo, Or.inl (tb_t 313 (by decide +kernel) rfl)⟩
theorem fg_mo_20 : zFG "RecurrentSeriesModel" 20 5 5 := ⟨_, zT_mo, 13, rfl, by decide, uw_mo, Or.inl (tb_t 314 (by decide +kernel) rfl)⟩
theorem fg_mo_23 : zFG "RecurrentSeriesModel" 23 5 6 := ⟨_, zT_mo, 13, rfl, by decide, uw_mo, Or.inl (tb_t 315 (by decide +kernel) rfl)⟩
theorem fg_mo_26 : zFG "RecurrentSeriesModel" 26 5 7 := ⟨_, zT_mo, 13, rfl, by decide, uw_mo, Or.inl (tb_t 316 (by decide +kernel) rfl)⟩
theorem fg_mo_29 : zFG "RecurrentSeriesModel" 29 5 8 := ⟨_, zT_mo, 13, rfl, by decide, uw_mo, Or.inl (tb_t 317 (by decide +kernel) rfl)⟩
theorem fg_mo_32 : zFG "RecurrentSeriesModel" 32 5 9 := ⟨_, zT_mo, 13, rfl, by decide, uw_mo, Or.inl (tb_t 318 (by decide +kernel) rfl)⟩
theorem fg_mo_35 : zFG "RecurrentSeriesModel" 35 5 10 := ⟨_, zT_mo, 13, rfl, by decide, uw_mo, Or.inl (tb_t 319 (by decide +kernel) rfl)⟩
theorem fg_mo_38 : zFG "RecurrentSeriesModel" 38 5 11 := ⟨_, zT_mo, 13, rfl, by decide, uw_mo, Or.inl (tb_t 320 (by decide +kernel) rfl)⟩
theorem fg_mo_41 : zFG "RecurrentSeriesModel" 41 5 12 := ⟨_, zT_mo, 13, rfl, by decide, uw_mo, Or.inl (tb_t 321 (by decide +kernel) rfl)⟩
theorem fg_mo_48 : zFG "RecurrentSeriesModel" 48 5 0 := ⟨_, zT_mo, 13, rfl, by decide, uw_mo, Or.inl (tb_t 309 (by decide +kernel) rfl)⟩
theorem fg_mo_71 : zFG "RecurrentSeriesModel" 71 5 1 := ⟨_, zT_mo, 13, rfl, by decide, uw_mo, Or.inl (tb_t 310 (by decide +kernel) rfl)⟩
theorem fg_dv_9 : zFG "RecurrentSeries$Divider" 9 4 0 := ⟨_, zT_dv, 2, rfl, by decide, uw_dv, Or.inl (tb_t 64 (by decide +kernel) rfl)⟩
theorem fg_dv_15 : zFG "RecurrentSeries$Divider" 15 4 1 := ⟨_, zT_dv, 2, rfl, by decide, uw_dv, Or.inl (tb_t 65 (by decide +kernel) rfl)⟩
theorem fg_dv_22 : zFG "RecurrentSeries$Divider" 22 1 0 := ⟨_, zT_se, 3, rfl, by decide, uw_se, Or.inr ⟨"RecurrentSeries", nb_t 78 (by decide +kernel) rfl⟩⟩
theorem fg_dv_32 : zFG "RecurrentSeries$Divider" 32 1 1 := ⟨_, zT_se, 3, rfl, by decide, uw_se, Or.inr ⟨"RecurrentSeries", nb_t 84 (by decide +kernel) rfl⟩⟩
theorem fg_fi_9 : zFG "RecurrentSeries$Finder" 9 2 0 := ⟨_, zT_fi, 3, rfl, by decide, uw_fi, Or.inl (tb_t 25 (by decide +kernel) rfl)⟩
theorem fg_fi_15 : zFG "RecurrentSeries$Finder" 15 2 1 := ⟨_, zT_fi, 3, rfl, by decide, uw_fi, Or.inl (tb_t 26 (by decide +kernel) rfl)⟩
theorem fg_fi_18 : zFG "RecurrentSeries$Finder" 18 2 2 := ⟨_, zT_fi, 3, rfl, by decide, uw_fi, Or.inl (tb_t 27 (by decide +kernel) rfl)⟩
theorem fg_fi_49 : zFG "RecurrentSeries$Finder" 49 1 0 := ⟨_, zT_se, 3, rfl, by decide, uw_se, Or.inr ⟨"RecurrentSeries", nb_t 79 (by decide +kernel) rfl⟩⟩
theorem fg_fi_55 : zFG "RecurrentSeries$Finder" 55 1 1 := ⟨_, zT_se, 3, rfl, by decide, uw_se, Or.inr ⟨"RecurrentSeries", nb_t 82 (by decide +kernel) rfl⟩⟩
theorem fg_sk_9 : zFG "RecurrentSeries$Seeker" 9 3 0 := ⟨_, zT_sk, 5, rfl, by decide, uw_sk, Or.inl (tb_t 42 (by decide +kernel) rfl)⟩
theorem fg_sk_15 : zFG "RecurrentSeries$Seeker" 15 3 1 := ⟨_, zT_sk, 5, rfl, by decide, uw_sk, Or.inl (tb_t 43 (by decide +kernel) rfl)⟩
theorem fg_sk_18 : zFG "RecurrentSeries$Seeker" 18 3 2 := ⟨_, zT_sk, 5, rfl, by decide, uw_sk, Or.inl (tb_t 44 (by decide +kernel) rfl)⟩
theorem fg_sk_21 : zFG "RecurrentSeries$Seeker" 21 3 3 := ⟨_, zT_sk, 5, rfl, by decide, uw_sk, Or.inl (tb_t 45 (by decide +kernel) rfl)⟩
theorem fg_sk_24 : zFG "RecurrentSeries$Seeker" 24 3 4 := ⟨_, zT_sk, 5, rfl, by decide, uw_sk, Or.inl (tb_t 46 (by decide +kernel) rfl)⟩
theorem fg_sk_31 : zFG "RecurrentSeries$Seeker" 31 1 0 := ⟨_, zT_se, 3, rfl, by decide, uw_se, Or.inr ⟨"RecurrentSeries", nb_t 77 (by decide +kernel) rfl⟩⟩
theorem fg_sk_41 : zFG "RecurrentSeries$Seeker" 41 1 1 := ⟨_, zT_se, 3, rfl, by decide, uw_se, Or.inr ⟨"RecurrentSeries", nb_t 83 (by decide +kernel) rfl⟩⟩
theorem fg_sk_50 : zFG "RecurrentSeries$Seeker" 50 1 2 := ⟨_, zT_se, 3, rfl, by decide, uw_se, Or.inr ⟨"RecurrentSeries", nb_t 87 (by decide +kernel) rfl⟩⟩
theorem fg_se_9 : zFG "RecurrentSeries$Series" 9 1 1 := ⟨_, zT_se, 3, rfl, by decide, uw_se, Or.inl (tb_t 81 (by decide +kernel) rfl)⟩
theorem fg_se_15 : zFG "RecurrentSeries$Series" 15 1 2 := ⟨_, zT_se, 3, rfl, by decide, uw_se, Or.inl (tb_t 86 (by decide +kernel) rfl)⟩
theorem fg_se_18 : zFG "RecurrentSeries$Series" 18 1 0 := ⟨_, zT_se, 3, rfl, by decide, uw_se, Or.inl (tb_t 76 (by decide +kernel) rfl)⟩
theorem fk_rs_11 : zFk 0 0 true "RecurrentSeries" (zY_rs 0) := fun C T N h => by cases h; exact ⟨rfl, fun _ => rfl, zY_rs_ok 0 (by decide)⟩
theorem fl_rs_11 : ∀ (C : String) (T : u_T) (N : Nat), zCl[0]? = some (C, T, N) → Cond.fieldLink "RecurrentSeries" 11 (T 0).1 (T 0).2.1 (T 0).2.2.1 ∈ TB := fun C T N h => by cases h; exact tb_t 96 (by decide +kernel) rfl
theorem fk_rs_15 : zFk 0 1 true "RecurrentSeries" (zY_rs 1) := fun C T N h => by cases h; exact ⟨rfl, fun _ => rfl, zY_rs_ok 1 (by decide)⟩
theorem fl_rs_15 : ∀ (C : String) (T : u_T) (N : Nat), zCl[0]? = some (C, T, N) → Cond.fieldLink "RecurrentSeries" 15 (T 1).1 (T 1).2.1 (T 1).2.2.1 ∈ TB := fun C T N h => by cases h; exact tb_t 97 (by decide +kernel) rfl
theorem fk_rs_19 : zFk 0 2 true "RecurrentSeries" (zY_rs 2) := fun C T N h => by cases h; exact ⟨rfl, fun _ => rfl, zY_rs_ok 2 (by decide)⟩
theorem fl_rs_19 : ∀ (C : String) (T : u_T) (N : Nat), zCl[0]? = some (C, T, N) → Cond.fieldLink "RecurrentSeries" 19 (T 2).1 (T 2).2.1 (T 2).2.2.1 ∈ TB := fun C T N h => by cases h; exact tb_t 98 (by decide +kernel) rfl
theorem fk_rs_22 : zFk 0 3 true "RecurrentSeries" (zY_rs 3) := fun C T N h => by cases h; exact ⟨rfl, fun _ => rfl, zY_rs_ok 3 (by decide)⟩
theorem fl_rs_22 : ∀ (C : String) (T : u_T) (N : Nat), zCl[0]? = some (C, T, N) → Cond.fieldLink "RecurrentSeries" 22 (T 3).1 (T 3).2.1 (T 3).2.2.1 ∈ TB := fun C T N h => by cases h; exact tb_t 99 (by decide +kernel) rfl
theorem fk_rs_28 : zFk 0 4 true "RecurrentSeries" (zY_rs 4) := fun C T N h => by cases h; exact ⟨rfl, fun _ => rfl, zY_rs_ok 4 (by decide)⟩
theorem fl_rs_28 : ∀ (C : String) (T : u_T) (N : Nat), zCl[0]? = some (C, T, N) → Cond.fieldLink "RecurrentSeries" 28 (T 4).1 (T 4).2.1 (T 4).2.2.1 ∈ TB := fun C T N h => by cases h; exact tb_t 100 (by decide +kernel) rfl
theorem fk_rs_35 : zFk 0 5 true "RecurrentSeries" (zY_rs 5) := fun C T N h => by cases h; exact ⟨rfl, fun _ => rfl, zY_rs_ok 5 (by decide)⟩
theorem fl_rs_35 : ∀ (C : String) (T : u_T) (N : Nat), zCl[0]? = some (C, T, N) → Cond.fieldLink "RecurrentSeries" 35 (T 5).1 (T 5).2.1 (T 5).2.2.1 ∈ TB := fun C T N h => by cases h; exact tb_t 101 (by decide +kernel) rfl
theorem fk_rs_42 : zFk 0 6 true "RecurrentSeries" (zY_rs 6) := fun C T N h => by cases h; exact ⟨rfl, fun _ => rfl, zY_rs_ok 6 (by decide)⟩
theorem fl_rs_42 : ∀ (C : String) (T : u_T) (N : Nat), zCl[0]? = some (C, T, N) → Cond.fieldLink "RecurrentSeries" 42 (T 6).1 (T 6).2.1 (T 6).2.2.1 ∈ TB := fun C T N h => by cases h; exact tb_t 102 (by decide +kernel) rfl
theorem fk_rs_47 : zFk 0 7 false "" (zY_rs 7) := fun C T N h => by cases h; exact ⟨rfl, fun h => (by cases h), zY_rs_ok 7 (by decide)⟩
theorem fk_rs_51 : zFk 0 8 false "" (zY_rs 8) := fun C T N h => by cases h; exact ⟨rfl, fun h => (by cases h), zY_rs_ok 8 (by decide)⟩
theorem fk_dv_9 : zFk 4 0 true "RecurrentSeries$Divider" (zY_dv 0) := fun C T N h => by cases h; exact ⟨rfl, fun _ => rfl, zY_dv_ok 0 (by decide)⟩
theorem fl_dv_9 : ∀ (C : String) (T : u_T) (N : Nat), zCl[4]? = some (C, T, N) → Cond.fieldLink "RecurrentSeries$Divider" 9 (T 0).1 (T 0).2.1 (T 0).2.2.1 ∈ TB := fun C T N h => by cases h; exact tb_t 64 (by decide +kernel) rfl
theorem fk_dv_15 : zFk 4 1 true "RecurrentSeries$Divider" (zY_dv 1) := fun C T N h => by cases h; exact ⟨rfl, fun _ => rfl, zY_dv_ok 1 (by decide)⟩
theorem fl_dv_15 : ∀ (C : String) (T : u_T) (N : Nat), zCl[4]? = some (C, T, N) → Cond.fieldLink "RecurrentSeries$Divider" 15 (T 1).1 (T 1).2.1 (T 1).2.2.1 ∈ TB := fun C T N h => by cases h; exact tb_t 65 (by decide +kernel) rfl
theorem fk_fi_9 : zFk 2 0 false "" (zY_fi 0) := fun C T N h => by cases h; exact ⟨rfl, fun h => (by cases h), zY_fi_ok 0 (by decide)⟩
theorem fk_fi_15 : zFk 2 1 false "" (zY_fi 1) := fun C T N h => by cases h; exact ⟨rfl, fun h => (by cases h), zY_fi_ok 1 (by decide)⟩
theorem fk_fi_18 : zFk 2 2 false "" (zY_fi 2) := fun C T N h => by cases h; exact ⟨rfl, fun h => (by cases h), zY_fi_ok 2 (by decide)⟩
theorem fk_fi_49 : zFk 1 0 false "" (zY_se 0) := fun C T N h => by cases h; exact ⟨rfl, fun h => (by cases h), zY_se_ok 0 (by decide)⟩
theorem fk_sk_9 : zFk 3 0 false "" (zY_sk 0) := fun C T N h => by cases h; exact ⟨rfl, fun h => (by cases h), zY_sk_ok 0 (by decide)⟩
theorem fk_sk_15 : zFk 3 1 false "" (zY_sk 1) := fun C T N h => by cases h; exact ⟨rfl, fun h => (by cases h), zY_sk_ok 1 (by decide)⟩
theorem fk_sk_18 : zFk 3 2 false "" (zY_sk 2) := fun C T N h => by cases h; exact ⟨rfl, fun h => (by cases h), zY_sk_ok 2 (by decide)⟩
theorem fk_sk_21 : zFk 3 3 false "" (zY_sk 3) := fun C T N h => by cases h; exact ⟨rfl, fun h => (by cases h), zY_sk_ok 3 (by decide)⟩
theorem fk_sk_24 : zFk 3 4 true "RecurrentSeries$Seeker" (zY_sk 4) := fun C T N h => by cases h; exact ⟨rfl, fun _ => rfl, zY_sk_ok 4 (by decide)⟩
theorem fl_sk_24 : ∀ (C : String) (T : u_T) (N : Nat), zCl[3]? = some (C, T, N) → Cond.fieldLink "RecurrentSeries$Seeker" 24 (T 4).1 (T 4).2.1 (T 4).2.2.1 ∈ TB := fun C T N h => by cases h; exact tb_t 46 (by decide +kernel) rfl
theorem fk_se_9 : zFk 1 1 true "RecurrentSeries$Series" (zY_se 1) := fun C T N h => by cases h; exact ⟨rfl, fun _ => rfl, zY_se_ok 1 (by decide)⟩
theorem fl_se_9 : ∀ (C : String) (T : u_T) (N : Nat), zCl[1]? = some (C, T, N) → Cond.fieldLink "RecurrentSeries$Series" 9 (T 1).1 (T 1).2.1 (T 1).2.2.1 ∈ TB := fun C T N h => by cases h; exact tb_t 81 (by decide +kernel) rfl
theorem fk_se_15 : zFk 1 2 true "RecurrentSeries$Series" (zY_se 2) := fun C T N h => by cases h; exact ⟨rfl, fun _ => rfl, zY_se_ok 2 (by decide)⟩
theorem fl_se_15 : ∀ (C : String) (T : u_T) (N : Nat), zCl[1]? = some (C, T, N) → Cond.fieldLink "RecurrentSeries$Series" 15 (T 2).1 (T 2).2.1 (T 2).2.2.1 ∈ TB := fun C T N h => by cases h; exact tb_t 86 (by decide +kernel) rfl
theorem fk_mo_7 : zFk 5 2 true "RecurrentSeriesModel" (zY_mo 2) := fun C T N h => by cases h; exact ⟨rfl, fun _ => rfl, zY_mo_ok 2 (by decide)⟩
theorem fl_mo_7 : ∀ (C : String) (T : u_T) (N : Nat), zCl[5]? = some (C, T, N) → Cond.fieldLink "RecurrentSeriesModel" 7 (T 2).1 (T 2).2.1 (T 2).2.2.1 ∈ TB := fun C T N h => by cases h; exact tb_t 311 (by decide +kernel) rfl
theorem fk_mo_13 : zFk 5 3 true "RecurrentSeriesModel" (zY_mo 3) := fun C T N h => by cases h; exact ⟨rfl, fun _ => rfl, zY_mo_ok 3 (by decide)⟩
theorem fl_mo_13 : ∀ (C : String) (T : u_T) (N : Nat), zCl[5]? = some (C, T, N) → Cond.fieldLink "RecurrentSeriesModel" 13 (T 3).1 (T 3).2.1 (T 3).2.2.1 ∈ TB := fun C T N h => by cases h; exact tb_t 312 (by decide +kernel) rfl
theorem fk_mo_17 : zFk 5 4 true "RecurrentSeriesModel" (zY_mo 4) := fun C T N h => by cases h; exact ⟨rfl, fun _ => rfl, zY_mo_ok 4 (by decide)⟩
theorem fl_mo_17 : ∀ (C : String) (T : u_T) (N : Nat), zCl[5]? = some (C, T, N) → Cond.fieldLink "RecurrentSeriesModel" 17 (T 4).1 (T 4).2.1 (T 4).2.2.1 ∈ TB := fun C T N h => by cases h; exact tb_t 313 (by decide +kernel) rfl
theorem fk_mo_20 : zFk 5 5 true "RecurrentSeriesModel" (zY_mo 5) := fun C T N h => by cases h; exact ⟨rfl, fun _ => rfl, zY_mo_ok 5 (by decide)⟩
theorem fl_mo_20 : ∀ (C : String) (T : u_T) (N : Nat), zCl[5]? = some (C, T, N) → Cond.fieldLink "RecurrentSeriesModel" 20 (T 5).1 (T 5).2.1 (T 5).2.2.1 ∈ TB := fun C T N h => by cases h; exact tb_t 314 (by decide +kernel) rfl
theorem fk_mo_23 : zFk 5 6 true "RecurrentSeriesModel" (zY_mo 6) := fun C T N h => by cases h; exact ⟨rfl, fun _ => rfl, zY_mo_ok 6 (by decide)⟩
theorem fl_mo_23 : ∀ (C : String) (T : u_T) (N : Nat), zCl[5]? = some (C, T, N) → Cond.fieldLink "RecurrentSeriesModel" 23 (T 6).1 (T 6).2.1 (T 6).2.2.1 ∈ TB := fun C T N h => by cases h; exact tb_t 315 (by decide +kernel) rfl
theorem fk_mo_26 : zFk 5 7 true "RecurrentSeriesModel" (zY_mo 7) := fun C T N h => by cases h; exact ⟨rfl, fun _ => rfl, zY_mo_ok 7 (by decide)⟩
theorem fl_mo_26 : ∀ (C : String) (T : u_T) (N : Nat), zCl[5]? = some (C, T, N) → Cond.fieldLink "RecurrentSeriesModel" 26 (T 7).1 (T 7).2.1 (T 7).2.2.1 ∈ TB := fun C T N h => by cases h; exact tb_t 316 (by decide +kernel) rfl
theorem fk_mo_29 : zFk 5 8 true "RecurrentSeriesModel" (zY_mo 8) := fun C T N h => by cases h; exact ⟨rfl, fun _ => rfl, zY_mo_ok 8 (by decide)⟩
theorem fl_mo_29 : ∀ (C : String) (T : u_T) (N : Nat), zCl[5]? = some (C, T, N) → Cond.fieldLink "RecurrentSeriesModel" 29 (T 8).1 (T 8).2.1 (T 8).2.2.1 ∈ TB := fun C T N h => by cases h; exact tb_t 317 (by decide +kernel) rfl
theorem fk_mo_32 : zFk 5 9 true "RecurrentSeriesModel" (zY_mo 9) := fun C T N h => by cases h; exact ⟨rfl, fun _ => rfl, zY_mo_ok 9 (by decide)⟩
theorem fl_mo_32 : ∀ (C : String) (T : u_T) (N : Nat), zCl[5]? = some (C, T, N) → Cond.fieldLink "RecurrentSeriesModel" 32 (T 9).1 (T 9).2.1 (T 9).2.2.1 ∈ TB := fun C T N h => by cases h; exact tb_t 318 (by decide +kernel) rfl
theorem fk_mo_35 : zFk 5 10 true "RecurrentSeriesModel" (zY_mo 10) := fun C T N h => by cases h; exact ⟨rfl, fun _ => rfl, zY_mo_ok 10 (by decide)⟩
theorem fl_mo_35 : ∀ (C : String) (T : u_T) (N : Nat), zCl[5]? = some (C, T, N) → Cond.fieldLink "RecurrentSeriesModel" 35 (T 10).1 (T 10).2.1 (T 10).2.2.1 ∈ TB := fun C T N h => by cases h; exact tb_t 319 (by decide +kernel) rfl
theorem fk_mo_38 : zFk 5 11 true "RecurrentSeriesModel" (zY_mo 11) := fun C T N h => by cases h; exact ⟨rfl, fun _ => rfl, zY_mo_ok 11 (by decide)⟩
theorem fl_mo_38 : ∀ (C : String) (T : u_T) (N : Nat), zCl[5]? = some (C, T, N) → Cond.fieldLink "RecurrentSeriesModel" 38 (T 11).1 (T 11).2.1 (T 11).2.2.1 ∈ TB := fun C T N h => by cases h; exact tb_t 320 (by decide +kernel) rfl
theorem fk_mo_41 : zFk 5 12 true "RecurrentSeriesModel" (zY_mo 12) := fun C T N h => by cases h; exact ⟨rfl, fun _ => rfl, zY_mo_ok 12 (by decide)⟩
theorem fl_mo_41 : ∀ (C : String) (T : u_T) (N : Nat), zCl[5]? = some (C, T, N) → Cond.fieldLink "RecurrentSeriesModel" 41 (T 12).1 (T 12).2.1 (T 12).2.2.1 ∈ TB := fun C T N h => by cases h; exact tb_t 321 (by decide +kernel) rfl
theorem fk_mo_48 : zFk 5 0 false "" (zY_mo 0) := fun C T N h => by cases h; exact ⟨rfl, fun h => (by cases h), zY_mo_ok 0 (by decide)⟩
theorem fk_mo_71 : zFk 5 1 false "" (zY_mo 1) := fun C T N h => by cases h; exact ⟨rfl, fun h => (by cases h), zY_mo_ok 1 (by decide)⟩
theorem ck_rs_init : zCk m_rs_init 0 := ⟨tb_t 13 (by decide +kernel) rfl, tb_t 1 (by decide +kernel) rfl, by decide, by decide, by decide +kernel⟩
theorem im_rs_init : Cond.instanceMethod (mY m_rs_init) ∈ TB := tb_t 12 (by decide +kernel) rfl
theorem ck_rs_give : zCk m_rs_give 1 := ⟨tb_t 127 (by decide +kernel) rfl, tb_t 1 (by decide +kernel) rfl, by decide, by decide, by decide +kernel⟩
theorem im_rs_give : Cond.instanceMethod (mY m_rs_give) ∈ TB := tb_t 125 (by decide +kernel) rfl
theorem sl_rs_give : Cond.selects "RecurrentSeries" (mY m_rs_give) (mY m_rs_give) ∈ TB := tb_t 126 (by decide +kernel) rfl
theorem ck_rs_clear : zCk m_rs_clear 0 := ⟨tb_t 135 (by decide +kernel) rfl, tb_t 1 (by decide +kernel) rfl, by decide, by decide, by decide +kernel⟩
theorem im_rs_clear : Cond.instanceMethod (mY m_rs_clear) ∈ TB := tb_t 133 (by decide +kernel) rfl
theorem sl_rs_clear : Cond.selects "RecurrentSeries" (mY m_rs_clear) (mY m_rs_clear) ∈ TB := tb_t 134 (by decide +kernel) rfl
theorem ck_rs_leaf : zCk m_rs_leaf 1 := ⟨tb_t 139 (by decide +kernel) rfl, tb_t 1 (by decide +kernel) rfl, by decide, by decide, by decide +kernel⟩
theorem im_rs_leaf : Cond.instanceMethod (mY m_rs_leaf) ∈ TB := tb_t 137 (by decide +kernel) rfl
theorem sl_rs_leaf : Cond.selects "RecurrentSeries" (mY m_rs_leaf) (mY m_rs_leaf) ∈ TB := tb_t 138 (by decide +kernel) rfl
theorem ck_rs_combine : zCk m_rs_combine 4 := ⟨tb_t 196 (by decide +kernel) rfl, tb_t 1 (by decide +kernel) rfl, by decide, by decide, by decide +kernel⟩
theorem im_rs_combine : Cond.instanceMethod (mY m_rs_combine) ∈ TB := tb_t 194 (by decide +kernel) rfl
theorem sl_rs_combine : Cond.selects "RecurrentSeries" (mY m_rs_combine) (mY m_rs_combine) ∈ TB := tb_t 195 (by decide +kernel) rfl
theorem ck_rs_product : zCk m_rs_product 2 := ⟨tb_t 206 (by decide +kernel) rfl, tb_t 1 (by decide +kernel) rfl, by decide, by decide, by decide +kernel⟩
theorem im_rs_product : Cond.instanceMethod (mY m_rs_product) ∈ TB := tb_t 204 (by decide +kernel) rfl
theorem sl_rs_product : Cond.selects "RecurrentSeries" (mY m_rs_product) (mY m_rs_product) ∈ TB := tb_t 205 (by decide +kernel) rfl
theorem ck_rs_pairwise : zCk m_rs_pairwise 2 := ⟨tb_t 210 (by decide +kernel) rfl, tb_t 1 (by decide +kernel) rfl, by decide, by decide, by decide +kernel⟩
theorem im_rs_pairwise : Cond.instanceMethod (mY m_rs_pairwise) ∈ TB := tb_t 208 (by decide +kernel) rfl
theorem sl_rs_pairwise : Cond.selects "RecurrentSeries" (mY m_rs_pairwise) (mY m_rs_pairwise) ∈ TB := tb_t 209 (by decide +kernel) rfl
theorem ck_rs_derivative : zCk m_rs_derivative 1 := ⟨tb_t 214 (by decide +kernel) rfl, tb_t 1 (by decide +kernel) rfl, by decide, by decide, by decide +kernel⟩
theorem im_rs_derivative : Cond.instanceMethod (mY m_rs_derivative) ∈ TB := tb_t 212 (by decide +kernel) rfl
theorem sl_rs_derivative : Cond.selects "RecurrentSeries" (mY m_rs_derivative) (mY m_rs_derivative) ∈ TB := tb_t 213 (by decide +kernel) rfl
theorem ck_rs_tail : zCk m_rs_tail 1 := ⟨tb_t 218 (by decide +kernel) rfl, tb_t 1 (by decide +kernel) rfl, by decide, by decide, by decide +kernel⟩
theorem im_rs_tail : Cond.instanceMethod (mY m_rs_tail) ∈ TB := tb_t 216 (by decide +kernel) rfl
theorem sl_rs_tail : Cond.selects "RecurrentSeries" (mY m_rs_tail) (mY m_rs_tail) ∈ TB := tb_t 217 (by decide +kernel) rfl
theorem ck_rs_delay : zCk m_rs_delay 1 := ⟨tb_t 222 (by decide +kernel) rfl, tb_t 1 (by decide +kernel) rfl, by decide, by decide, by decide +kernel⟩
theorem im_rs_delay : Cond.instanceMethod (mY m_rs_delay) ∈ TB := tb_t 220 (by decide +kernel) rfl
theorem sl_rs_delay : Cond.selects "RecurrentSeries" (mY m_rs_delay) (mY m_rs_delay) ∈ TB := tb_t 221 (by decide +kernel) rfl
theorem ck_rs_sums : zCk m_rs_sums 1 := ⟨tb_t 226 (by decide +kernel) rfl, tb_t 1 (by decide +kernel) rfl, by decide, by decide, by decide +kernel⟩
theorem im_rs_sums : Cond.instanceMethod (mY m_rs_sums) ∈ TB := tb_t 224 (by decide +kernel) rfl
theorem sl_rs_sums : Cond.selects "RecurrentSeries" (mY m_rs_sums) (mY m_rs_sums) ∈ TB := tb_t 225 (by decide +kernel) rfl
theorem ck_rs_section : zCk m_rs_section 3 := ⟨tb_t 231 (by decide +kernel) rfl, tb_t 1 (by decide +kernel) rfl, by decide, by decide, by decide +kernel⟩
theorem im_rs_section : Cond.instanceMethod (mY m_rs_section) ∈ TB := tb_t 229 (by decide +kernel) rfl
theorem sl_rs_section : Cond.selects "RecurrentSeries" (mY m_rs_section) (mY m_rs_section) ∈ TB := tb_t 230 (by decide +kernel) rfl
theorem ck_rs_spread : zCk m_rs_spread 2 := ⟨tb_t 235 (by decide +kernel) rfl, tb_t 1 (by decide +kernel) rfl, by decide, by decide, by decide +kernel⟩
theorem im_rs_spread : Cond.instanceMethod (mY m_rs_spread) ∈ TB := tb_t 233 (by decide +kernel) rfl
theorem sl_rs_spread : Cond.selects "RecurrentSeries" (mY m_rs_spread) (mY m_rs_spread) ∈ TB := tb_t 234 (by decide +kernel) rfl
theorem ck_rs_forget : zCk m_rs_forget 0 := ⟨tb_t 239 (by decide +kernel) rfl, tb_t 1 (by decide +kernel) rfl, by decide, by decide, by decide +kernel⟩
theorem im_rs_forget : Cond.instanceMethod (mY m_rs_forget) ∈ TB := tb_t 237 (by decide +kernel) rfl
theorem sl_rs_forget : Cond.selects "RecurrentSeries" (mY m_rs_forget) (mY m_rs_forget) ∈ TB := tb_t 238 (by decide +kernel) rfl
theorem ck_rs_count : zCk m_rs_count 0 := ⟨tb_t 243 (by decide +kernel) rfl, tb_t 1 (by decide +kernel) rfl, by decide, by decide, by decide +kernel⟩
theorem im_rs_count : Cond.instanceMethod (mY m_rs_count) ∈ TB := tb_t 241 (by decide +kernel) rfl
theorem sl_rs_count : Cond.selects "RecurrentSeries" (mY m_rs_count) (mY m_rs_count) ∈ TB := tb_t 242 (by decide +kernel) rfl
theorem ck_rs_order : zCk m_rs_order 1 := ⟨tb_t 247 (by decide +kernel) rfl, tb_t 1 (by decide +kernel) rfl, by decide, by decide, by decide +kernel⟩
theorem im_rs_order : Cond.instanceMethod (mY m_rs_order) ∈ TB := tb_t 245 (by decide +kernel) rfl
theorem sl_rs_order : Cond.selects "RecurrentSeries" (mY m_rs_order) (mY m_rs_order) ∈ TB := tb_t 246 (by decide +kernel) rfl
theorem ck_rs_coefficient : zCk m_rs_coefficient 2 := ⟨tb_t 251 (by decide +kernel) rfl, tb_t 1 (by decide +kernel) rfl, by decide, by decide, by decide +kernel⟩
theorem im_rs_coefficient : Cond.instanceMethod (mY m_rs_coefficient) ∈ TB := tb_t 249 (by decide +kernel) rfl
theorem sl_rs_coefficient : Cond.selects "RecurrentSeries" (mY m_rs_coefficient) (mY m_rs_coefficient) ∈ TB := tb_t 250 (by decide +kernel) rfl
theorem ck_rs_term : zCk m_rs_term 2 := ⟨tb_t 255 (by decide +kernel) rfl, tb_t 1 (by decide +kernel) rfl, by decide, by decide, by decide +kernel⟩
theorem im_rs_term : Cond.instanceMethod (mY m_rs_term) ∈ TB := tb_t 253 (by decide +kernel) rfl
theorem sl_rs_term : Cond.selects "RecurrentSeries" (mY m_rs_term) (mY m_rs_term) ∈ TB := tb_t 254 (by decide +kernel) rfl
theorem ck_rs_differ : zCk m_rs_differ 2 := ⟨tb_t 281 (by decide +kernel) rfl, tb_t 1 (by decide +kernel) rfl, by decide, by decide, by decide +kernel⟩
theorem im_rs_differ : Cond.instanceMethod (mY m_rs_differ) ∈ TB := tb_t 279 (by decide +kernel) rfl
theorem sl_rs_differ : Cond.selects "RecurrentSeries" (mY m_rs_differ) (mY m_rs_differ) ∈ TB := tb_t 280 (by decide +kernel) rfl
theorem ck_rs_obeys : zCk m_rs_obeys 1 := ⟨tb_t 285 (by decide +kernel) rfl, tb_t 1 (by decide +kernel) rfl, by decide, by decide, by decide +kernel⟩
theorem im_rs_obeys : Cond.instanceMethod (mY m_rs_obeys) ∈ TB := tb_t 283 (by decide +kernel) rfl
theorem sl_rs_obeys : Cond.selects "RecurrentSeries" (mY m_rs_obeys) (mY m_rs_obeys) ∈ TB := tb_t 284 (by decide +kernel) rfl
theorem ck_rs_shared : zCk m_rs_shared 2 := ⟨tb_t 289 (by decide +kernel) rfl, tb_t 1 (by decide +kernel) rfl, by decide, by decide, by decide +kernel⟩
theorem im_rs_shared : Cond.instanceMethod (mY m_rs_shared) ∈ TB := tb_t 287 (by decide +kernel) rfl
theorem sl_rs_shared : Cond.selects "RecurrentSeries" (mY m_rs_shared) (mY m_rs_shared) ∈ TB := tb_t 288 (by decide +kernel) rfl
theorem ck_rs_isListed : zCk m_rs_isListed 1 := ⟨tb_t 200 (by decide +kernel) rfl, tb_t 1 (by decide +kernel) rfl, by decide, by decide, by decide +kernel⟩
theorem im_rs_isListed : Cond.instanceMethod (mY m_rs_isListed) ∈ TB := tb_t 199 (by decide +kernel) rfl
theorem sl_rs_isListed : Cond.selects "RecurrentSeries" (mY m_rs_isListed) (mY m_rs_isListed) ∈ TB := tb_s 5 (by decide +kernel) rfl
theorem ck_rs_numberFor : zCk m_rs_numberFor 1 := ⟨tb_t 143 (by decide +kernel) rfl, tb_t 1 (by decide +kernel) rfl, by decide, by decide, by decide +kernel⟩
theorem im_rs_numberFor : Cond.instanceMethod (mY m_rs_numberFor) ∈ TB := tb_t 142 (by decide +kernel) rfl
theorem sl_rs_numberFor : Cond.selects "RecurrentSeries" (mY m_rs_numberFor) (mY m_rs_numberFor) ∈ TB := tb_s 0 (by decide +kernel) rfl
theorem ck_rs_othersFit : zCk m_rs_othersFit 1 := ⟨tb_t 147 (by decide +kernel) rfl, tb_t 1 (by decide +kernel) rfl, by decide, by decide, by decide +kernel⟩
theorem im_rs_othersFit : Cond.instanceMethod (mY m_rs_othersFit) ∈ TB := tb_t 146 (by decide +kernel) rfl
theorem sl_rs_othersFit : Cond.selects "RecurrentSeries" (mY m_rs_othersFit) (mY m_rs_othersFit) ∈ TB := tb_s 1 (by decide +kernel) rfl
theorem ck_rs_enlist : zCk m_rs_enlist 1 := ⟨tb_t 157 (by decide +kernel) rfl, tb_t 1 (by decide +kernel) rfl, by decide, by decide, by decide +kernel⟩
theorem im_rs_enlist : Cond.instanceMethod (mY m_rs_enlist) ∈ TB := tb_t 156 (by decide +kernel) rfl
theorem sl_rs_enlist : Cond.selects "RecurrentSeries" (mY m_rs_enlist) (mY m_rs_enlist) ∈ TB := tb_s 2 (by decide +kernel) rfl
theorem ck_mo_init : zCk m_mo_init 0 := ⟨tb_t 307 (by decide +kernel) rfl, tb_t 6 (by decide +kernel) rfl, by decide, by decide, by decide +kernel⟩
theorem im_mo_init : Cond.instanceMethod (mY m_mo_init) ∈ TB := tb_t 306 (by decide +kernel) rfl
theorem ck_mo_number : zCk m_mo_number 1 := ⟨tb_t 356 (by decide +kernel) rfl, tb_t 6 (by decide +kernel) rfl, by decide, by decide, by decide +kernel⟩
theorem st_mo_number : Cond.static (mY m_mo_number) ∈ TB := tb_t 355 (by decide +kernel) rfl
theorem ck_mo_inverse : zCk m_mo_inverse 1 := ⟨tb_t 388 (by decide +kernel) rfl, tb_t 6 (by decide +kernel) rfl, by decide, by decide, by decide +kernel⟩
theorem st_mo_inverse : Cond.static (mY m_mo_inverse) ∈ TB := tb_t 387 (by decide +kernel) rfl
theorem ck_mo_isIn : zCk m_mo_isIn 1 := ⟨tb_t 401 (by decide +kernel) rfl, tb_t 6 (by decide +kernel) rfl, by decide, by decide, by decide +kernel⟩
theorem im_mo_isIn : Cond.instanceMethod (mY m_mo_isIn) ∈ TB := tb_t 400 (by decide +kernel) rfl
theorem sl_mo_isIn : Cond.selects "RecurrentSeriesModel" (mY m_mo_isIn) (mY m_mo_isIn) ∈ TB := tb_s 15 (by decide +kernel) rfl
theorem ck_mo_expand : zCk m_mo_expand 3 := ⟨tb_t 409 (by decide +kernel) rfl, tb_t 6 (by decide +kernel) rfl, by decide, by decide, by decide +kernel⟩
theorem im_mo_expand : Cond.instanceMethod (mY m_mo_expand) ∈ TB := tb_t 408 (by decide +kernel) rfl
theorem sl_mo_expand : Cond.selects "RecurrentSeriesModel" (mY m_mo_expand) (mY m_mo_expand) ∈ TB := tb_s 17 (by decide +kernel) rfl
theorem ck_mo_ask : zCk m_mo_ask 4 := ⟨tb_t 373 (by decide +kernel) rfl, tb_t 6 (by decide +kernel) rfl, by decide, by decide, by decide +kernel⟩
theorem im_mo_ask : Cond.instanceMethod (mY m_mo_ask) ∈ TB := tb_t 372 (by decide +kernel) rfl
theorem sl_mo_ask : Cond.selects "RecurrentSeriesModel" (mY m_mo_ask) (mY m_mo_ask) ∈ TB := tb_s 10 (by decide +kernel) rfl
theorem ck_mo_swapRows : zCk m_mo_swapRows 3 := ⟨tb_t 381 (by decide +kernel) rfl, tb_t 6 (by decide +kernel) rfl, by decide, by decide, by decide +kernel⟩
theorem im_mo_swapRows : Cond.instanceMethod (mY m_mo_swapRows) ∈ TB := tb_t 380 (by decide +kernel) rfl
theorem sl_mo_swapRows : Cond.selects "RecurrentSeriesModel" (mY m_mo_swapRows) (mY m_mo_swapRows) ∈ TB := tb_s 12 (by decide +kernel) rfl
theorem ck_mo_clean : zCk m_mo_clean 4 := ⟨tb_t 385 (by decide +kernel) rfl, tb_t 6 (by decide +kernel) rfl, by decide, by decide, by decide +kernel⟩
theorem im_mo_clean : Cond.instanceMethod (mY m_mo_clean) ∈ TB := tb_t 384 (by decide +kernel) rfl
theorem sl_mo_clean : Cond.selects "RecurrentSeriesModel" (mY m_mo_clean) (mY m_mo_clean) ∈ TB := tb_s 13 (by decide +kernel) rfl
theorem ck_mo_solve : zCk m_mo_solve 2 := ⟨tb_t 377 (by decide +kernel) rfl, tb_t 6 (by decide +kernel) rfl, by decide, by decide, by decide +kernel⟩
theorem im_mo_solve : Cond.instanceMethod (mY m_mo_solve) ∈ TB := tb_t 376 (by decide +kernel) rfl
theorem sl_mo_solve : Cond.selects "RecurrentSeriesModel" (mY m_mo_solve) (mY m_mo_solve) ∈ TB := tb_s 11 (by decide +kernel) rfl
theorem ck_mo_settle : zCk m_mo_settle 1 := ⟨tb_t 369 (by decide +kernel) rfl, tb_t 6 (by decide +kernel) rfl, by decide, by decide, by decide +kernel⟩
theorem im_mo_settle : Cond.instanceMethod (mY m_mo_settle) ∈ TB := tb_t 368 (by decide +kernel) rfl
theorem sl_mo_settle : Cond.selects "RecurrentSeriesModel" (mY m_mo_settle) (mY m_mo_settle) ∈ TB := tb_s 9 (by decide +kernel) rfl
theorem ck_mo_give : zCk m_mo_give 1 := ⟨tb_t 353 (by decide +kernel) rfl, tb_t 6 (by decide +kernel) rfl, by decide, by decide, by decide +kernel⟩
theorem im_mo_give : Cond.instanceMethod (mY m_mo_give) ∈ TB := tb_t 351 (by decide +kernel) rfl
theorem sl_mo_give : Cond.selects "RecurrentSeriesModel" (mY m_mo_give) (mY m_mo_give) ∈ TB := tb_t 352 (by decide +kernel) rfl
theorem ck_mo_clear : zCk m_mo_clear 0 := ⟨tb_t 361 (by decide +kernel) rfl, tb_t 6 (by decide +kernel) rfl, by decide, by decide, by decide +kernel⟩
theorem im_mo_clear : Cond.instanceMethod (mY m_mo_clear) ∈ TB := tb_t 359 (by decide +kernel) rfl
theorem sl_mo_clear : Cond.selects "RecurrentSeriesModel" (mY m_mo_clear) (mY m_mo_clear) ∈ TB := tb_t 360 (by decide +kernel) rfl
theorem ck_mo_leaf : zCk m_mo_leaf 1 := ⟨tb_t 365 (by decide +kernel) rfl, tb_t 6 (by decide +kernel) rfl, by decide, by decide, by decide +kernel⟩
theorem im_mo_leaf : Cond.instanceMethod (mY m_mo_leaf) ∈ TB := tb_t 363 (by decide +kernel) rfl
theorem sl_mo_leaf : Cond.selects "RecurrentSeriesModel" (mY m_mo_leaf) (mY m_mo_leaf) ∈ TB := tb_t 364 (by decide +kernel) rfl
theorem ck_mo_refusal : zCk m_mo_refusal 2 := ⟨tb_t 405 (by decide +kernel) rfl, tb_t 6 (by decide +kernel) rfl, by decide, by decide, by decide +kernel⟩
theorem im_mo_refusal : Cond.instanceMethod (mY m_mo_refusal) ∈ TB := tb_t 404 (by decide +kernel) rfl
theorem sl_mo_refusal : Cond.selects "RecurrentSeriesModel" (mY m_mo_refusal) (mY m_mo_refusal) ∈ TB := tb_s 16 (by decide +kernel) rfl
theorem ck_mo_orderOf : zCk m_mo_orderOf 1 := ⟨tb_t 397 (by decide +kernel) rfl, tb_t 6 (by decide +kernel) rfl, by decide, by decide, by decide +kernel⟩
theorem im_mo_orderOf : Cond.instanceMethod (mY m_mo_orderOf) ∈ TB := tb_t 396 (by decide +kernel) rfl
theorem sl_mo_orderOf : Cond.selects "RecurrentSeriesModel" (mY m_mo_orderOf) (mY m_mo_orderOf) ∈ TB := tb_s 14 (by decide +kernel) rfl
theorem ck_mo_combine : zCk m_mo_combine 4 := ⟨tb_t 393 (by decide +kernel) rfl, tb_t 6 (by decide +kernel) rfl, by decide, by decide, by decide +kernel⟩
theorem im_mo_combine : Cond.instanceMethod (mY m_mo_combine) ∈ TB := tb_t 391 (by decide +kernel) rfl
theorem sl_mo_combine : Cond.selects "RecurrentSeriesModel" (mY m_mo_combine) (mY m_mo_combine) ∈ TB := tb_t 392 (by decide +kernel) rfl
theorem ck_mo_product : zCk m_mo_product 2 := ⟨tb_t 413 (by decide +kernel) rfl, tb_t 6 (by decide +kernel) rfl, by decide, by decide, by decide +kernel⟩
theorem im_mo_product : Cond.instanceMethod (mY m_mo_product) ∈ TB := tb_t 411 (by decide +kernel) rfl
theorem sl_mo_product : Cond.selects "RecurrentSeriesModel" (mY m_mo_product) (mY m_mo_product) ∈ TB := tb_t 412 (by decide +kernel) rfl
theorem ck_mo_pairwise : zCk m_mo_pairwise 2 := ⟨tb_t 417 (by decide +kernel) rfl, tb_t 6 (by decide +kernel) rfl, by decide, by decide, by decide +kernel⟩
theorem im_mo_pairwise : Cond.instanceMethod (mY m_mo_pairwise) ∈ TB := tb_t 415 (by decide +kernel) rfl
theorem sl_mo_pairwise : Cond.selects "RecurrentSeriesModel" (mY m_mo_pairwise) (mY m_mo_pairwise) ∈ TB := tb_t 416 (by decide +kernel) rfl
theorem ck_mo_derivative : zCk m_mo_derivative 1 := ⟨tb_t 421 (by decide +kernel) rfl, tb_t 6 (by decide +kernel) rfl, by decide, by decide, by decide +kernel⟩
theorem im_mo_derivative : Cond.instanceMethod (mY m_mo_derivative) ∈ TB := tb_t 419 (by decide +kernel) rfl
theorem sl_mo_derivative : Cond.selects "RecurrentSeriesModel" (mY m_mo_derivative) (mY m_mo_derivative) ∈ TB := tb_t 420 (by decide +kernel) rfl
theorem ck_mo_tail : zCk m_mo_tail 1 := ⟨tb_t 425 (by decide +kernel) rfl, tb_t 6 (by decide +kernel) rfl, by decide, by decide, by decide +kernel⟩
theorem im_mo_tail : Cond.instanceMethod (mY m_mo_tail) ∈ TB := tb_t 423 (by decide +kernel) rfl
theorem sl_mo_tail : Cond.selects "RecurrentSeriesModel" (mY m_mo_tail) (mY m_mo_tail) ∈ TB := tb_t 424 (by decide +kernel) rfl
theorem ck_mo_delay : zCk m_mo_delay 1 := ⟨tb_t 433 (by decide +kernel) rfl, tb_t 6 (by decide +kernel) rfl, by decide, by decide, by decide +kernel⟩
theorem im_mo_delay : Cond.instanceMethod (mY m_mo_delay) ∈ TB := tb_t 431 (by decide +kernel) rfl
theorem sl_mo_delay : Cond.selects "RecurrentSeriesModel" (mY m_mo_delay) (mY m_mo_delay) ∈ TB := tb_t 432 (by decide +kernel) rfl
theorem ck_mo_sums : zCk m_mo_sums 1 := ⟨tb_t 437 (by decide +kernel) rfl, tb_t 6 (by decide +kernel) rfl, by decide, by decide, by decide +kernel⟩
theorem im_mo_sums : Cond.instanceMethod (mY m_mo_sums) ∈ TB := tb_t 435 (by decide +kernel) rfl
theorem sl_mo_sums : Cond.selects "RecurrentSeriesModel" (mY m_mo_sums) (mY m_mo_sums) ∈ TB := tb_t 436 (by decide +kernel) rfl
theorem ck_mo_section : zCk m_mo_section 3 := ⟨tb_t 429 (by decide +kernel) rfl, tb_t 6 (by decide +kernel) rfl, by decide, by decide, by decide +kernel⟩
theorem im_mo_section : Cond.instanceMethod (mY m_mo_section) ∈ TB := tb_t 427 (by decide +kernel) rfl
theorem sl_mo_section : Cond.selects "RecurrentSeriesModel" (mY m_mo_section) (mY m_mo_section) ∈ TB := tb_t 428 (by decide +kernel) rfl
theorem ck_mo_spread : zCk m_mo_spread 2 := ⟨tb_t 442 (by decide +kernel) rfl, tb_t 6 (by decide +kernel) rfl, by decide, by decide, by decide +kernel⟩
theorem im_mo_spread : Cond.instanceMethod (mY m_mo_spread) ∈ TB := tb_t 440 (by decide +kernel) rfl
theorem sl_mo_spread : Cond.selects "RecurrentSeriesModel" (mY m_mo_spread) (mY m_mo_spread) ∈ TB := tb_t 441 (by decide +kernel) rfl
theorem ck_mo_forget : zCk m_mo_forget 0 := ⟨tb_t 446 (by decide +kernel) rfl, tb_t 6 (by decide +kernel) rfl, by decide, by decide, by decide +kernel⟩
theorem im_mo_forget : Cond.instanceMethod (mY m_mo_forget) ∈ TB := tb_t 444 (by decide +kernel) rfl
theorem sl_mo_forget : Cond.selects "RecurrentSeriesModel" (mY m_mo_forget) (mY m_mo_forget) ∈ TB := tb_t 445 (by decide +kernel) rfl
theorem ck_mo_count : zCk m_mo_count 0 := ⟨tb_t 450 (by decide +kernel) rfl, tb_t 6 (by decide +kernel) rfl, by decide, by decide, by decide +kernel⟩
theorem im_mo_count : Cond.instanceMethod (mY m_mo_count) ∈ TB := tb_t 448 (by decide +kernel) rfl
theorem sl_mo_count : Cond.selects "RecurrentSeriesModel" (mY m_mo_count) (mY m_mo_count) ∈ TB := tb_t 449 (by decide +kernel) rfl
theorem ck_mo_order : zCk m_mo_order 1 := ⟨tb_t 454 (by decide +kernel) rfl, tb_t 6 (by decide +kernel) rfl, by decide, by decide, by decide +kernel⟩
theorem im_mo_order : Cond.instanceMethod (mY m_mo_order) ∈ TB := tb_t 452 (by decide +kernel) rfl
theorem sl_mo_order : Cond.selects "RecurrentSeriesModel" (mY m_mo_order) (mY m_mo_order) ∈ TB := tb_t 453 (by decide +kernel) rfl
theorem ck_mo_coefficient : zCk m_mo_coefficient 2 := ⟨tb_t 458 (by decide +kernel) rfl, tb_t 6 (by decide +kernel) rfl, by decide, by decide, by decide +kernel⟩
theorem im_mo_coefficient : Cond.instanceMethod (mY m_mo_coefficient) ∈ TB := tb_t 456 (by decide +kernel) rfl
theorem sl_mo_coefficient : Cond.selects "RecurrentSeriesModel" (mY m_mo_coefficient) (mY m_mo_coefficient) ∈ TB := tb_t 457 (by decide +kernel) rfl
theorem ck_mo_makeStep : zCk m_mo_makeStep 2 := ⟨tb_t 466 (by decide +kernel) rfl, tb_t 6 (by decide +kernel) rfl, by decide, by decide, by decide +kernel⟩
theorem im_mo_makeStep : Cond.instanceMethod (mY m_mo_makeStep) ∈ TB := tb_t 465 (by decide +kernel) rfl
theorem sl_mo_makeStep : Cond.selects "RecurrentSeriesModel" (mY m_mo_makeStep) (mY m_mo_makeStep) ∈ TB := tb_s 18 (by decide +kernel) rfl
theorem ck_mo_applyStep : zCk m_mo_applyStep 1 := ⟨tb_t 470 (by decide +kernel) rfl, tb_t 6 (by decide +kernel) rfl, by decide, by decide, by decide +kernel⟩
theorem im_mo_applyStep : Cond.instanceMethod (mY m_mo_applyStep) ∈ TB := tb_t 469 (by decide +kernel) rfl
theorem sl_mo_applyStep : Cond.selects "RecurrentSeriesModel" (mY m_mo_applyStep) (mY m_mo_applyStep) ∈ TB := tb_s 19 (by decide +kernel) rfl
theorem ck_mo_squareStep : zCk m_mo_squareStep 1 := ⟨tb_t 474 (by decide +kernel) rfl, tb_t 6 (by decide +kernel) rfl, by decide, by decide, by decide +kernel⟩
theorem im_mo_squareStep : Cond.instanceMethod (mY m_mo_squareStep) ∈ TB := tb_t 473 (by decide +kernel) rfl
theorem sl_mo_squareStep : Cond.selects "RecurrentSeriesModel" (mY m_mo_squareStep) (mY m_mo_squareStep) ∈ TB := tb_s 20 (by decide +kernel) rfl
theorem ck_mo_term : zCk m_mo_term 2 := ⟨tb_t 462 (by decide +kernel) rfl, tb_t 6 (by decide +kernel) rfl, by decide, by decide, by decide +kernel⟩
theorem im_mo_term : Cond.instanceMethod (mY m_mo_term) ∈ TB := tb_t 460 (by decide +kernel) rfl
theorem sl_mo_term : Cond.selects "RecurrentSeriesModel" (mY m_mo_term) (mY m_mo_term) ∈ TB := tb_t 461 (by decide +kernel) rfl
theorem ck_mo_differ : zCk m_mo_differ 2 := ⟨tb_t 478 (by decide +kernel) rfl, tb_t 6 (by decide +kernel) rfl, by decide, by decide, by decide +kernel⟩
theorem im_mo_differ : Cond.instanceMethod (mY m_mo_differ) ∈ TB := tb_t 476 (by decide +kernel) rfl
theorem sl_mo_differ : Cond.selects "RecurrentSeriesModel" (mY m_mo_differ) (mY m_mo_differ) ∈ TB := tb_t 477 (by decide +kernel) rfl
theorem ck_mo_obeys : zCk m_mo_obeys 1 := ⟨tb_t 482 (by decide +kernel) rfl, tb_t 6 (by decide +kernel) rfl, by decide, by decide, by decide +kernel⟩
theorem im_mo_obeys : Cond.instanceMethod (mY m_mo_obeys) ∈ TB := tb_t 480 (by decide +kernel) rfl
theorem sl_mo_obeys : Cond.selects "RecurrentSeriesModel" (mY m_mo_obeys) (mY m_mo_obeys) ∈ TB := tb_t 481 (by decide +kernel) rfl
theorem ck_mo_shared : zCk m_mo_shared 2 := ⟨tb_t 486 (by decide +kernel) rfl, tb_t 6 (by decide +kernel) rfl, by decide, by decide, by decide +kernel⟩
theorem im_mo_shared : Cond.instanceMethod (mY m_mo_shared) ∈ TB := tb_t 484 (by decide +kernel) rfl
theorem sl_mo_shared : Cond.selects "RecurrentSeriesModel" (mY m_mo_shared) (mY m_mo_shared) ∈ TB := tb_t 485 (by decide +kernel) rfl
theorem ck_dv_init : zCk m_dv_init 0 := ⟨tb_t 62 (by decide +kernel) rfl, tb_t 4 (by decide +kernel) rfl, by decide, by decide, by decide +kernel⟩
theorem im_dv_init : Cond.instanceMethod (mY m_dv_init) ∈ TB := tb_t 61 (by decide +kernel) rfl
theorem ck_dv_commonDegree : zCk m_dv_commonDegree 2 := ⟨tb_t 293 (by decide +kernel) rfl, tb_t 4 (by decide +kernel) rfl, by decide, by decide, by decide +kernel⟩
theorem im_dv_commonDegree : Cond.instanceMethod (mY m_dv_commonDegree) ∈ TB := tb_t 291 (by decide +kernel) rfl
theorem sl_dv_commonDegree : Cond.selects "RecurrentSeries$Divider" (mY m_dv_commonDegree) (mY m_dv_commonDegree) ∈ TB := tb_t 292 (by decide +kernel) rfl
theorem ck_dv_load : zCk m_dv_load 2 := ⟨tb_t 296 (by decide +kernel) rfl, tb_t 4 (by decide +kernel) rfl, by decide, by decide, by decide +kernel⟩
theorem st_dv_load : Cond.static (mY m_dv_load) ∈ TB := tb_t 295 (by decide +kernel) rfl
theorem ck_dv_reduce : zCk m_dv_reduce 4 := ⟨tb_t 300 (by decide +kernel) rfl, tb_t 4 (by decide +kernel) rfl, by decide, by decide, by decide +kernel⟩
theorem st_dv_reduce : Cond.static (mY m_dv_reduce) ∈ TB := tb_t 299 (by decide +kernel) rfl
theorem ck_fi_init : zCk m_fi_init 0 := ⟨tb_t 23 (by decide +kernel) rfl, tb_t 2 (by decide +kernel) rfl, by decide, by decide, by decide +kernel⟩
theorem im_fi_init : Cond.instanceMethod (mY m_fi_init) ∈ TB := tb_t 22 (by decide +kernel) rfl
theorem ck_fi_find : zCk m_fi_find 3 := ⟨tb_t 161 (by decide +kernel) rfl, tb_t 2 (by decide +kernel) rfl, by decide, by decide, by decide +kernel⟩
theorem im_fi_find : Cond.instanceMethod (mY m_fi_find) ∈ TB := tb_t 159 (by decide +kernel) rfl
theorem sl_fi_find : Cond.selects "RecurrentSeries$Finder" (mY m_fi_find) (mY m_fi_find) ∈ TB := tb_t 160 (by decide +kernel) rfl
theorem ck_fi_mend : zCk m_fi_mend 3 := ⟨tb_t 180 (by decide +kernel) rfl, tb_t 2 (by decide +kernel) rfl, by decide, by decide, by decide +kernel⟩
theorem im_fi_mend : Cond.instanceMethod (mY m_fi_mend) ∈ TB := tb_t 179 (by decide +kernel) rfl
theorem sl_fi_mend : Cond.selects "RecurrentSeries$Finder" (mY m_fi_mend) (mY m_fi_mend) ∈ TB := tb_s 3 (by decide +kernel) rfl
theorem ck_fi_keepUnmended : zCk m_fi_keepUnmended 0 := ⟨tb_t 187 (by decide +kernel) rfl, tb_t 2 (by decide +kernel) rfl, by decide, by decide, by decide +kernel⟩
theorem im_fi_keepUnmended : Cond.instanceMethod (mY m_fi_keepUnmended) ∈ TB := tb_t 186 (by decide +kernel) rfl
theorem sl_fi_keepUnmended : Cond.selects "RecurrentSeries$Finder" (mY m_fi_keepUnmended) (mY m_fi_keepUnmended) ∈ TB := tb_s 4 (by decide +kernel) rfl
theorem ck_fi_erase : zCk m_fi_erase 1 := ⟨tb_t 164 (by decide +kernel) rfl, tb_t 2 (by decide +kernel) rfl, by decide, by decide, by decide +kernel⟩
theorem st_fi_erase : Cond.static (mY m_fi_erase) ∈ TB := tb_t 163 (by decide +kernel) rfl
theorem ck_nu_of : zCk m_nu_of 1 := ⟨tb_t 130 (by decide +kernel) rfl, tb_t 7 (by decide +kernel) rfl, by decide, by decide, by decide +kernel⟩
theorem st_nu_of : Cond.static (mY m_nu_of) ∈ TB := tb_t 129 (by decide +kernel) rfl
theorem ck_nu_plus : zCk m_nu_plus 2 := ⟨tb_t 183 (by decide +kernel) rfl, tb_t 7 (by decide +kernel) rfl, by decide, by decide, by decide +kernel⟩
theorem st_nu_plus : Cond.static (mY m_nu_plus) ∈ TB := tb_t 182 (by decide +kernel) rfl
theorem ck_nu_minus : zCk m_nu_minus 2 := ⟨tb_t 168 (by decide +kernel) rfl, tb_t 7 (by decide +kernel) rfl, by decide, by decide, by decide +kernel⟩
theorem st_nu_minus : Cond.static (mY m_nu_minus) ∈ TB := tb_t 167 (by decide +kernel) rfl
theorem ck_nu_times : zCk m_nu_times 2 := ⟨tb_t 175 (by decide +kernel) rfl, tb_t 7 (by decide +kernel) rfl, by decide, by decide, by decide +kernel⟩
theorem st_nu_times : Cond.static (mY m_nu_times) ∈ TB := tb_t 174 (by decide +kernel) rfl
theorem ck_nu_plusTimes : zCk m_nu_plusTimes 3 := ⟨tb_t 153 (by decide +kernel) rfl, tb_t 7 (by decide +kernel) rfl, by decide, by decide, by decide +kernel⟩
theorem st_nu_plusTimes : Cond.static (mY m_nu_plusTimes) ∈ TB := tb_t 152 (by decide +kernel) rfl
theorem ck_nu_inverse : zCk m_nu_inverse 1 := ⟨tb_t 171 (by decide +kernel) rfl, tb_t 7 (by decide +kernel) rfl, by decide, by decide, by decide +kernel⟩
theorem st_nu_inverse : Cond.static (mY m_nu_inverse) ∈ TB := tb_t 170 (by decide +kernel) rfl
theorem ck_nu_foretold : zCk m_nu_foretold 4 := ⟨tb_t 150 (by decide +kernel) rfl, tb_t 7 (by decide +kernel) rfl, by decide, by decide, by decide +kernel⟩
theorem st_nu_foretold : Cond.static (mY m_nu_foretold) ∈ TB := tb_t 149 (by decide +kernel) rfl
theorem ck_sk_init : zCk m_sk_init 0 := ⟨tb_t 40 (by decide +kernel) rfl, tb_t 3 (by decide +kernel) rfl, by decide, by decide, by decide +kernel⟩
theorem im_sk_init : Cond.instanceMethod (mY m_sk_init) ∈ TB := tb_t 39 (by decide +kernel) rfl
theorem ck_sk_seek : zCk m_sk_seek 2 := ⟨tb_t 259 (by decide +kernel) rfl, tb_t 3 (by decide +kernel) rfl, by decide, by decide, by decide +kernel⟩
theorem im_sk_seek : Cond.instanceMethod (mY m_sk_seek) ∈ TB := tb_t 257 (by decide +kernel) rfl
theorem sl_sk_seek : Cond.selects "RecurrentSeries$Seeker" (mY m_sk_seek) (mY m_sk_seek) ∈ TB := tb_t 258 (by decide +kernel) rfl
theorem ck_sk_load : zCk m_sk_load 1 := ⟨tb_t 263 (by decide +kernel) rfl, tb_t 3 (by decide +kernel) rfl, by decide, by decide, by decide +kernel⟩
theorem im_sk_load : Cond.instanceMethod (mY m_sk_load) ∈ TB := tb_t 262 (by decide +kernel) rfl
theorem sl_sk_load : Cond.selects "RecurrentSeries$Seeker" (mY m_sk_load) (mY m_sk_load) ∈ TB := tb_s 6 (by decide +kernel) rfl
theorem ck_sk_halve : zCk m_sk_halve 2 := ⟨tb_t 269 (by decide +kernel) rfl, tb_t 3 (by decide +kernel) rfl, by decide, by decide, by decide +kernel⟩
theorem im_sk_halve : Cond.instanceMethod (mY m_sk_halve) ∈ TB := tb_t 268 (by decide +kernel) rfl
theorem sl_sk_halve : Cond.selects "RecurrentSeries$Seeker" (mY m_sk_halve) (mY m_sk_halve) ∈ TB := tb_s 7 (by decide +kernel) rfl
theorem ck_sk_timesMirrored : zCk m_sk_timesMirrored 3 := ⟨tb_t 273 (by decide +kernel) rfl, tb_t 3 (by decide +kernel) rfl, by decide, by decide, by decide +kernel⟩
theorem im_sk_timesMirrored : Cond.instanceMethod (mY m_sk_timesMirrored) ∈ TB := tb_t 272 (by decide +kernel) rfl
theorem sl_sk_timesMirrored : Cond.selects "RecurrentSeries$Seeker" (mY m_sk_timesMirrored) (mY m_sk_timesMirrored) ∈ TB := tb_s 8 (by decide +kernel) rfl
theorem ck_se_init : zCk m_se_init 0 := ⟨tb_t 74 (by decide +kernel) rfl, tb_t 5 (by decide +kernel) rfl, by decide, by decide, by decide +kernel⟩
theorem im_se_init : Cond.instanceMethod (mY m_se_init) ∈ TB := tb_t 73 (by decide +kernel) rfl
theorem ck_se_writeTerms : zCk m_se_writeTerms 2 := ⟨tb_t 191 (by decide +kernel) rfl, tb_t 5 (by decide +kernel) rfl, by decide, by decide, by decide +kernel⟩
theorem im_se_writeTerms : Cond.instanceMethod (mY m_se_writeTerms) ∈ TB := tb_t 189 (by decide +kernel) rfl
theorem sl_se_writeTerms : Cond.selects "RecurrentSeries$Series" (mY m_se_writeTerms) (mY m_se_writeTerms) ∈ TB := tb_t 190 (by decide +kernel) rfl
theorem ck_ma_max : zCk m_ma_max 2 := ⟨tb_t 276 (by decide +kernel) rfl, tb_t 8 (by decide +kernel) rfl, by decide, by decide, by decide +kernel⟩
theorem st_ma_max : Cond.static (mY m_ma_max) ∈ TB := tb_t 275 (by decide +kernel) rfl
theorem lk_rs_3 : Cond.methodLink "RecurrentSeries" 3 Lib.objectInit ∈ TB := tb_t 14 (by decide +kernel) rfl
theorem lk_rs_27 : zLk "RecurrentSeries" 27 (mY m_fi_init) := Or.inr ⟨"RecurrentSeries", nb_t 21 (by decide +kernel) rfl⟩
theorem lk_rs_34 : zLk "RecurrentSeries" 34 (mY m_sk_init) := Or.inr ⟨"RecurrentSeries", nb_t 38 (by decide +kernel) rfl⟩
theorem lk_rs_41 : zLk "RecurrentSeries" 41 (mY m_dv_init) := Or.inr ⟨"RecurrentSeries", nb_t 60 (by decide +kernel) rfl⟩
theorem lk_rs_46 : zLk "RecurrentSeries" 46 (mY m_se_init) := Or.inr ⟨"RecurrentSeries", nb_t 72 (by decide +kernel) rfl⟩
theorem lk_rs_54 : zLk "RecurrentSeries" 54 (mY m_nu_of) := Or.inl (tb_t 128 (by decide +kernel) rfl)
theorem lk_rs_60 : zLk "RecurrentSeries" 60 (mY m_rs_numberFor) := Or.inl (tb_t 140 (by decide +kernel) rfl)
theorem lk_rs_64 : zLk "RecurrentSeries" 64 (mY m_rs_othersFit) := Or.inl (tb_t 144 (by decide +kernel) rfl)
theorem lk_rs_68 : zLk "RecurrentSeries" 68 (mY m_nu_foretold) := Or.inl (tb_t 148 (by decide +kernel) rfl)
theorem lk_rs_72 : zLk "RecurrentSeries" 72 (mY m_rs_enlist) := Or.inl (tb_t 154 (by decide +kernel) rfl)
theorem lk_rs_75 : zLk "RecurrentSeries" 75 (mY m_rs_isListed) := Or.inl (tb_t 197 (by decide +kernel) rfl)
theorem lk_rs_84 : zLk "RecurrentSeries" 84 (mY m_nu_times) := Or.inl (tb_t 201 (by decide +kernel) rfl)
theorem lk_rs_88 : zLk "RecurrentSeries" 88 (mY m_nu_plusTimes) := Or.inl (tb_t 202 (by decide +kernel) rfl)
theorem lk_rs_92 : zLk "RecurrentSeries" 92 (mY m_nu_plus) := Or.inl (tb_t 227 (by decide +kernel) rfl)
theorem lk_rs_95 : zLk "RecurrentSeries" 95 (mY m_se_writeTerms) := Or.inl (tb_t 188 (by decide +kernel) rfl)
theorem lk_rs_102 : zLk "RecurrentSeries" 102 (mY m_sk_seek) := Or.inl (tb_t 256 (by decide +kernel) rfl)
theorem lk_rs_106 : zLk "RecurrentSeries" 106 (mY m_dv_commonDegree) := Or.inl (tb_t 290 (by decide +kernel) rfl)
theorem lk_rs_110 : zLk "RecurrentSeries" 110 (mY m_fi_find) := Or.inl (tb_t 158 (by decide +kernel) rfl)
theorem lk_mo_1 : Cond.methodLink "RecurrentSeriesModel" 1 Lib.objectInit ∈ TB := tb_t 308 (by decide +kernel) rfl
theorem lk_mo_52 : zLk "RecurrentSeriesModel" 52 (mY m_mo_inverse) := Or.inl (tb_t 386 (by decide +kernel) rfl)
theorem lk_mo_56 : zLk "RecurrentSeriesModel" 56 (mY m_mo_swapRows) := Or.inl (tb_t 378 (by decide +kernel) rfl)
theorem lk_mo_60 : zLk "RecurrentSeriesModel" 60 (mY m_mo_clean) := Or.inl (tb_t 382 (by decide +kernel) rfl)
theorem lk_mo_64 : zLk "RecurrentSeriesModel" 64 (mY m_mo_ask) := Or.inl (tb_t 370 (by decide +kernel) rfl)
theorem lk_mo_67 : zLk "RecurrentSeriesModel" 67 (mY m_mo_solve) := Or.inl (tb_t 374 (by decide +kernel) rfl)
theorem lk_mo_74 : zLk "RecurrentSeriesModel" 74 (mY m_mo_number) := Or.inl (tb_t 354 (by decide +kernel) rfl)
theorem lk_mo_78 : zLk "RecurrentSeriesModel" 78 (mY m_mo_settle) := Or.inl (tb_t 366 (by decide +kernel) rfl)
theorem lk_mo_82 : zLk "RecurrentSeriesModel" 82 (mY m_mo_isIn) := Or.inl (tb_t 398 (by decide +kernel) rfl)
theorem lk_mo_86 : zLk "RecurrentSeriesModel" 86 (mY m_mo_orderOf) := Or.inl (tb_t 394 (by decide +kernel) rfl)
theorem lk_mo_89 : zLk "RecurrentSeriesModel" 89 (mY m_mo_refusal) := Or.inl (tb_t 402 (by decide +kernel) rfl)
theorem lk_mo_93 : zLk "RecurrentSeriesModel" 93 (mY m_mo_expand) := Or.inl (tb_t 406 (by decide +kernel) rfl)
theorem lk_mo_96 : zLk "RecurrentSeriesModel" 96 (mY m_mo_section) := Or.inl (tb_t 426 (by decide +kernel) rfl)
theorem lk_mo_100 : zLk "RecurrentSeriesModel" 100 (mY m_mo_makeStep) := Or.inl (tb_t 463 (by decide +kernel) rfl)
theorem lk_mo_104 : zLk "RecurrentSeriesModel" 104 (mY m_mo_applyStep) := Or.inl (tb_t 467 (by decide +kernel) rfl)
theorem lk_mo_108 : zLk "RecurrentSeriesModel" 108 (mY m_mo_squareStep) := Or.inl (tb_t 471 (by decide +kernel) rfl)
theorem lk_dv_3 : Cond.methodLink "RecurrentSeries$Divider" 3 Lib.objectInit ∈ TB := tb_t 63 (by decide +kernel) rfl
theorem lk_dv_18 : zLk "RecurrentSeries$Divider" 18 (mY m_dv_load) := Or.inl (tb_t 294 (by decide +kernel) rfl)
theorem lk_dv_28 : zLk "RecurrentSeries$Divider" 28 (mY m_dv_reduce) := Or.inl (tb_t 298 (by decide +kernel) rfl)
theorem lk_dv_35 : zLk "RecurrentSeries$Divider" 35 (mY m_nu_minus) := Or.inl (tb_t 297 (by decide +kernel) rfl)
theorem lk_dv_41 : zLk "RecurrentSeries$Divider" 41 (mY m_nu_inverse) := Or.inl (tb_t 301 (by decide +kernel) rfl)
theorem lk_dv_45 : zLk "RecurrentSeries$Divider" 45 (mY m_nu_times) := Or.inl (tb_t 302 (by decide +kernel) rfl)
theorem lk_fi_3 : Cond.methodLink "RecurrentSeries$Finder" 3 Lib.objectInit ∈ TB := tb_t 24 (by decide +kernel) rfl
theorem lk_fi_21 : zLk "RecurrentSeries$Finder" 21 (mY m_fi_erase) := Or.inl (tb_t 162 (by decide +kernel) rfl)
theorem lk_fi_25 : zLk "RecurrentSeries$Finder" 25 (mY m_nu_foretold) := Or.inl (tb_t 165 (by decide +kernel) rfl)
theorem lk_fi_31 : zLk "RecurrentSeries$Finder" 31 (mY m_nu_minus) := Or.inl (tb_t 166 (by decide +kernel) rfl)
theorem lk_fi_35 : zLk "RecurrentSeries$Finder" 35 (mY m_nu_inverse) := Or.inl (tb_t 169 (by decide +kernel) rfl)
theorem lk_fi_39 : zLk "RecurrentSeries$Finder" 39 (mY m_nu_times) := Or.inl (tb_t 176 (by decide +kernel) rfl)
theorem lk_fi_42 : zLk "RecurrentSeries$Finder" 42 (mY m_fi_mend) := Or.inl (tb_t 177 (by decide +kernel) rfl)
theorem lk_fi_46 : zLk "RecurrentSeries$Finder" 46 (mY m_fi_keepUnmended) := Or.inl (tb_t 184 (by decide +kernel) rfl)
theorem lk_fi_58 : zLk "RecurrentSeries$Finder" 58 (mY m_nu_plus) := Or.inl (tb_t 181 (by decide +kernel) rfl)
theorem lk_nu_13 : zLk "RecurrentSeries$Numbers" 13 (mY m_nu_times) := Or.inl (tb_t 173 (by decide +kernel) rfl)
theorem lk_nu_17 : zLk "RecurrentSeries$Numbers" 17 (mY m_nu_plusTimes) := Or.inl (tb_t 151 (by decide +kernel) rfl)
theorem lk_sk_3 : Cond.methodLink "RecurrentSeries$Seeker" 3 Lib.objectInit ∈ TB := tb_t 41 (by decide +kernel) rfl
theorem lk_sk_27 : zLk "RecurrentSeries$Seeker" 27 (mY m_sk_load) := Or.inl (tb_t 260 (by decide +kernel) rfl)
theorem lk_sk_37 : zLk "RecurrentSeries$Seeker" 37 (mY m_sk_halve) := Or.inl (tb_t 266 (by decide +kernel) rfl)
theorem lk_sk_44 : zLk "RecurrentSeries$Seeker" 44 (mY m_nu_minus) := Or.inl (tb_t 264 (by decide +kernel) rfl)
theorem lk_sk_53 : zLk "RecurrentSeries$Seeker" 53 (mY m_nu_foretold) := Or.inl (tb_t 265 (by decide +kernel) rfl)
theorem lk_sk_57 : zLk "RecurrentSeries$Seeker" 57 (mY m_sk_timesMirrored) := Or.inl (tb_t 270 (by decide +kernel) rfl)
theorem lk_sk_61 : zLk "RecurrentSeries$Seeker" 61 (mY m_ma_max) := Or.inl (tb_t 274 (by decide +kernel) rfl)
theorem lk_sk_67 : zLk "RecurrentSeries$Seeker" 67 (mY m_nu_plusTimes) := Or.inl (tb_t 277 (by decide +kernel) rfl)
theorem lk_se_3 : Cond.methodLink "RecurrentSeries$Series" 3 Lib.objectInit ∈ TB := tb_t 75 (by decide +kernel) rfl
theorem lk_se_22 : zLk "RecurrentSeries$Series" 22 (mY m_nu_foretold) := Or.inl (tb_t 192 (by decide +kernel) rfl)
theorem lk_la_9 : zLk "RecurrentSeriesLaw" 9 (mY m_rs_init) := Or.inl (tb_t 11 (by decide +kernel) rfl)
theorem lk_la_12 : zLk "RecurrentSeriesLaw" 12 (mY m_mo_init) := Or.inl (tb_t 305 (by decide +kernel) rfl)
theorem lk_la_13 : zLk "RecurrentSeriesLaw" 13 (mY m_rs_give) := Or.inl (tb_t 124 (by decide +kernel) rfl)
theorem lk_la_17 : zLk "RecurrentSeriesLaw" 17 (mY m_mo_give) := Or.inl (tb_t 350 (by decide +kernel) rfl)
theorem lk_la_18 : zLk "RecurrentSeriesLaw" 18 (mY m_rs_clear) := Or.inl (tb_t 132 (by decide +kernel) rfl)
theorem lk_la_22 : zLk "RecurrentSeriesLaw" 22 (mY m_mo_clear) := Or.inl (tb_t 358 (by decide +kernel) rfl)
theorem lk_la_23 : zLk "RecurrentSeriesLaw" 23 (mY m_rs_leaf) := Or.inl (tb_t 136 (by decide +kernel) rfl)
theorem lk_la_27 : zLk "RecurrentSeriesLaw" 27 (mY m_mo_leaf) := Or.inl (tb_t 362 (by decide +kernel) rfl)
theorem lk_la_28 : zLk "RecurrentSeriesLaw" 28 (mY m_rs_combine) := Or.inl (tb_t 193 (by decide +kernel) rfl)
theorem lk_la_32 : zLk "RecurrentSeriesLaw" 32 (mY m_mo_combine) := Or.inl (tb_t 390 (by decide +kernel) rfl)
theorem lk_la_33 : zLk "RecurrentSeriesLaw" 33 (mY m_rs_product) := Or.inl (tb_t 203 (by decide +kernel) rfl)
theorem lk_la_37 : zLk "RecurrentSeriesLaw" 37 (mY m_mo_product) := Or.inl (tb_t 410 (by decide +kernel) rfl)
theorem lk_la_38 : zLk "RecurrentSeriesLaw" 38 (mY m_rs_pairwise) := Or.inl (tb_t 207 (by decide +kernel) rfl)
theorem lk_la_41 : zLk "RecurrentSeriesLaw" 41 (mY m_mo_pairwise) := Or.inl (tb_t 414 (by decide +kernel) rfl)
theorem lk_la_42 : zLk "RecurrentSeriesLaw" 42 (mY m_rs_derivative) := Or.inl (tb_t 211 (by decide +kernel) rfl)
theorem lk_la_45 : zLk "RecurrentSeriesLaw" 45 (mY m_mo_derivative) := Or.inl (tb_t 418 (by decide +kernel) rfl)
theorem lk_la_46 : zLk "RecurrentSeriesLaw" 46 (mY m_rs_tail) := Or.inl (tb_t 215 (by decide +kernel) rfl)
theorem lk_la_49 : zLk "RecurrentSeriesLaw" 49 (mY m_mo_tail) := Or.inl (tb_t 422 (by decide +kernel) rfl)
theorem lk_la_50 : zLk "RecurrentSeriesLaw" 50 (mY m_rs_delay) := Or.inl (tb_t 219 (by decide +kernel) rfl)
theorem lk_la_53 : zLk "RecurrentSeriesLaw" 53 (mY m_mo_delay) := Or.inl (tb_t 430 (by decide +kernel) rfl)
theorem lk_la_54 : zLk "RecurrentSeriesLaw" 54 (mY m_rs_sums) := Or.inl (tb_t 223 (by decide +kernel) rfl)
theorem lk_la_57 : zLk "RecurrentSeriesLaw" 57 (mY m_mo_sums) := Or.inl (tb_t 434 (by decide +kernel) rfl)
theorem lk_la_58 : zLk "RecurrentSeriesLaw" 58 (mY m_rs_section) := Or.inl (tb_t 228 (by decide +kernel) rfl)
theorem lk_la_62 : zLk "RecurrentSeriesLaw" 62 (mY m_mo_section) := Or.inl (tb_t 438 (by decide +kernel) rfl)
theorem lk_la_63 : zLk "RecurrentSeriesLaw" 63 (mY m_rs_spread) := Or.inl (tb_t 232 (by decide +kernel) rfl)
theorem lk_la_66 : zLk "RecurrentSeriesLaw" 66 (mY m_mo_spread) := Or.inl (tb_t 439 (by decide +kernel) rfl)
theorem lk_la_67 : zLk "RecurrentSeriesLaw" 67 (mY m_rs_forget) := Or.inl (tb_t 236 (by decide +kernel) rfl)
theorem lk_la_71 : zLk "RecurrentSeriesLaw" 71 (mY m_mo_forget) := Or.inl (tb_t 443 (by decide +kernel) rfl)
theorem lk_la_72 : zLk "RecurrentSeriesLaw" 72 (mY m_rs_count) := Or.inl (tb_t 240 (by decide +kernel) rfl)
theorem lk_la_75 : zLk "RecurrentSeriesLaw" 75 (mY m_mo_count) := Or.inl (tb_t 447 (by decide +kernel) rfl)
theorem lk_la_76 : zLk "RecurrentSeriesLaw" 76 (mY m_rs_order) := Or.inl (tb_t 244 (by decide +kernel) rfl)
theorem lk_la_79 : zLk "RecurrentSeriesLaw" 79 (mY m_mo_order) := Or.inl (tb_t 451 (by decide +kernel) rfl)
theorem lk_la_80 : zLk "RecurrentSeriesLaw" 80 (mY m_rs_coefficient) := Or.inl (tb_t 248 (by decide +kernel) rfl)
theorem lk_la_83 : zLk "RecurrentSeriesLaw" 83 (mY m_mo_coefficient) := Or.inl (tb_t 455 (by decide +kernel) rfl)
theorem lk_la_86 : zLk "RecurrentSeriesLaw" 86 (mY m_rs_term) := Or.inl (tb_t 252 (by decide +kernel) rfl)
theorem lk_la_90 : zLk "RecurrentSeriesLaw" 90 (mY m_mo_term) := Or.inl (tb_t 459 (by decide +kernel) rfl)
theorem lk_la_91 : zLk "RecurrentSeriesLaw" 91 (mY m_rs_differ) := Or.inl (tb_t 278 (by decide +kernel) rfl)
theorem lk_la_94 : zLk "RecurrentSeriesLaw" 94 (mY m_mo_differ) := Or.inl (tb_t 475 (by decide +kernel) rfl)
theorem lk_la_95 : zLk "RecurrentSeriesLaw" 95 (mY m_rs_obeys) := Or.inl (tb_t 282 (by decide +kernel) rfl)
theorem lk_la_98 : zLk "RecurrentSeriesLaw" 98 (mY m_mo_obeys) := Or.inl (tb_t 479 (by decide +kernel) rfl)
theorem lk_la_99 : zLk "RecurrentSeriesLaw" 99 (mY m_rs_shared) := Or.inl (tb_t 286 (by decide +kernel) rfl)
theorem lk_la_102 : zLk "RecurrentSeriesLaw" 102 (mY m_mo_shared) := Or.inl (tb_t 483 (by decide +kernel) rfl)
theorem tb_obj1 : Cond.instanceMethod Lib.objectInit ∈ TB := tb_t 15 (by decide +kernel) rfl
theorem tb_obj2 : Cond.code Lib.objectInit ⟨#[0xb1]⟩ 1 none ∈ TB := tb_t 16 (by decide +kernel) rfl
theorem tb_arrL : Cond.arrayClass .long ∈ TB := tb_t 35 (by decide +kernel) rfl
theorem tb_arrI : Cond.arrayClass .int ∈ TB := tb_t 349 (by decide +kernel) rfl
theorem nb_over : Cond.arrayOver (.object "RecurrentSeries$Series") ∈ NB := nb_t 18 (by decide +kernel) rfl
theorem cl_nu_9 : Cond.constantLong "RecurrentSeries$Numbers" 9 (lN 2147483647) ∈ TB := tb_t 131 (by decide +kernel) rfl
theorem cl_nu_11 : Cond.constantLong "RecurrentSeries$Numbers" 11 (lN 2147483645) ∈ TB := tb_t 172 (by decide +kernel) rfl
theorem cl_mo_44 : Cond.constantLong "RecurrentSeriesModel" 44 (lN 2147483647) ∈ TB := tb_t 357 (by decide +kernel) rfl
theorem cl_mo_46 : Cond.constantLong "RecurrentSeriesModel" 46 (lN 2147483645) ∈ TB := tb_t 389 (by decide +kernel) rfl
theorem cl_la_84 : Cond.constantLong "RecurrentSeriesLaw" 84 (lN 4294967295) ∈ TB := tb_t 487 (by decide +kernel) rfl
theorem cn_rs_9 : Cond.classLink "RecurrentSeries" 9 "RecurrentSeries$Series" ∈ TB := tb_t 17 (by decide +kernel) rfl
theorem cn_rs_25 : Cond.classLink "RecurrentSeries" 25 "RecurrentSeries$Finder" ∈ TB := tb_t 19 (by decide +kernel) rfl
theorem cn_rs_32 : Cond.classLink "RecurrentSeries" 32 "RecurrentSeries$Seeker" ∈ TB := tb_t 36 (by decide +kernel) rfl
theorem cn_rs_39 : Cond.classLink "RecurrentSeries" 39 "RecurrentSeries$Divider" ∈ TB := tb_t 58 (by decide +kernel) rfl
theorem cn_la_7 : Cond.classLink "RecurrentSeriesLaw" 7 "RecurrentSeries" ∈ TB := tb_t 9 (by decide +kernel) rfl
theorem cn_la_10 : Cond.classLink "RecurrentSeriesLaw" 10 "RecurrentSeriesModel" ∈ TB := tb_t 303 (by decide +kernel) rfl
theorem nw_rs {own : String} {idx : Nat} (h : Cond.classLink own idx "RecurrentSeries" ∈ TB) : zNw own idx 0 9 [.null, .null, .null, .null, .null, .null, .null, .int 0, .int 0] := ⟨_, zT_rs, zY_rs, rfl, uw_rs, zY_rs_ok, h, tb_t 10 (by decide +kernel) rfl, tb_t 1 (by decide +kernel) rfl, fun b j hj => by
  match j, hj with
  | 0, _ => rfl
  | 1, _ => rfl
  | 2, _ => rfl
  | 3, _ => rfl
  | 4, _ => rfl
  | 5, _ => rfl
  | 6, _ => rfl
  | 7, _ => rfl
  | 8, _ => rfl
  | j + 9, hj => omega⟩
theorem nw_se {own : String} {idx : Nat} (h : Cond.classLink own idx "RecurrentSeries$Series" ∈ TB) : zNw own idx 1 3 [.int 0, .null, .null] := ⟨_, zT_se, zY_se, rfl, uw_se, zY_se_ok, h, tb_t 71 (by decide +kernel) rfl, tb_t 5 (by decide +kernel) rfl, fun b j hj => by
  match j, hj with
  | 0, _ => rfl
  | 1, _ => rfl
  | 2, _ => rfl
  | j + 3, hj => omega⟩
theorem nw_fi {own : String} {idx : Nat} (h : Cond.classLink own idx "RecurrentSeries$Finder" ∈ TB) : zNw own idx 2 3 [.null, .null, .null] := ⟨_, zT_fi, zY_fi, rfl, uw_fi, zY_fi_ok, h, tb_t 20 (by decide +kernel) rfl, tb_t 2 (by decide +kernel) rfl, fun b j hj => by
  match j, hj with
  | 0, _ => rfl
  | 1, _ => rfl
  | 2, _ => rfl
  | j + 3, hj => omega⟩
theorem nw_sk {own : String} {idx : Nat} (h : Cond.classLink own idx "RecurrentSeries$Seeker" ∈ TB) : zNw own idx 3 5 [.null, .null, .null, .null, .null] := ⟨_, zT_sk, zY_sk, rfl, uw_sk, zY_sk_ok, h, tb_t 37 (by decide +kernel) rfl, tb_t 3 (by decide +kernel) rfl, fun b j hj => by
  match j, hj with
  | 0, _ => rfl
  | 1, _ => rfl
  | 2, _ => rfl
  | 3, _ => rfl
  | 4, _ => rfl
  | j + 5, hj => omega⟩
theorem nw_dv {own : String} {idx : Nat} (h : Cond.classLink own idx "RecurrentSeries$Divider" ∈ TB) : zNw own idx 4 2 [.null, .null] := ⟨_, zT_dv, zY_dv, rfl, uw_dv, zY_dv_ok, h, tb_t 59 (by decide +kernel) rfl, tb_t 4 (by decide +kernel) rfl, fun b j hj => by
  match j, hj with
  | 0, _ => rfl
  | 1, _ => rfl
  | j + 2, hj => omega⟩
theorem nw_mo {own : String} {idx : Nat} (h : Cond.classLink own idx "RecurrentSeriesModel" ∈ TB) : zNw own idx 5 13 [.int 0, .int 0, .null, .null, .null, .null, .null, .null, .null, .null, .null, .null, .null] := ⟨_, zT_mo, zY_mo, rfl, uw_mo, zY_mo_ok, h, tb_t 304 (by decide +kernel) rfl, tb_t 6 (by decide +kernel) rfl, fun b j hj => by
  match j, hj with
  | 0, _ => rfl
  | 1, _ => rfl
  | 2, _ => rfl
  | 3, _ => rfl
  | 4, _ => rfl
  | 5, _ => rfl
  | 6, _ => rfl
  | 7, _ => rfl
  | 8, _ => rfl
  | 9, _ => rfl
  | 10, _ => rfl
  | 11, _ => rfl
  | 12, _ => rfl
  | j + 13, hj => omega⟩
/-- an exact end -/
def zEq (r : Option Value) (n : Nat) (σ : zWd) : Option Value → Nat → zWd → Prop := fun r' n' σ' => r' = r ∧ n' = n ∧ σ' = σ
section ZC
variable {M M' : zMI} {Po Po' : Option Value → Nat → zWd → Prop} {n n' pc q idx : Nat} {σ σ' : zWd} {lv : List (Option Value)} {rest : List Value}
theorem z_gS0 (hd : decode (mB M) pc = .ok (.invokestatic idx, 3)) (hq : pc + 3 = q) (hM : Ct M' [] n σ Po') (hk : zCk M' 0) (hl : zLk (mY M).cls idx (mY M')) (hst : Cond.static (mY M') ∈ TB) (hR : zFit M M') (hcat : (rest.map fun v => v.category).sum ≤ 8) (h0 : (mR M').cells = 0) (h1 : (mR M').slots = 0) (k : ∀ (r : Option Value) (m : Nat) (τ : zWd), Po' r m τ → Z M Po 0 0 m τ q lv (r.toList ++ rest)) : Z M Po 0 0 n σ pc lv (rest) := z_callS (As := []) hd hq hM hk hl hst hR hcat (by omega) (by omega) (fun r m τ h => by rw [h0, h1]; exact k r m τ h)
theorem z_cS0 {v : Value} (hd : decode (mB M) pc = .ok (.invokestatic idx, 3)) (hq : pc + 3 = q) (hM : Ct M' [] n σ (zEq (some v) n' σ')) (hk : zCk M' 0) (hl : zLk (mY M).cls idx (mY M')) (hst : Cond.static (mY M') ∈ TB) (hR : zFit M M') (hcat : (rest.map fun v => v.category).sum ≤ 8) (h0 : (mR M').cells = 0) (h1 : (mR M').slots = 0) (k : Z M Po 0 0 n' σ' q lv (v :: rest)) : Z M Po 0 0 n σ pc lv (rest) := z_callS (As := []) hd hq hM hk hl hst hR hcat (by omega) (by omega) (fun r m τ h => by rw [h0, h1]; obtain ⟨rfl, rfl, rfl⟩ := h; exact k)
theorem z_cS0v (hd : decode (mB M) pc = .ok (.invokestatic idx, 3)) (hq : pc + 3 = q) (hM : Ct M' [] n σ (zEq none n' σ')) (hk : zCk M' 0) (hl : zLk (mY M).cls idx (mY M')) (hst : Cond.static (mY M') ∈ TB) (hR : zFit M M') (hcat : (rest.map fun v => v.category).sum ≤ 8) (h0 : (mR M').cells = 0) (h1 : (mR M').slots = 0) (k : Z M Po 0 0 n' σ' q lv rest) : Z M Po 0 0 n σ pc lv (rest) := z_callS (As := []) hd hq hM hk hl hst hR hcat (by omega) (by omega) (fun r m τ h => by rw [h0, h1]; obtain ⟨rfl, rfl, rfl⟩ := h; exact k)
theorem z_gV0 {i ci : Nat} {fs : List Value} {vc : vw_C} (hd : decode (mB M) pc = .ok (.invokevirtual idx, 3)) (hq : pc + 3 = q) (hM : Ct M' [.ref i] n σ Po') (hs : σ i = zO ci fs) (hi : i < n) (hvc : zCl[ci]? = some vc) (hk : zCk M' 0) (hl : zLk (mY M).cls idx (mY M')) (hst : Cond.instanceMethod (mY M') ∈ TB) (hsel : Cond.selects vc.1 (mY M') (mY M') ∈ TB) (hR : zFit M M') (hcat : (rest.map fun v => v.category).sum ≤ 8) (h0 : (mR M').cells = 0) (h1 : (mR M').slots = 0) (k : ∀ (r : Option Value) (m : Nat) (τ : zWd), Po' r m τ → Z M Po 0 0 m τ q lv (r.toList ++ rest)) : Z M Po 0 0 n σ pc lv (.ref i :: rest) := z_callV (As := []) hd hq hM hs hi hvc hk hl hst hsel hR hcat (by omega) (by omega) (fun r m τ h => by rw [h0, h1]; exact k r m τ h)
theorem z_cV0 {v : Value} {i ci : Nat} {fs : List Value} {vc : vw_C} (hd : decode (mB M) pc = .ok (.invokevirtual idx, 3)) (hq : pc + 3 = q) (hM : Ct M' [.ref i] n σ (zEq (some v) n' σ')) (hs : σ i = zO ci fs) (hi : i < n) (hvc : zCl[ci]? = some vc) (hk : zCk M' 0) (hl : zLk (mY M).cls idx (mY M')) (hst : Cond.instanceMethod (mY M') ∈ TB) (hsel : Cond.selects vc.1 (mY M') (mY M') ∈ TB) (hR : zFit M M') (hcat : (rest.map fun v => v.category).sum ≤ 8) (h0 : (mR M').cells = 0) (h1 : (mR M').slots = 0) (k : Z M Po 0 0 n' σ' q lv (v :: rest)) : Z M Po 0 0 n σ pc lv (.ref i :: rest) := z_callV (As := []) hd hq hM hs hi hvc hk hl hst hsel hR hcat (by omega) (by omega) (fun r m τ h => by rw [h0, h1]; obtain ⟨rfl, rfl, rfl⟩ := h; exact k)
theorem z_cV0v {i ci : Nat} {fs : List Value} {vc : vw_C} (hd : decode (mB M) pc = .ok (.invokevirtual idx, 3)) (hq : pc + 3 = q) (hM : Ct M' [.ref i] n σ (zEq none n' σ')) (hs : σ i = zO ci fs) (hi : i < n) (hvc : zCl[ci]? = some vc) (hk : zCk M' 0) (hl : zLk (mY M).cls idx (mY M')) (hst : Cond.instanceMethod (mY M') ∈ TB) (hsel : Cond.selects vc.1 (mY M') (mY M') ∈ TB) (hR : zFit M M') (hcat : (rest.map fun v => v.category).sum ≤ 8) (h0 : (mR M').cells = 0) (h1 : (mR M').slots = 0) (k : Z M Po 0 0 n' σ' q lv rest) : Z M Po 0 0 n σ pc lv (.ref i :: rest) := z_callV (As := []) hd hq hM hs hi hvc hk hl hst hsel hR hcat (by omega) (by omega) (fun r m τ h => by rw [h0, h1]; obtain ⟨rfl, rfl, rfl⟩ := h; exact k)
theorem z_gS1 {a0 : Value} (hd : decode (mB M) pc = .ok (.invokestatic idx, 3)) (hq : pc + 3 = q) (hM : Ct M' [a0] n σ Po') (hk : zCk M' 1) (hl : zLk (mY M).cls idx (mY M')) (hst : Cond.static (mY M') ∈ TB) (hR : zFit M M') (hcat : (rest.map fun v => v.category).sum ≤ 8) (h0 : (mR M').cells = 0) (h1 : (mR M').slots = 0) (k : ∀ (r : Option Value) (m : Nat) (τ : zWd), Po' r m τ → Z M Po 0 0 m τ q lv (r.toList ++ rest)) : Z M Po 0 0 n σ pc lv (a0 :: rest) := z_callS (As := [a0]) hd hq hM hk hl hst hR hcat (by omega) (by omega) (fun r m τ h => by rw [h0, h1]; exact k r m τ h)
theorem z_cS1 {a0 : Value} {v : Value} (hd : decode (mB M) pc = .ok (.invokestatic idx, 3)) (hq : pc + 3 = q) (hM : Ct M' [a0] n σ (zEq (some v) n' σ')) (hk : zCk M' 1) (hl : zLk (mY M).cls idx (mY M')) (hst : Cond.static (mY M') ∈ TB) (hR : zFit M M') (hcat : (rest.map fun v => v.category).sum ≤ 8) (h0 : (mR M').cells = 0) (h1 : (mR M').slots = 0) (k : Z M Po 0 0 n' σ' q lv (v :: rest)) : Z M Po 0 0 n σ pc lv (a0 :: rest) := z_callS (As := [a0]) hd hq hM hk hl hst hR hcat (by omega) (by omega) (fun r m τ h => by rw [h0, h1]; obtain ⟨rfl, rfl, rfl⟩ := h; exact k)
theorem z_cS1v {a0 : Value} (hd : decode (mB M) pc = .ok (.invokestatic idx, 3)) (hq : pc + 3 = q) (hM : Ct M' [a0] n σ (zEq none n' σ')) (hk : zCk M' 1) (hl : zLk (mY M).cls idx (mY M')) (hst : Cond.static (mY M') ∈ TB) (hR : zFit M M') (hcat : (rest.map fun v => v.category).sum ≤ 8) (h0 : (mR M').cells = 0) (h1 : (mR M').slots = 0) (k : Z M Po 0 0 n' σ' q lv rest) : Z M Po 0 0 n σ pc lv (a0 :: rest) := z_callS (As := [a0]) hd hq hM hk hl hst hR hcat (by omega) (by omega) (fun r m τ h => by rw [h0, h1]; obtain ⟨rfl, rfl, rfl⟩ := h; exact k)
theorem z_gV1 {a0 : Value} {i ci : Nat} {fs : List Value} {vc : vw_C} (hd : decode (mB M) pc = .ok (.invokevirtual idx, 3)) (hq : pc + 3 = q) (hM : Ct M' [.ref i, a0] n σ Po') (hs : σ i = zO ci fs) (hi : i < n) (hvc : zCl[ci]? = some vc) (hk : zCk M' 1) (hl : zLk (mY M).cls idx (mY M')) (hst : Cond.instanceMethod (mY M') ∈ TB) (hsel : Cond.selects vc.1 (mY M') (mY M') ∈ TB) (hR : zFit M M') (hcat : (rest.map fun v => v.category).sum ≤ 8) (h0 : (mR M').cells = 0) (h1 : (mR M').slots = 0) (k : ∀ (r : Option Value) (m : Nat) (τ : zWd), Po' r m τ → Z M Po 0 0 m τ q lv (r.toList ++ rest)) : Z M Po 0 0 n σ pc lv (a0 :: .ref i :: rest) := z_callV (As := [a0]) hd hq hM hs hi hvc hk hl hst hsel hR hcat (by omega) (by omega) (fun r m τ h => by rw [h0, h1]; exact k r m τ h)
theorem z_cV1 {a0 : Value} {v : Value} {i ci : Nat} {fs : List Value} {vc : vw_C} (hd : decode (mB M) pc = .ok (.invokevirtual idx, 3)) (hq : pc + 3 = q) (hM : Ct M' [.ref i, a0] n σ (zEq (some v) n' σ')) (hs : σ i = zO ci fs) (hi : i < n) (hvc : zCl[ci]? = some vc) (hk : zCk M' 1) (hl : zLk (mY M).cls idx (mY M')) (hst : Cond.instanceMethod (mY M') ∈ TB) (hsel : Cond.selects vc.1 (mY M') (mY M') ∈ TB) (hR : zFit M M') (hcat : (rest.map fun v => v.category).sum ≤ 8) (h0 : (mR M').cells = 0) (h1 : (mR M').slots = 0) (k : Z M Po 0 0 n' σ' q lv (v :: rest)) : Z M Po 0 0 n σ pc lv (a0 :: .ref i :: rest) := z_callV (As := [a0]) hd hq hM hs hi hvc hk hl hst hsel hR hcat (by omega) (by omega) (fun r m τ h => by rw [h0, h1]; obtain ⟨rfl, rfl, rfl⟩ := h; exact k)
theorem z_cV1v {a0 : Value} {i ci : Nat} {fs : List Value} {vc : vw_C} (hd : decode (mB M) pc = .ok (.invokevirtual idx, 3)) (hq : pc + 3 = q) (hM : Ct M' [.ref i, a0] n σ (zEq none n' σ')) (hs : σ i = zO ci fs) (hi : i < n) (hvc : zCl[ci]? = some vc) (hk : zCk M' 1) (hl : zLk (mY M).cls idx (mY M')) (hst : Cond.instanceMethod (mY M') ∈ TB) (hsel : Cond.selects vc.1 (mY M') (mY M') ∈ TB) (hR : zFit M M') (hcat : (rest.map fun v => v.category).sum ≤ 8) (h0 : (mR M').cells = 0) (h1 : (mR M').slots = 0) (k : Z M Po 0 0 n' σ' q lv rest) : Z M Po 0 0 n σ pc lv (a0 :: .ref i :: rest) := z_callV (As := [a0]) hd hq hM hs hi hvc hk hl hst hsel hR hcat (by omega) (by omega) (fun r m τ h => by rw [h0, h1]; obtain ⟨rfl, rfl, rfl⟩ := h; exact k)
theorem z_gS2 {a0 a1 : Value} (hd : decode (mB M) pc = .ok (.invokestatic idx, 3)) (hq : pc + 3 = q) (hM : Ct M' [a0, a1] n σ Po') (hk : zCk M' 2) (hl : zLk (mY M).cls idx (mY M')) (hst : Cond.static (mY M') ∈ TB) (hR : zFit M M') (hcat : (rest.map fun v => v.category).sum ≤ 8) (h0 : (mR M').cells = 0) (h1 : (mR M').slots = 0) (k : ∀ (r : Option Value) (m : Nat) (τ : zWd), Po' r m τ → Z M Po 0 0 m τ q lv (r.toList ++ rest)) : Z M Po 0 0 n σ pc lv (a1 :: a0 :: rest) := z_callS (As := [a0, a1]) hd hq hM hk hl hst hR hcat (by omega) (by omega) (fun r m τ h => by rw [h0, h1]; exact k r m τ h)
theorem z_cS2 {a0 a1 : Value} {v : Value} (hd : decode (mB M) pc = .ok (.invokestatic idx, 3)) (hq : pc + 3 = q) (hM : Ct M' [a0, a1] n σ (zEq (some v) n' σ')) (hk : zCk M' 2) (hl : zLk (mY M).cls idx (mY M')) (hst : Cond.static (mY M') ∈ TB) (hR : zFit M M') (hcat : (rest.map fun v => v.category).sum ≤ 8) (h0 : (mR M').cells = 0) (h1 : (mR M').slots = 0) (k : Z M Po 0 0 n' σ' q lv (v :: rest)) : Z M Po 0 0 n σ pc lv (a1 :: a0 :: rest) := z_callS (As := [a0, a1]) hd hq hM hk hl hst hR hcat (by omega) (by omega) (fun r m τ h => by rw [h0, h1]; obtain ⟨rfl, rfl, rfl⟩ := h; exact k)
theorem z_cS2v {a0 a1 : Value} (hd : decode (mB M) pc = .ok (.invokestatic idx, 3)) (hq : pc + 3 = q) (hM : Ct M' [a0, a1] n σ (zEq none n' σ')) (hk : zCk M' 2) (hl : zLk (mY M).cls idx (mY M')) (hst : Cond.static (mY M') ∈ TB) (hR : zFit M M') (hcat : (rest.map fun v => v.category).sum ≤ 8) (h0 : (mR M').cells = 0) (h1 : (mR M').slots = 0) (k : Z M Po 0 0 n' σ' q lv rest) : Z M Po 0 0 n σ pc lv (a1 :: a0 :: rest) := z_callS (As := [a0, a1]) hd hq hM hk hl hst hR hcat (by omega) (by omega) (fun r m τ h => by rw [h0, h1]; obtain ⟨rfl, rfl, rfl⟩ := h; exact k)
theorem z_gV2 {a0 a1 : Value} {i ci : Nat} {fs : List Value} {vc : vw_C} (hd : decode (mB M) pc = .ok (.invokevirtual idx, 3)) (hq : pc + 3 = q) (hM : Ct M' [.ref i, a0, a1] n σ Po') (hs : σ i = zO ci fs) (hi : i < n) (hvc : zCl[ci]? = some vc) (hk : zCk M' 2) (hl : zLk (mY M).cls idx (mY M')) (hst : Cond.instanceMethod (mY M') ∈ TB) (hsel : Cond.selects vc.1 (mY M') (mY M') ∈ TB) (hR : zFit M M') (hcat : (rest.map fun v => v.category).sum ≤ 8) (h0 : (mR M').cells = 0) (h1 : (mR M').slots = 0) (k : ∀ (r : Option Value) (m : Nat) (τ : zWd), Po' r m τ → Z M Po 0 0 m τ q lv (r.toList ++ rest)) : Z M Po 0 0 n σ pc lv (a1 :: a0 :: .ref i :: rest) := z_callV (As := [a0, a1]) hd hq hM hs hi hvc hk hl hst hsel hR hcat (by omega) (by omega) (fun r m τ h => by rw [h0, h1]; exact k r m τ h)
theorem z_cV2 {a0 a1 : Value} {v : Value} {i ci : Nat} {fs : List Value} {vc : vw_C} (hd : decode (mB M) pc = .ok (.invokevirtual idx, 3)) (hq : pc + 3 = q) (hM : Ct M' [.ref i, a0, a1] n σ (zEq (some v) n' σ')) (hs : σ i = zO ci fs) (hi : i < n) (hvc : zCl[ci]? = some vc) (hk : zCk M' 2) (hl : zLk (mY M).cls idx (mY M')) (hst : Cond.instanceMethod (mY M') ∈ TB) (hsel : Cond.selects vc.1 (mY M') (mY M') ∈ TB) (hR : zFit M M') (hcat : (rest.map fun v => v.category).sum ≤ 8) (h0 : (mR M').cells = 0) (h1 : (mR M').slots = 0) (k : Z M Po 0 0 n' σ' q lv (v :: rest)) : Z M Po 0 0 n σ pc lv (a1 :: a0 :: .ref i :: rest) := z_callV (As := [a0, a1]) hd hq hM hs hi hvc hk hl hst hsel hR hcat (by omega) (by omega) (fun r m τ h => by rw [h0, h1]; obtain ⟨rfl, rfl, rfl⟩ := h; exact k)
theorem z_cV2v {a0 a1 : Value} {i ci : Nat} {fs : List Value} {vc : vw_C} (hd : decode (mB M) pc = .ok (.invokevirtual idx, 3)) (hq : pc + 3 = q) (hM : Ct M' [.ref i, a0, a1] n σ (zEq none n' σ')) (hs : σ i = zO ci fs) (hi : i < n) (hvc : zCl[ci]? = some vc) (hk : zCk M' 2) (hl : zLk (mY M).cls idx (mY M')) (hst : Cond.instanceMethod (mY M') ∈ TB) (hsel : Cond.selects vc.1 (mY M') (mY M') ∈ TB) (hR : zFit M M') (hcat : (rest.map fun v => v.category).sum ≤ 8) (h0 : (mR M').cells = 0) (h1 : (mR M').slots = 0) (k : Z M Po 0 0 n' σ' q lv rest) : Z M Po 0 0 n σ pc lv (a1 :: a0 :: .ref i :: rest) := z_callV (As := [a0, a1]) hd hq hM hs hi hvc hk hl hst hsel hR hcat (by omega) (by omega) (fun r m τ h => by rw [h0, h1]; obtain ⟨rfl, rfl, rfl⟩ := h; exact k)
theorem z_gS3 {a0 a1 a2 : Value} (hd : decode (mB M) pc = .ok (.invokestatic idx, 3)) (hq : pc + 3 = q) (hM : Ct M' [a0, a1, a2] n σ Po') (hk : zCk M' 3) (hl : zLk (mY M).cls idx (mY M')) (hst : Cond.static (mY M') ∈ TB) (hR : zFit M M') (hcat : (rest.map fun v => v.category).sum ≤ 8) (h0 : (mR M').cells = 0) (h1 : (mR M').slots = 0) (k : ∀ (r : Option Value) (m : Nat) (τ : zWd), Po' r m τ → Z M Po 0 0 m τ q lv (r.toList ++ rest)) : Z M Po 0 0 n σ pc lv (a2 :: a1 :: a0 :: rest) := z_callS (As := [a0, a1, a2]) hd hq hM hk hl hst hR hcat (by omega) (by omega) (fun r m τ h => by rw [h0, h1]; exact k r m τ h)
theorem z_cS3 {a0 a1 a2 : Value} {v : Value} (hd : decode (mB M) pc = .ok (.invokestatic idx, 3)) (hq : pc + 3 = q) (hM : Ct M' [a0, a1, a2] n σ (zEq (some v) n' σ')) (hk : zCk M' 3) (hl : zLk (mY M).cls idx (mY M')) (hst : Cond.static (mY M') ∈ TB) (hR : zFit M M') (hcat : (rest.map fun v => v.category).sum ≤ 8) (h0 : (mR M').cells = 0) (h1 : (mR M').slots = 0) (k : Z M Po 0 0 n' σ' q lv (v :: rest)) : Z M Po 0 0 n σ pc lv (a2 :: a1 :: a0 :: rest) := z_callS (As := [a0, a1, a2]) hd hq hM hk hl hst hR hcat (by omega) (by omega) (fun r m τ h => by rw [h0, h1]; obtain ⟨rfl, rfl, rfl⟩ := h; exact k)
theorem z_cS3v {a0 a1 a2 : Value} (hd : decode (mB M) pc = .ok (.invokestatic idx, 3)) (hq : pc + 3 = q) (hM : Ct M' [a0, a1, a2] n σ (zEq none n' σ')) (hk : zCk M' 3) (hl : zLk (mY M).cls idx (mY M')) (hst : Cond.static (mY M') ∈ TB) (hR : zFit M M') (hcat : (rest.map fun v => v.category).sum ≤ 8) (h0 : (mR M').cells = 0) (h1 : (mR M').slots = 0) (k : Z M Po 0 0 n' σ' q lv rest) : Z M Po 0 0 n σ pc lv (a2 :: a1 :: a0 :: rest) := z_callS (As := [a0, a1, a2]) hd hq hM hk hl hst hR hcat (by omega) (by omega) (fun r m τ h => by rw [h0, h1]; obtain ⟨rfl, rfl, rfl⟩ := h; exact k)
theorem z_gV3 {a0 a1 a2 : Value} {i ci : Nat} {fs : List Value} {vc : vw_C} (hd : decode (mB M) pc = .ok (.invokevirtual idx, 3)) (hq : pc + 3 = q) (hM : Ct M' [.ref i, a0, a1, a2] n σ Po') (hs : σ i = zO ci fs) (hi : i < n) (hvc : zCl[ci]? = some vc) (hk : zCk M' 3) (hl : zLk (mY M).cls idx (mY M')) (hst : Cond.instanceMethod (mY M') ∈ TB) (hsel : Cond.selects vc.1 (mY M') (mY M') ∈ TB) (hR : zFit M M') (hcat : (rest.map fun v => v.category).sum ≤ 8) (h0 : (mR M').cells = 0) (h1 : (mR M').slots = 0) (k : ∀ (r : Option Value) (m : Nat) (τ : zWd), Po' r m τ → Z M Po 0 0 m τ q lv (r.toList ++ rest)) : Z M Po 0 0 n σ pc lv (a2 :: a1 :: a0 :: .ref i :: rest) := z_callV (As := [a0, a1, a2]) hd hq hM hs hi hvc hk hl hst hsel hR hcat (by omega) (by omega) (fun r m τ h => by rw [h0, h1]; exact k r m τ h)
theorem z_cV3 {a0 a1 a2 : Value} {v : Value} {i ci : Nat} {fs : List Value} {vc : vw_C} (hd : decode (mB M) pc = .ok (.invokevirtual idx, 3)) (hq : pc + 3 = q) (hM : Ct M' [.ref i, a0, a1, a2] n σ (zEq (some v) n' σ')) (hs : σ i = zO ci fs) (hi : i < n) (hvc : zCl[ci]? = some vc) (hk : zCk M' 3) (hl : zLk (mY M).cls idx (mY M')) (hst : Cond.instanceMethod (mY M') ∈ TB) (hsel : Cond.selects vc.1 (mY M') (mY M') ∈ TB) (hR : zFit M M') (hcat : (rest.map fun v => v.category).sum ≤ 8) (h0 : (mR M').cells = 0) (h1 : (mR M').slots = 0) (k : Z M Po 0 0 n' σ' q lv (v :: rest)) : Z M Po 0 0 n σ pc lv (a2 :: a1 :: a0 :: .ref i :: rest) := z_callV (As := [a0, a1, a2]) hd hq hM hs hi hvc hk hl hst hsel hR hcat (by omega) (by omega) (fun r m τ h => by rw [h0, h1]; obtain ⟨rfl, rfl, rfl⟩ := h; exact k)
theorem z_cV3v {a0 a1 a2 : Value} {i ci : Nat} {fs : List Value} {vc : vw_C} (hd : decode (mB M) pc = .ok (.invokevirtual idx, 3)) (hq : pc + 3 = q) (hM : Ct M' [.ref i, a0, a1, a2] n σ (zEq none n' σ')) (hs : σ i = zO ci fs) (hi : i < n) (hvc : zCl[ci]? = some vc) (hk : zCk M' 3) (hl : zLk (mY M).cls idx (mY M')) (hst : Cond.instanceMethod (mY M') ∈ TB) (hsel : Cond.selects vc.1 (mY M') (mY M') ∈ TB) (hR : zFit M M') (hcat : (rest.map fun v => v.category).sum ≤ 8) (h0 : (mR M').cells = 0) (h1 : (mR M').slots = 0) (k : Z M Po 0 0 n' σ' q lv rest) : Z M Po 0 0 n σ pc lv (a2 :: a1 :: a0 :: .ref i :: rest) := z_callV (As := [a0, a1, a2]) hd hq hM hs hi hvc hk hl hst hsel hR hcat (by omega) (by omega) (fun r m τ h => by rw [h0, h1]; obtain ⟨rfl, rfl, rfl⟩ := h; exact k)
theorem z_gS4 {a0 a1 a2 a3 : Value} (hd : decode (mB M) pc = .ok (.invokestatic idx, 3)) (hq : pc + 3 = q) (hM : Ct M' [a0, a1, a2, a3] n σ Po') (hk : zCk M' 4) (hl : zLk (mY M).cls idx (mY M')) (hst : Cond.static (mY M') ∈ TB) (hR : zFit M M') (hcat : (rest.map fun v => v.category).sum ≤ 8) (h0 : (mR M').cells = 0) (h1 : (mR M').slots = 0) (k : ∀ (r : Option Value) (m : Nat) (τ : zWd), Po' r m τ → Z M Po 0 0 m τ q lv (r.toList ++ rest)) : Z M Po 0 0 n σ pc lv (a3 :: a2 :: a1 :: a0 :: rest) := z_callS (As := [a0, a1, a2, a3]) hd hq hM hk hl hst hR hcat (by omega) (by omega) (fun r m τ h => by rw [h0, h1]; exact k r m τ h)
theorem z_cS4 {a0 a1 a2 a3 : Value} {v : Value} (hd : decode (mB M) pc = .ok (.invokestatic idx, 3)) (hq : pc + 3 = q) (hM : Ct M' [a0, a1, a2, a3] n σ (zEq (some v) n' σ')) (hk : zCk M' 4) (hl : zLk (mY M).cls idx (mY M')) (hst : Cond.static (mY M') ∈ TB) (hR : zFit M M') (hcat : (rest.map fun v => v.category).sum ≤ 8) (h0 : (mR M').cells = 0) (h1 : (mR M').slots = 0) (k : Z M Po 0 0 n' σ' q lv (v :: rest)) : Z M Po 0 0 n σ pc lv (a3 :: a2 :: a1 :: a0 :: rest) := z_callS (As := [a0, a1, a2, a3]) hd hq hM hk hl hst hR hcat (by omega) (by omega) (fun r m τ h => by rw [h0, h1]; obtain ⟨rfl, rfl, rfl⟩ := h; exact k)
theorem z_cS4v {a0 a1 a2 a3 : Value} (hd : decode (mB M) pc = .ok (.invokestatic idx, 3)) (hq : pc + 3 = q) (hM : Ct M' [a0, a1, a2, a3] n σ (zEq none n' σ')) (hk : zCk M' 4) (hl : zLk (mY M).cls idx (mY M')) (hst : Cond.static (mY M') ∈ TB) (hR : zFit M M') (hcat : (rest.map fun v => v.category).sum ≤ 8) (h0 : (mR M').cells = 0) (h1 : (mR M').slots = 0) (k : Z M Po 0 0 n' σ' q lv rest) : Z M Po 0 0 n σ pc lv (a3 :: a2 :: a1 :: a0 :: rest) := z_callS (As := [a0, a1, a2, a3]) hd hq hM hk hl hst hR hcat (by omega) (by omega) (fun r m τ h => by rw [h0, h1]; obtain ⟨rfl, rfl, rfl⟩ := h; exact k)
theorem z_gV4 {a0 a1 a2 a3 : Value} {i ci : Nat} {fs : List Value} {vc : vw_C} (hd : decode (mB M) pc = .ok (.invokevirtual idx, 3)) (hq : pc + 3 = q) (hM : Ct M' [.ref i, a0, a1, a2, a3] n σ Po') (hs : σ i = zO ci fs) (hi : i < n) (hvc : zCl[ci]? = some vc) (hk : zCk M' 4) (hl : zLk (mY M).cls idx (mY M')) (hst : Cond.instanceMethod (mY M') ∈ TB) (hsel : Cond.selects vc.1 (mY M') (mY M') ∈ TB) (hR : zFit M M') (hcat : (rest.map fun v => v.category).sum ≤ 8) (h0 : (mR M').cells = 0) (h1 : (mR M').slots = 0) (k : ∀ (r : Option Value) (m : Nat) (τ : zWd), Po' r m τ → Z M Po 0 0 m τ q lv (r.toList ++ rest)) : Z M Po 0 0 n σ pc lv (a3 :: a2 :: a1 :: a0 :: .ref i :: rest) := z_callV (As := [a0, a1, a2, a3]) hd hq hM hs hi hvc hk hl hst hsel hR hcat (by omega) (by omega) (fun r m τ h => by rw [h0, h1]; exact k r m τ h)
theorem z_cV4 {a0 a1 a2 a3 : Value} {v : Value} {i ci : Nat} {fs : List Value} {vc : vw_C} (hd : decode (mB M) pc = .ok (.invokevirtual idx, 3)) (hq : pc + 3 = q) (hM : Ct M' [.ref i, a0, a1, a2, a3] n σ (zEq (some v) n' σ')) (hs : σ i = zO ci fs) (hi : i < n) (hvc : zCl[ci]? = some vc) (hk : zCk M' 4) (hl : zLk (mY M).cls idx (mY M')) (hst : Cond.instanceMethod (mY M') ∈ TB) (hsel : Cond.selects vc.1 (mY M') (mY M') ∈ TB) (hR : zFit M M') (hcat : (rest.map fun v => v.category).sum ≤ 8) (h0 : (mR M').cells = 0) (h1 : (mR M').slots = 0) (k : Z M Po 0 0 n' σ' q lv (v :: rest)) : Z M Po 0 0 n σ pc lv (a3 :: a2 :: a1 :: a0 :: .ref i :: rest) := z_callV (As := [a0, a1, a2, a3]) hd hq hM hs hi hvc hk hl hst hsel hR hcat (by omega) (by omega) (fun r m τ h => by rw [h0, h1]; obtain ⟨rfl, rfl, rfl⟩ := h; exact k)
theorem z_cV4v {a0 a1 a2 a3 : Value} {i ci : Nat} {fs : List Value} {vc : vw_C} (hd : decode (mB M) pc = .ok (.invokevirtual idx, 3)) (hq : pc + 3 = q) (hM : Ct M' [.ref i, a0, a1, a2, a3] n σ (zEq none n' σ')) (hs : σ i = zO ci fs) (hi : i < n) (hvc : zCl[ci]? = some vc) (hk : zCk M' 4) (hl : zLk (mY M).cls idx (mY M')) (hst : Cond.instanceMethod (mY M') ∈ TB) (hsel : Cond.selects vc.1 (mY M') (mY M') ∈ TB) (hR : zFit M M') (hcat : (rest.map fun v => v.category).sum ≤ 8) (h0 : (mR M').cells = 0) (h1 : (mR M').slots = 0) (k : Z M Po 0 0 n' σ' q lv rest) : Z M Po 0 0 n σ pc lv (a3 :: a2 :: a1 :: a0 :: .ref i :: rest) := z_callV (As := [a0, a1, a2, a3]) hd hq hM hs hi hvc hk hl hst hsel hR hcat (by omega) (by omega) (fun r m τ h => by rw [h0, h1]; obtain ⟨rfl, rfl, rfl⟩ := h; exact k)
theorem z_gS5 {a0 a1 a2 a3 a4 : Value} (hd : decode (mB M) pc = .ok (.invokestatic idx, 3)) (hq : pc + 3 = q) (hM : Ct M' [a0, a1, a2, a3, a4] n σ Po') (hk : zCk M' 5) (hl : zLk (mY M).cls idx (mY M')) (hst : Cond.static (mY M') ∈ TB) (hR : zFit M M') (hcat : (rest.map fun v => v.category).sum ≤ 8) (h0 : (mR M').cells = 0) (h1 : (mR M').slots = 0) (k : ∀ (r : Option Value) (m : Nat) (τ : zWd), Po' r m τ → Z M Po 0 0 m τ q lv (r.toList ++ rest)) : Z M Po 0 0 n σ pc lv (a4 :: a3 :: a2 :: a1 :: a0 :: rest) := z_callS (As := [a0, a1, a2, a3, a4]) hd hq hM hk hl hst hR hcat (by omega) (by omega) (fun r m τ h => by rw [h0, h1]; exact k r m τ h)
theorem z_cS5 {a0 a1 a2 a3 a4 : Value} {v : Value} (hd : decode (mB M) pc = .ok (.invokestatic idx, 3)) (hq : pc + 3 = q) (hM : Ct M' [a0, a1, a2, a3, a4] n σ (zEq (some v) n' σ')) (hk : zCk M' 5) (hl : zLk (mY M).cls idx (mY M')) (hst : Cond.static (mY M') ∈ TB) (hR : zFit M M') (hcat : (rest.map fun v => v.category).sum ≤ 8) (h0 : (mR M').cells = 0) (h1 : (mR M').slots = 0) (k : Z M Po 0 0 n' σ' q lv (v :: rest)) : Z M Po 0 0 n σ pc lv (a4 :: a3 :: a2 :: a1 :: a0 :: rest) := z_callS (As := [a0, a1, a2, a3, a4]) hd hq hM hk hl hst hR hcat (by omega) (by omega) (fun r m τ h => by rw [h0, h1]; obtain ⟨rfl, rfl, rfl⟩ := h; exact k)
theorem z_cS5v {a0 a1 a2 a3 a4 : Value} (hd : decode (mB M) pc = .ok (.invokestatic idx, 3)) (hq : pc + 3 = q) (hM : Ct M' [a0, a1, a2, a3, a4] n σ (zEq none n' σ')) (hk : zCk M' 5) (hl : zLk (mY M).cls idx (mY M')) (hst : Cond.static (mY M') ∈ TB) (hR : zFit M M') (hcat : (rest.map fun v => v.category).sum ≤ 8) (h0 : (mR M').cells = 0) (h1 : (mR M').slots = 0) (k : Z M Po 0 0 n' σ' q lv rest) : Z M Po 0 0 n σ pc lv (a4 :: a3 :: a2 :: a1 :: a0 :: rest) := z_callS (As := [a0, a1, a2, a3, a4]) hd hq hM hk hl hst hR hcat (by omega) (by omega) (fun r m τ h => by rw [h0, h1]; obtain ⟨rfl, rfl, rfl⟩ := h; exact k)
theorem z_gV5 {a0 a1 a2 a3 a4 : Value} {i ci : Nat} {fs : List Value} {vc : vw_C} (hd : decode (mB M) pc = .ok (.invokevirtual idx, 3)) (hq : pc + 3 = q) (hM : Ct M' [.ref i, a0, a1, a2, a3, a4] n σ Po') (hs : σ i = zO ci fs) (hi : i < n) (hvc : zCl[ci]? = some vc) (hk : zCk M' 5) (hl : zLk (mY M).cls idx (mY M')) (hst : Cond.instanceMethod (mY M') ∈ TB) (hsel : Cond.selects vc.1 (mY M') (mY M') ∈ TB) (hR : zFit M M') (hcat : (rest.map fun v => v.category).sum ≤ 8) (h0 : (mR M').cells = 0) (h1 : (mR M').slots = 0) (k : ∀ (r : Option Value) (m : Nat) (τ : zWd), Po' r m τ → Z M Po 0 0 m τ q lv (r.toList ++ rest)) : Z M Po 0 0 n σ pc lv (a4 :: a3 :: a2 :: a1 :: a0 :: .ref i :: rest) := z_callV (As := [a0, a1, a2, a3, a4]) hd hq hM hs hi hvc hk hl hst hsel hR hcat (by omega) (by omega) (fun r m τ h => by rw [h0, h1]; exact k r m τ h)
theorem z_cV5 {a0 a1 a2 a3 a4 : Value} {v : Value} {i ci : Nat} {fs : List Value} {vc : vw_C} (hd : decode (mB M) pc = .ok (.invokevirtual idx, 3)) (hq : pc + 3 = q) (hM : Ct M' [.ref i, a0, a1, a2, a3, a4] n σ (zEq (some v) n' σ')) (hs : σ i = zO ci fs) (hi : i < n) (hvc : zCl[ci]? = some vc) (hk : zCk M' 5) (hl : zLk (mY M).cls idx (mY M')) (hst : Cond.instanceMethod (mY M') ∈ TB) (hsel : Cond.selects vc.1 (mY M') (mY M') ∈ TB) (hR : zFit M M') (hcat : (rest.map fun v => v.category).sum ≤ 8) (h0 : (mR M').cells = 0) (h1 : (mR M').slots = 0) (k : Z M Po 0 0 n' σ' q lv (v :: rest)) : Z M Po 0 0 n σ pc lv (a4 :: a3 :: a2 :: a1 :: a0 :: .ref i :: rest) := z_callV (As := [a0, a1, a2, a3, a4]) hd hq hM hs hi hvc hk hl hst hsel hR hcat (by omega) (by omega) (fun r m τ h => by rw [h0, h1]; obtain ⟨rfl, rfl, rfl⟩ := h; exact k)
theorem z_cV5v {a0 a1 a2 a3 a4 : Value} {i ci : Nat} {fs : List Value} {vc : vw_C} (hd : decode (mB M) pc = .ok (.invokevirtual idx, 3)) (hq : pc + 3 = q) (hM : Ct M' [.ref i, a0, a1, a2, a3, a4] n σ (zEq none n' σ')) (hs : σ i = zO ci fs) (hi : i < n) (hvc : zCl[ci]? = some vc) (hk : zCk M' 5) (hl : zLk (mY M).cls idx (mY M')) (hst : Cond.instanceMethod (mY M') ∈ TB) (hsel : Cond.selects vc.1 (mY M') (mY M') ∈ TB) (hR : zFit M M') (hcat : (rest.map fun v => v.category).sum ≤ 8) (h0 : (mR M').cells = 0) (h1 : (mR M').slots = 0) (k : Z M Po 0 0 n' σ' q lv rest) : Z M Po 0 0 n σ pc lv (a4 :: a3 :: a2 :: a1 :: a0 :: .ref i :: rest) := z_callV (As := [a0, a1, a2, a3, a4]) hd hq hM hs hi hvc hk hl hst hsel hR hcat (by omega) (by omega) (fun r m τ h => by rw [h0, h1]; obtain ⟨rfl, rfl, rfl⟩ := h; exact k)
theorem z_gS6 {a0 a1 a2 a3 a4 a5 : Value} (hd : decode (mB M) pc = .ok (.invokestatic idx, 3)) (hq : pc + 3 = q) (hM : Ct M' [a0, a1, a2, a3, a4, a5] n σ Po') (hk : zCk M' 6) (hl : zLk (mY M).cls idx (mY M')) (hst : Cond.static (mY M') ∈ TB) (hR : zFit M M') (hcat : (rest.map fun v => v.category).sum ≤ 8) (h0 : (mR M').cells = 0) (h1 : (mR M').slots = 0) (k : ∀ (r : Option Value) (m : Nat) (τ : zWd), Po' r m τ → Z M Po 0 0 m τ q lv (r.toList ++ rest)) : Z M Po 0 0 n σ pc lv (a5 :: a4 :: a3 :: a2 :: a1 :: a0 :: rest) := z_callS (As := [a0, a1, a2, a3, a4, a5]) hd hq hM hk hl hst hR hcat (by omega) (by omega) (fun r m τ h => by rw [h0, h1]; exact k r m τ h)
theorem z_cS6 {a0 a1 a2 a3 a4 a5 : Value} {v : Value} (hd : decode (mB M) pc = .ok (.invokestatic idx, 3)) (hq : pc + 3 = q) (hM : Ct M' [a0, a1, a2, a3, a4, a5] n σ (zEq (some v) n' σ')) (hk : zCk M' 6) (hl : zLk (mY M).cls idx (mY M')) (hst : Cond.static (mY M') ∈ TB) (hR : zFit M M') (hcat : (rest.map fun v => v.category).sum ≤ 8) (h0 : (mR M').cells = 0) (h1 : (mR M').slots = 0) (k : Z M Po 0 0 n' σ' q lv (v :: rest)) : Z M Po 0 0 n σ pc lv (a5 :: a4 :: a3 :: a2 :: a1 :: a0 :: rest) := z_callS (As := [a0, a1, a2, a3, a4, a5]) hd hq hM hk hl hst hR hcat (by omega) (by omega) (fun r m τ h => by rw [h0, h1]; obtain ⟨rfl, rfl, rfl⟩ := h; exact k)
theorem z_cS6v {a0 a1 a2 a3 a4 a5 : Value} (hd : decode (mB M) pc = .ok (.invokestatic idx, 3)) (hq : pc + 3 = q) (hM : Ct M' [a0, a1, a2, a3, a4, a5] n σ (zEq none n' σ')) (hk : zCk M' 6) (hl : zLk (mY M).cls idx (mY M')) (hst : Cond.static (mY M') ∈ TB) (hR : zFit M M') (hcat : (rest.map fun v => v.category).sum ≤ 8) (h0 : (mR M').cells = 0) (h1 : (mR M').slots = 0) (k : Z M Po 0 0 n' σ' q lv rest) : Z M Po 0 0 n σ pc lv (a5 :: a4 :: a3 :: a2 :: a1 :: a0 :: rest) := z_callS (As := [a0, a1, a2, a3, a4, a5]) hd hq hM hk hl hst hR hcat (by omega) (by omega) (fun r m τ h => by rw [h0, h1]; obtain ⟨rfl, rfl, rfl⟩ := h; exact k)
theorem z_gV6 {a0 a1 a2 a3 a4 a5 : Value} {i ci : Nat} {fs : List Value} {vc : vw_C} (hd : decode (mB M) pc = .ok (.invokevirtual idx, 3)) (hq : pc + 3 = q) (hM : Ct M' [.ref i, a0, a1, a2, a3, a4, a5] n σ Po') (hs : σ i = zO ci fs) (hi : i < n) (hvc : zCl[ci]? = some vc) (hk : zCk M' 6) (hl : zLk (mY M).cls idx (mY M')) (hst : Cond.instanceMethod (mY M') ∈ TB) (hsel : Cond.selects vc.1 (mY M') (mY M') ∈ TB) (hR : zFit M M') (hcat : (rest.map fun v => v.category).sum ≤ 8) (h0 : (mR M').cells = 0) (h1 : (mR M').slots = 0) (k : ∀ (r : Option Value) (m : Nat) (τ : zWd), Po' r m τ → Z M Po 0 0 m τ q lv (r.toList ++ rest)) : Z M Po 0 0 n σ pc lv (a5 :: a4 :: a3 :: a2 :: a1 :: a0 :: .ref i :: rest) := z_callV (As := [a0, a1, a2, a3, a4, a5]) hd hq hM hs hi hvc hk hl hst hsel hR hcat (by omega) (by omega) (fun r m τ h => by rw [h0, h1]; exact k r m τ h)
theorem z_cV6 {a0 a1 a2 a3 a4 a5 : Value} {v : Value} {i ci : Nat} {fs : List Value} {vc : vw_C} (hd : decode (mB M) pc = .ok (.invokevirtual idx, 3)) (hq : pc + 3 = q) (hM : Ct M' [.ref i, a0, a1, a2, a3, a4, a5] n σ (zEq (some v) n' σ')) (hs : σ i = zO ci fs) (hi : i < n) (hvc : zCl[ci]? = some vc) (hk : zCk M' 6) (hl : zLk (mY M).cls idx (mY M')) (hst : Cond.instanceMethod (mY M') ∈ TB) (hsel : Cond.selects vc.1 (mY M') (mY M') ∈ TB) (hR : zFit M M') (hcat : (rest.map fun v => v.category).sum ≤ 8) (h0 : (mR M').cells = 0) (h1 : (mR M').slots = 0) (k : Z M Po 0 0 n' σ' q lv (v :: rest)) : Z M Po 0 0 n σ pc lv (a5 :: a4 :: a3 :: a2 :: a1 :: a0 :: .ref i :: rest) := z_callV (As := [a0, a1, a2, a3, a4, a5]) hd hq hM hs hi hvc hk hl hst hsel hR hcat (by omega) (by omega) (fun r m τ h => by rw [h0, h1]; obtain ⟨rfl, rfl, rfl⟩ := h; exact k)
theorem z_cV6v {a0 a1 a2 a3 a4 a5 : Value} {i ci : Nat} {fs : List Value} {vc : vw_C} (hd : decode (mB M) pc = .ok (.invokevirtual idx, 3)) (hq : pc + 3 = q) (hM : Ct M' [.ref i, a0, a1, a2, a3, a4, a5] n σ (zEq none n' σ')) (hs : σ i = zO ci fs) (hi : i < n) (hvc : zCl[ci]? = some vc) (hk : zCk M' 6) (hl : zLk (mY M).cls idx (mY M')) (hst : Cond.instanceMethod (mY M') ∈ TB) (hsel : Cond.selects vc.1 (mY M') (mY M') ∈ TB) (hR : zFit M M') (hcat : (rest.map fun v => v.category).sum ≤ 8) (h0 : (mR M').cells = 0) (h1 : (mR M').slots = 0) (k : Z M Po 0 0 n' σ' q lv rest) : Z M Po 0 0 n σ pc lv (a5 :: a4 :: a3 :: a2 :: a1 :: a0 :: .ref i :: rest) := z_callV (As := [a0, a1, a2, a3, a4, a5]) hd hq hM hs hi hvc hk hl hst hsel hR hcat (by omega) (by omega) (fun r m τ h => by rw [h0, h1]; obtain ⟨rfl, rfl, rfl⟩ := h; exact k)
end ZC
end
section
/-! Decode rows, by program -/
theorem d_dv_init_0 : decode prog_2_method_1_code 0 = .ok (.aload_n 0, 1) := by decide +kernel
theorem d_dv_init_1 : decode prog_2_method_1_code 1 = .ok (.invokespecial 3, 3) := by decide +kernel
theorem d_dv_init_4 : decode prog_2_method_1_code 4 = .ok (.aload_n 0, 1) := by decide +kernel
theorem d_dv_init_5 : decode prog_2_method_1_code 5 = .ok (.bipush 49, 2) := by decide +kernel
theorem d_dv_init_7 : decode prog_2_method_1_code 7 = .ok (.newarray .long, 2) := by decide +kernel
theorem d_dv_init_9 : decode prog_2_method_1_code 9 = .ok (.putfield 9, 3) := by decide +kernel
theorem d_dv_init_12 : decode prog_2_method_1_code 12 = .ok (.aload_n 0, 1) := by decide +kernel
theorem d_dv_init_13 : decode prog_2_method_1_code 13 = .ok (.bipush 49, 2) := by decide +kernel
theorem d_dv_init_15 : decode prog_2_method_1_code 15 = .ok (.newarray .long, 2) := by decide +kernel
theorem d_dv_init_17 : decode prog_2_method_1_code 17 = .ok (.putfield 15, 3) := by decide +kernel
theorem d_dv_init_20 : decode prog_2_method_1_code 20 = .ok (.return_, 1) := by decide +kernel
theorem d_dv_commonDegree_0 : decode prog_2_method_2_code 0 = .ok (.aload_n 0, 1) := by decide +kernel
theorem d_dv_commonDegree_1 : decode prog_2_method_2_code 1 = .ok (.getfield 9, 3) := by decide +kernel
theorem d_dv_commonDegree_4 : decode prog_2_method_2_code 4 = .ok (.aload_n 1, 1) := by decide +kernel
theorem d_dv_commonDegree_5 : decode prog_2_method_2_code 5 = .ok (.invokestatic 18, 3) := by decide +kernel
theorem d_dv_commonDegree_8 : decode prog_2_method_2_code 8 = .ok (.aload_n 0, 1) := by decide +kernel
theorem d_dv_commonDegree_9 : decode prog_2_method_2_code 9 = .ok (.getfield 15, 3) := by decide +kernel
theorem d_dv_commonDegree_12 : decode prog_2_method_2_code 12 = .ok (.aload_n 2, 1) := by decide +kernel
theorem d_dv_commonDegree_13 : decode prog_2_method_2_code 13 = .ok (.invokestatic 18, 3) := by decide +kernel
theorem d_dv_commonDegree_16 : decode prog_2_method_2_code 16 = .ok (.aload_n 0, 1) := by decide +kernel
theorem d_dv_commonDegree_17 : decode prog_2_method_2_code 17 = .ok (.getfield 9, 3) := by decide +kernel
theorem d_dv_commonDegree_20 : decode prog_2_method_2_code 20 = .ok (.astore_n 3, 1) := by decide +kernel
theorem d_dv_commonDegree_21 : decode prog_2_method_2_code 21 = .ok (.aload_n 0, 1) := by decide +kernel
theorem d_dv_commonDegree_22 : decode prog_2_method_2_code 22 = .ok (.getfield 15, 3) := by decide +kernel
theorem d_dv_commonDegree_25 : decode prog_2_method_2_code 25 = .ok (.astore 4, 2) := by decide +kernel
theorem d_dv_commonDegree_27 : decode prog_2_method_2_code 27 = .ok (.aload_n 1, 1) := by decide +kernel
theorem d_dv_commonDegree_28 : decode prog_2_method_2_code 28 = .ok (.getfield 22, 3) := by decide +kernel
theorem d_dv_commonDegree_31 : decode prog_2_method_2_code 31 = .ok (.istore 5, 2) := by decide +kernel
theorem d_dv_commonDegree_33 : decode prog_2_method_2_code 33 = .ok (.aload_n 2, 1) := by decide +kernel
theorem d_dv_commonDegree_34 : decode prog_2_method_2_code 34 = .ok (.getfield 22, 3) := by decide +kernel
theorem d_dv_commonDegree_37 : decode prog_2_method_2_code 37 = .ok (.istore 6, 2) := by decide +kernel
theorem d_dv_commonDegree_39 : decode prog_2_method_2_code 39 = .ok (.iconst 0, 1) := by decide +kernel
theorem d_dv_commonDegree_40 : decode prog_2_method_2_code 40 = .ok (.istore 7, 2) := by decide +kernel
theorem d_dv_commonDegree_42 : decode prog_2_method_2_code 42 = .ok (.iload 7, 2) := by decide +kernel
theorem d_dv_commonDegree_44 : decode prog_2_method_2_code 44 = .ok (.bipush 49, 2) := by decide +kernel
theorem d_dv_commonDegree_46 : decode prog_2_method_2_code 46 = .ok (.if_icmp .gt 44, 3) := by decide +kernel
theorem d_dv_commonDegree_49 : decode prog_2_method_2_code 49 = .ok (.iload 6, 2) := by decide +kernel
theorem d_dv_commonDegree_51 : decode prog_2_method_2_code 51 = .ok (.ifCond .lt 39, 3) := by decide +kernel
theorem d_dv_commonDegree_54 : decode prog_2_method_2_code 54 = .ok (.aload_n 3, 1) := by decide +kernel
theorem d_dv_commonDegree_55 : decode prog_2_method_2_code 55 = .ok (.iload 5, 2) := by decide +kernel
theorem d_dv_commonDegree_57 : decode prog_2_method_2_code 57 = .ok (.aload 4, 2) := by decide +kernel
theorem d_dv_commonDegree_59 : decode prog_2_method_2_code 59 = .ok (.iload 6, 2) := by decide +kernel
theorem d_dv_commonDegree_61 : decode prog_2_method_2_code 61 = .ok (.invokestatic 28, 3) := by decide +kernel
theorem d_dv_commonDegree_64 : decode prog_2_method_2_code 64 = .ok (.istore 8, 2) := by decide +kernel
theorem d_dv_commonDegree_66 : decode prog_2_method_2_code 66 = .ok (.aload_n 3, 1) := by decide +kernel
theorem d_dv_commonDegree_67 : decode prog_2_method_2_code 67 = .ok (.astore 9, 2) := by decide +kernel
theorem d_dv_commonDegree_69 : decode prog_2_method_2_code 69 = .ok (.aload 4, 2) := by decide +kernel
theorem d_dv_commonDegree_71 : decode prog_2_method_2_code 71 = .ok (.astore_n 3, 1) := by decide +kernel
theorem d_dv_commonDegree_72 : decode prog_2_method_2_code 72 = .ok (.iload 6, 2) := by decide +kernel
theorem d_dv_commonDegree_74 : decode prog_2_method_2_code 74 = .ok (.istore 5, 2) := by decide +kernel
theorem d_dv_commonDegree_76 : decode prog_2_method_2_code 76 = .ok (.aload 9, 2) := by decide +kernel
theorem d_dv_commonDegree_78 : decode prog_2_method_2_code 78 = .ok (.astore 4, 2) := by decide +kernel
theorem d_dv_commonDegree_80 : decode prog_2_method_2_code 80 = .ok (.iload 8, 2) := by decide +kernel
theorem d_dv_commonDegree_82 : decode prog_2_method_2_code 82 = .ok (.istore 6, 2) := by decide +kernel
theorem d_dv_commonDegree_84 : decode prog_2_method_2_code 84 = .ok (.iinc 7 1, 3) := by decide +kernel
theorem d_dv_commonDegree_87 : decode prog_2_method_2_code 87 = .ok (.goto (-45), 3) := by decide +kernel
theorem d_dv_commonDegree_90 : decode prog_2_method_2_code 90 = .ok (.iload 5, 2) := by decide +kernel
theorem d_dv_commonDegree_92 : decode prog_2_method_2_code 92 = .ok (.ireturn, 1) := by decide +kernel
theorem d_dv_load_0 : decode prog_2_method_3_code 0 = .ok (.aload_n 0, 1) := by decide +kernel
theorem d_dv_load_1 : decode prog_2_method_3_code 1 = .ok (.aload_n 1, 1) := by decide +kernel
theorem d_dv_load_2 : decode prog_2_method_3_code 2 = .ok (.getfield 22, 3) := by decide +kernel
theorem d_dv_load_5 : decode prog_2_method_3_code 5 = .ok (.lconst 1, 1) := by decide +kernel
theorem d_dv_load_6 : decode prog_2_method_3_code 6 = .ok (.lastore, 1) := by decide +kernel
theorem d_dv_load_7 : decode prog_2_method_3_code 7 = .ok (.iconst 0, 1) := by decide +kernel
theorem d_dv_load_8 : decode prog_2_method_3_code 8 = .ok (.istore_n 2, 1) := by decide +kernel
theorem d_dv_load_9 : decode prog_2_method_3_code 9 = .ok (.iload_n 2, 1) := by decide +kernel
theorem d_dv_load_10 : decode prog_2_method_3_code 10 = .ok (.aload_n 1, 1) := by decide +kernel
theorem d_dv_load_11 : decode prog_2_method_3_code 11 = .ok (.getfield 22, 3) := by decide +kernel
theorem d_dv_load_14 : decode prog_2_method_3_code 14 = .ok (.if_icmp .ge 29, 3) := by decide +kernel
theorem d_dv_load_17 : decode prog_2_method_3_code 17 = .ok (.aload_n 0, 1) := by decide +kernel
theorem d_dv_load_18 : decode prog_2_method_3_code 18 = .ok (.aload_n 1, 1) := by decide +kernel
theorem d_dv_load_19 : decode prog_2_method_3_code 19 = .ok (.getfield 22, 3) := by decide +kernel
theorem d_dv_load_22 : decode prog_2_method_3_code 22 = .ok (.iconst 1, 1) := by decide +kernel
theorem d_dv_load_23 : decode prog_2_method_3_code 23 = .ok (.isub, 1) := by decide +kernel
theorem d_dv_load_24 : decode prog_2_method_3_code 24 = .ok (.iload_n 2, 1) := by decide +kernel
theorem d_dv_load_25 : decode prog_2_method_3_code 25 = .ok (.isub, 1) := by decide +kernel
theorem d_dv_load_26 : decode prog_2_method_3_code 26 = .ok (.lconst 0, 1) := by decide +kernel
theorem d_dv_load_27 : decode prog_2_method_3_code 27 = .ok (.aload_n 1, 1) := by decide +kernel
theorem d_dv_load_28 : decode prog_2_method_3_code 28 = .ok (.getfield 32, 3) := by decide +kernel
theorem d_dv_load_31 : decode prog_2_method_3_code 31 = .ok (.iload_n 2, 1) := by decide +kernel
theorem d_dv_load_32 : decode prog_2_method_3_code 32 = .ok (.laload, 1) := by decide +kernel
theorem d_dv_load_33 : decode prog_2_method_3_code 33 = .ok (.invokestatic 35, 3) := by decide +kernel
theorem d_dv_load_36 : decode prog_2_method_3_code 36 = .ok (.lastore, 1) := by decide +kernel
theorem d_dv_load_37 : decode prog_2_method_3_code 37 = .ok (.iinc 2 1, 3) := by decide +kernel
theorem d_dv_load_40 : decode prog_2_method_3_code 40 = .ok (.goto (-31), 3) := by decide +kernel
theorem d_dv_load_43 : decode prog_2_method_3_code 43 = .ok (.return_, 1) := by decide +kernel
theorem d_dv_reduce_0 : decode prog_2_method_4_code 0 = .ok (.aload_n 2, 1) := by decide +kernel
theorem d_dv_reduce_1 : decode prog_2_method_4_code 1 = .ok (.iload_n 3, 1) := by decide +kernel
theorem d_dv_reduce_2 : decode prog_2_method_4_code 2 = .ok (.laload, 1) := by decide +kernel
theorem d_dv_reduce_3 : decode prog_2_method_4_code 3 = .ok (.invokestatic 41, 3) := by decide +kernel
theorem d_dv_reduce_6 : decode prog_2_method_4_code 6 = .ok (.lstore 4, 2) := by decide +kernel
theorem d_dv_reduce_8 : decode prog_2_method_4_code 8 = .ok (.iload_n 1, 1) := by decide +kernel
theorem d_dv_reduce_9 : decode prog_2_method_4_code 9 = .ok (.istore 6, 2) := by decide +kernel
theorem d_dv_reduce_11 : decode prog_2_method_4_code 11 = .ok (.iload 6, 2) := by decide +kernel
theorem d_dv_reduce_13 : decode prog_2_method_4_code 13 = .ok (.iload_n 3, 1) := by decide +kernel
theorem d_dv_reduce_14 : decode prog_2_method_4_code 14 = .ok (.if_icmp .lt 67, 3) := by decide +kernel
theorem d_dv_reduce_17 : decode prog_2_method_4_code 17 = .ok (.aload_n 0, 1) := by decide +kernel
theorem d_dv_reduce_18 : decode prog_2_method_4_code 18 = .ok (.iload 6, 2) := by decide +kernel
theorem d_dv_reduce_20 : decode prog_2_method_4_code 20 = .ok (.laload, 1) := by decide +kernel
theorem d_dv_reduce_21 : decode prog_2_method_4_code 21 = .ok (.lload 4, 2) := by decide +kernel
theorem d_dv_reduce_23 : decode prog_2_method_4_code 23 = .ok (.invokestatic 45, 3) := by decide +kernel
theorem d_dv_reduce_26 : decode prog_2_method_4_code 26 = .ok (.lstore 7, 2) := by decide +kernel
theorem d_dv_reduce_28 : decode prog_2_method_4_code 28 = .ok (.iload 6, 2) := by decide +kernel
theorem d_dv_reduce_30 : decode prog_2_method_4_code 30 = .ok (.iload_n 3, 1) := by decide +kernel
theorem d_dv_reduce_31 : decode prog_2_method_4_code 31 = .ok (.isub, 1) := by decide +kernel
theorem d_dv_reduce_32 : decode prog_2_method_4_code 32 = .ok (.istore 9, 2) := by decide +kernel
theorem d_dv_reduce_34 : decode prog_2_method_4_code 34 = .ok (.iconst 0, 1) := by decide +kernel
theorem d_dv_reduce_35 : decode prog_2_method_4_code 35 = .ok (.istore 10, 2) := by decide +kernel
theorem d_dv_reduce_37 : decode prog_2_method_4_code 37 = .ok (.iload 10, 2) := by decide +kernel
theorem d_dv_reduce_39 : decode prog_2_method_4_code 39 = .ok (.iload_n 3, 1) := by decide +kernel
theorem d_dv_reduce_40 : decode prog_2_method_4_code 40 = .ok (.if_icmp .gt 35, 3) := by decide +kernel
theorem d_dv_reduce_43 : decode prog_2_method_4_code 43 = .ok (.aload_n 0, 1) := by decide +kernel
theorem d_dv_reduce_44 : decode prog_2_method_4_code 44 = .ok (.iload 9, 2) := by decide +kernel
theorem d_dv_reduce_46 : decode prog_2_method_4_code 46 = .ok (.iload 10, 2) := by decide +kernel
theorem d_dv_reduce_48 : decode prog_2_method_4_code 48 = .ok (.iadd, 1) := by decide +kernel
theorem d_dv_reduce_49 : decode prog_2_method_4_code 49 = .ok (.aload_n 0, 1) := by decide +kernel
theorem d_dv_reduce_50 : decode prog_2_method_4_code 50 = .ok (.iload 9, 2) := by decide +kernel
theorem d_dv_reduce_52 : decode prog_2_method_4_code 52 = .ok (.iload 10, 2) := by decide +kernel
theorem d_dv_reduce_54 : decode prog_2_method_4_code 54 = .ok (.iadd, 1) := by decide +kernel
theorem d_dv_reduce_55 : decode prog_2_method_4_code 55 = .ok (.laload, 1) := by decide +kernel
theorem d_dv_reduce_56 : decode prog_2_method_4_code 56 = .ok (.lload 7, 2) := by decide +kernel
theorem d_dv_reduce_58 : decode prog_2_method_4_code 58 = .ok (.aload_n 2, 1) := by decide +kernel
theorem d_dv_reduce_59 : decode prog_2_method_4_code 59 = .ok (.iload 10, 2) := by decide +kernel
theorem d_dv_reduce_61 : decode prog_2_method_4_code 61 = .ok (.laload, 1) := by decide +kernel
theorem d_dv_reduce_62 : decode prog_2_method_4_code 62 = .ok (.invokestatic 45, 3) := by decide +kernel
theorem d_dv_reduce_65 : decode prog_2_method_4_code 65 = .ok (.invokestatic 35, 3) := by decide +kernel
theorem d_dv_reduce_68 : decode prog_2_method_4_code 68 = .ok (.lastore, 1) := by decide +kernel
theorem d_dv_reduce_69 : decode prog_2_method_4_code 69 = .ok (.iinc 10 1, 3) := by decide +kernel
theorem d_dv_reduce_72 : decode prog_2_method_4_code 72 = .ok (.goto (-35), 3) := by decide +kernel
theorem d_dv_reduce_75 : decode prog_2_method_4_code 75 = .ok (.iinc 6 (-1), 3) := by decide +kernel
theorem d_dv_reduce_78 : decode prog_2_method_4_code 78 = .ok (.goto (-67), 3) := by decide +kernel
theorem d_dv_reduce_81 : decode prog_2_method_4_code 81 = .ok (.iload_n 1, 1) := by decide +kernel
theorem d_dv_reduce_82 : decode prog_2_method_4_code 82 = .ok (.istore 6, 2) := by decide +kernel
theorem d_dv_reduce_84 : decode prog_2_method_4_code 84 = .ok (.iload 6, 2) := by decide +kernel
theorem d_dv_reduce_86 : decode prog_2_method_4_code 86 = .ok (.ifCond .lt 18, 3) := by decide +kernel
theorem d_dv_reduce_89 : decode prog_2_method_4_code 89 = .ok (.aload_n 0, 1) := by decide +kernel
theorem d_dv_reduce_90 : decode prog_2_method_4_code 90 = .ok (.iload 6, 2) := by decide +kernel
theorem d_dv_reduce_92 : decode prog_2_method_4_code 92 = .ok (.laload, 1) := by decide +kernel
theorem d_dv_reduce_93 : decode prog_2_method_4_code 93 = .ok (.lconst 0, 1) := by decide +kernel
theorem d_dv_reduce_94 : decode prog_2_method_4_code 94 = .ok (.lcmp, 1) := by decide +kernel
theorem d_dv_reduce_95 : decode prog_2_method_4_code 95 = .ok (.ifCond .ne 9, 3) := by decide +kernel
theorem d_dv_reduce_98 : decode prog_2_method_4_code 98 = .ok (.iinc 6 (-1), 3) := by decide +kernel
theorem d_dv_reduce_101 : decode prog_2_method_4_code 101 = .ok (.goto (-17), 3) := by decide +kernel
theorem d_dv_reduce_104 : decode prog_2_method_4_code 104 = .ok (.iload 6, 2) := by decide +kernel
theorem d_dv_reduce_106 : decode prog_2_method_4_code 106 = .ok (.ireturn, 1) := by decide +kernel
theorem d_fi_init_0 : decode prog_3_method_1_code 0 = .ok (.aload_n 0, 1) := by decide +kernel
theorem d_fi_init_1 : decode prog_3_method_1_code 1 = .ok (.invokespecial 3, 3) := by decide +kernel
theorem d_fi_init_4 : decode prog_3_method_1_code 4 = .ok (.aload_n 0, 1) := by decide +kernel
theorem d_fi_init_5 : decode prog_3_method_1_code 5 = .ok (.bipush 48, 2) := by decide +kernel
theorem d_fi_init_7 : decode prog_3_method_1_code 7 = .ok (.newarray .long, 2) := by decide +kernel
theorem d_fi_init_9 : decode prog_3_method_1_code 9 = .ok (.putfield 9, 3) := by decide +kernel
theorem d_fi_init_12 : decode prog_3_method_1_code 12 = .ok (.aload_n 0, 1) := by decide +kernel
theorem d_fi_init_13 : decode prog_3_method_1_code 13 = .ok (.bipush 48, 2) := by decide +kernel
theorem d_fi_init_15 : decode prog_3_method_1_code 15 = .ok (.newarray .long, 2) := by decide +kernel
theorem d_fi_init_17 : decode prog_3_method_1_code 17 = .ok (.putfield 15, 3) := by decide +kernel
theorem d_fi_init_20 : decode prog_3_method_1_code 20 = .ok (.aload_n 0, 1) := by decide +kernel
theorem d_fi_init_21 : decode prog_3_method_1_code 21 = .ok (.bipush 48, 2) := by decide +kernel
theorem d_fi_init_23 : decode prog_3_method_1_code 23 = .ok (.newarray .long, 2) := by decide +kernel
theorem d_fi_init_25 : decode prog_3_method_1_code 25 = .ok (.putfield 18, 3) := by decide +kernel
theorem d_fi_init_28 : decode prog_3_method_1_code 28 = .ok (.return_, 1) := by decide +kernel
theorem d_fi_find_0 : decode prog_3_method_2_code 0 = .ok (.aload_n 0, 1) := by decide +kernel
theorem d_fi_find_1 : decode prog_3_method_2_code 1 = .ok (.getfield 9, 3) := by decide +kernel
theorem d_fi_find_4 : decode prog_3_method_2_code 4 = .ok (.invokestatic 21, 3) := by decide +kernel
theorem d_fi_find_7 : decode prog_3_method_2_code 7 = .ok (.aload_n 0, 1) := by decide +kernel
theorem d_fi_find_8 : decode prog_3_method_2_code 8 = .ok (.getfield 15, 3) := by decide +kernel
theorem d_fi_find_11 : decode prog_3_method_2_code 11 = .ok (.invokestatic 21, 3) := by decide +kernel
theorem d_fi_find_14 : decode prog_3_method_2_code 14 = .ok (.iconst 0, 1) := by decide +kernel
theorem d_fi_find_15 : decode prog_3_method_2_code 15 = .ok (.istore 4, 2) := by decide +kernel
theorem d_fi_find_17 : decode prog_3_method_2_code 17 = .ok (.iconst 1, 1) := by decide +kernel
theorem d_fi_find_18 : decode prog_3_method_2_code 18 = .ok (.istore 5, 2) := by decide +kernel
theorem d_fi_find_20 : decode prog_3_method_2_code 20 = .ok (.lconst 1, 1) := by decide +kernel
theorem d_fi_find_21 : decode prog_3_method_2_code 21 = .ok (.lstore 6, 2) := by decide +kernel
theorem d_fi_find_23 : decode prog_3_method_2_code 23 = .ok (.iconst 0, 1) := by decide +kernel
theorem d_fi_find_24 : decode prog_3_method_2_code 24 = .ok (.istore 8, 2) := by decide +kernel
theorem d_fi_find_26 : decode prog_3_method_2_code 26 = .ok (.iload 8, 2) := by decide +kernel
theorem d_fi_find_28 : decode prog_3_method_2_code 28 = .ok (.iload_n 2, 1) := by decide +kernel
theorem d_fi_find_29 : decode prog_3_method_2_code 29 = .ok (.if_icmp .ge 109, 3) := by decide +kernel
theorem d_fi_find_32 : decode prog_3_method_2_code 32 = .ok (.aload_n 1, 1) := by decide +kernel
theorem d_fi_find_33 : decode prog_3_method_2_code 33 = .ok (.iload 8, 2) := by decide +kernel
theorem d_fi_find_35 : decode prog_3_method_2_code 35 = .ok (.laload, 1) := by decide +kernel
theorem d_fi_find_36 : decode prog_3_method_2_code 36 = .ok (.aload_n 0, 1) := by decide +kernel
theorem d_fi_find_37 : decode prog_3_method_2_code 37 = .ok (.getfield 9, 3) := by decide +kernel
theorem d_fi_find_40 : decode prog_3_method_2_code 40 = .ok (.iload 4, 2) := by decide +kernel
theorem d_fi_find_42 : decode prog_3_method_2_code 42 = .ok (.aload_n 1, 1) := by decide +kernel
theorem d_fi_find_43 : decode prog_3_method_2_code 43 = .ok (.iload 8, 2) := by decide +kernel
theorem d_fi_find_45 : decode prog_3_method_2_code 45 = .ok (.invokestatic 25, 3) := by decide +kernel
theorem d_fi_find_48 : decode prog_3_method_2_code 48 = .ok (.invokestatic 31, 3) := by decide +kernel
theorem d_fi_find_51 : decode prog_3_method_2_code 51 = .ok (.lstore 9, 2) := by decide +kernel
theorem d_fi_find_53 : decode prog_3_method_2_code 53 = .ok (.lload 9, 2) := by decide +kernel
theorem d_fi_find_55 : decode prog_3_method_2_code 55 = .ok (.lconst 0, 1) := by decide +kernel
theorem d_fi_find_56 : decode prog_3_method_2_code 56 = .ok (.lcmp, 1) := by decide +kernel
theorem d_fi_find_57 : decode prog_3_method_2_code 57 = .ok (.ifCond .ne 9, 3) := by decide +kernel
theorem d_fi_find_60 : decode prog_3_method_2_code 60 = .ok (.iinc 5 1, 3) := by decide +kernel
theorem d_fi_find_63 : decode prog_3_method_2_code 63 = .ok (.goto 69, 3) := by decide +kernel
theorem d_fi_find_66 : decode prog_3_method_2_code 66 = .ok (.lload 9, 2) := by decide +kernel
theorem d_fi_find_68 : decode prog_3_method_2_code 68 = .ok (.lload 6, 2) := by decide +kernel
theorem d_fi_find_70 : decode prog_3_method_2_code 70 = .ok (.invokestatic 35, 3) := by decide +kernel
theorem d_fi_find_73 : decode prog_3_method_2_code 73 = .ok (.invokestatic 39, 3) := by decide +kernel
theorem d_fi_find_76 : decode prog_3_method_2_code 76 = .ok (.lstore 11, 2) := by decide +kernel
theorem d_fi_find_78 : decode prog_3_method_2_code 78 = .ok (.iconst 2, 1) := by decide +kernel
theorem d_fi_find_79 : decode prog_3_method_2_code 79 = .ok (.iload 4, 2) := by decide +kernel
theorem d_fi_find_81 : decode prog_3_method_2_code 81 = .ok (.imul, 1) := by decide +kernel
theorem d_fi_find_82 : decode prog_3_method_2_code 82 = .ok (.iload 8, 2) := by decide +kernel
theorem d_fi_find_84 : decode prog_3_method_2_code 84 = .ok (.if_icmp .gt 7, 3) := by decide +kernel
theorem d_fi_find_87 : decode prog_3_method_2_code 87 = .ok (.iconst 1, 1) := by decide +kernel
theorem d_fi_find_88 : decode prog_3_method_2_code 88 = .ok (.goto 4, 3) := by decide +kernel
theorem d_fi_find_91 : decode prog_3_method_2_code 91 = .ok (.iconst 0, 1) := by decide +kernel
theorem d_fi_find_92 : decode prog_3_method_2_code 92 = .ok (.istore 13, 2) := by decide +kernel
theorem d_fi_find_94 : decode prog_3_method_2_code 94 = .ok (.aload_n 0, 1) := by decide +kernel
theorem d_fi_find_95 : decode prog_3_method_2_code 95 = .ok (.lload 11, 2) := by decide +kernel
theorem d_fi_find_97 : decode prog_3_method_2_code 97 = .ok (.iload 5, 2) := by decide +kernel
theorem d_fi_find_99 : decode prog_3_method_2_code 99 = .ok (.iload 8, 2) := by decide +kernel
theorem d_fi_find_101 : decode prog_3_method_2_code 101 = .ok (.invokevirtual 42, 3) := by decide +kernel
theorem d_fi_find_104 : decode prog_3_method_2_code 104 = .ok (.iinc 5 1, 3) := by decide +kernel
theorem d_fi_find_107 : decode prog_3_method_2_code 107 = .ok (.iload 13, 2) := by decide +kernel
theorem d_fi_find_109 : decode prog_3_method_2_code 109 = .ok (.ifCond .eq 23, 3) := by decide +kernel
theorem d_fi_find_112 : decode prog_3_method_2_code 112 = .ok (.aload_n 0, 1) := by decide +kernel
theorem d_fi_find_113 : decode prog_3_method_2_code 113 = .ok (.invokevirtual 46, 3) := by decide +kernel
theorem d_fi_find_116 : decode prog_3_method_2_code 116 = .ok (.iload 8, 2) := by decide +kernel
theorem d_fi_find_118 : decode prog_3_method_2_code 118 = .ok (.iconst 1, 1) := by decide +kernel
theorem d_fi_find_119 : decode prog_3_method_2_code 119 = .ok (.iadd, 1) := by decide +kernel
theorem d_fi_find_120 : decode prog_3_method_2_code 120 = .ok (.iload 4, 2) := by decide +kernel
theorem d_fi_find_122 : decode prog_3_method_2_code 122 = .ok (.isub, 1) := by decide +kernel
theorem d_fi_find_123 : decode prog_3_method_2_code 123 = .ok (.istore 4, 2) := by decide +kernel
theorem d_fi_find_125 : decode prog_3_method_2_code 125 = .ok (.lload 9, 2) := by decide +kernel
theorem d_fi_find_127 : decode prog_3_method_2_code 127 = .ok (.lstore 6, 2) := by decide +kernel
theorem d_fi_find_129 : decode prog_3_method_2_code 129 = .ok (.iconst 1, 1) := by decide +kernel
theorem d_fi_find_130 : decode prog_3_method_2_code 130 = .ok (.istore 5, 2) := by decide +kernel
theorem d_fi_find_132 : decode prog_3_method_2_code 132 = .ok (.iinc 8 1, 3) := by decide +kernel
theorem d_fi_find_135 : decode prog_3_method_2_code 135 = .ok (.goto (-109), 3) := by decide +kernel
theorem d_fi_find_138 : decode prog_3_method_2_code 138 = .ok (.aload_n 3, 1) := by decide +kernel
theorem d_fi_find_139 : decode prog_3_method_2_code 139 = .ok (.iload 4, 2) := by decide +kernel
theorem d_fi_find_141 : decode prog_3_method_2_code 141 = .ok (.putfield 49, 3) := by decide +kernel
theorem d_fi_find_144 : decode prog_3_method_2_code 144 = .ok (.iconst 0, 1) := by decide +kernel
theorem d_fi_find_145 : decode prog_3_method_2_code 145 = .ok (.istore 8, 2) := by decide +kernel
theorem d_fi_find_147 : decode prog_3_method_2_code 147 = .ok (.iload 8, 2) := by decide +kernel
theorem d_fi_find_149 : decode prog_3_method_2_code 149 = .ok (.iload 4, 2) := by decide +kernel
theorem d_fi_find_151 : decode prog_3_method_2_code 151 = .ok (.if_icmp .ge 23, 3) := by decide +kernel
theorem d_fi_find_154 : decode prog_3_method_2_code 154 = .ok (.aload_n 3, 1) := by decide +kernel
theorem d_fi_find_155 : decode prog_3_method_2_code 155 = .ok (.getfield 55, 3) := by decide +kernel
theorem d_fi_find_158 : decode prog_3_method_2_code 158 = .ok (.iload 8, 2) := by decide +kernel
theorem d_fi_find_160 : decode prog_3_method_2_code 160 = .ok (.aload_n 0, 1) := by decide +kernel
theorem d_fi_find_161 : decode prog_3_method_2_code 161 = .ok (.getfield 9, 3) := by decide +kernel
theorem d_fi_find_164 : decode prog_3_method_2_code 164 = .ok (.iload 8, 2) := by decide +kernel
theorem d_fi_find_166 : decode prog_3_method_2_code 166 = .ok (.laload, 1) := by decide +kernel
theorem d_fi_find_167 : decode prog_3_method_2_code 167 = .ok (.lastore, 1) := by decide +kernel
theorem d_fi_find_168 : decode prog_3_method_2_code 168 = .ok (.iinc 8 1, 3) := by decide +kernel
theorem d_fi_find_171 : decode prog_3_method_2_code 171 = .ok (.goto (-24), 3) := by decide +kernel
theorem d_fi_find_174 : decode prog_3_method_2_code 174 = .ok (.return_, 1) := by decide +kernel
theorem d_fi_mend_0 : decode prog_3_method_3_code 0 = .ok (.iconst 0, 1) := by decide +kernel
theorem d_fi_mend_1 : decode prog_3_method_3_code 1 = .ok (.istore 5, 2) := by decide +kernel
theorem d_fi_mend_3 : decode prog_3_method_3_code 3 = .ok (.iload 5, 2) := by decide +kernel
theorem d_fi_mend_5 : decode prog_3_method_3_code 5 = .ok (.bipush 48, 2) := by decide +kernel
theorem d_fi_mend_7 : decode prog_3_method_3_code 7 = .ok (.if_icmp .ge 23, 3) := by decide +kernel
theorem d_fi_mend_10 : decode prog_3_method_3_code 10 = .ok (.aload_n 0, 1) := by decide +kernel
theorem d_fi_mend_11 : decode prog_3_method_3_code 11 = .ok (.getfield 18, 3) := by decide +kernel
theorem d_fi_mend_14 : decode prog_3_method_3_code 14 = .ok (.iload 5, 2) := by decide +kernel
theorem d_fi_mend_16 : decode prog_3_method_3_code 16 = .ok (.aload_n 0, 1) := by decide +kernel
theorem d_fi_mend_17 : decode prog_3_method_3_code 17 = .ok (.getfield 9, 3) := by decide +kernel
theorem d_fi_mend_20 : decode prog_3_method_3_code 20 = .ok (.iload 5, 2) := by decide +kernel
theorem d_fi_mend_22 : decode prog_3_method_3_code 22 = .ok (.laload, 1) := by decide +kernel
theorem d_fi_mend_23 : decode prog_3_method_3_code 23 = .ok (.lastore, 1) := by decide +kernel
theorem d_fi_mend_24 : decode prog_3_method_3_code 24 = .ok (.iinc 5 1, 3) := by decide +kernel
theorem d_fi_mend_27 : decode prog_3_method_3_code 27 = .ok (.goto (-24), 3) := by decide +kernel
theorem d_fi_mend_30 : decode prog_3_method_3_code 30 = .ok (.aload_n 0, 1) := by decide +kernel
theorem d_fi_mend_31 : decode prog_3_method_3_code 31 = .ok (.getfield 9, 3) := by decide +kernel
theorem d_fi_mend_34 : decode prog_3_method_3_code 34 = .ok (.iload_n 3, 1) := by decide +kernel
theorem d_fi_mend_35 : decode prog_3_method_3_code 35 = .ok (.iconst 1, 1) := by decide +kernel
theorem d_fi_mend_36 : decode prog_3_method_3_code 36 = .ok (.isub, 1) := by decide +kernel
theorem d_fi_mend_37 : decode prog_3_method_3_code 37 = .ok (.aload_n 0, 1) := by decide +kernel
theorem d_fi_mend_38 : decode prog_3_method_3_code 38 = .ok (.getfield 9, 3) := by decide +kernel
theorem d_fi_mend_41 : decode prog_3_method_3_code 41 = .ok (.iload_n 3, 1) := by decide +kernel
theorem d_fi_mend_42 : decode prog_3_method_3_code 42 = .ok (.iconst 1, 1) := by decide +kernel
theorem d_fi_mend_43 : decode prog_3_method_3_code 43 = .ok (.isub, 1) := by decide +kernel
theorem d_fi_mend_44 : decode prog_3_method_3_code 44 = .ok (.laload, 1) := by decide +kernel
theorem d_fi_mend_45 : decode prog_3_method_3_code 45 = .ok (.lload_n 1, 1) := by decide +kernel
theorem d_fi_mend_46 : decode prog_3_method_3_code 46 = .ok (.invokestatic 58, 3) := by decide +kernel
theorem d_fi_mend_49 : decode prog_3_method_3_code 49 = .ok (.lastore, 1) := by decide +kernel
theorem d_fi_mend_50 : decode prog_3_method_3_code 50 = .ok (.iload_n 3, 1) := by decide +kernel
theorem d_fi_mend_51 : decode prog_3_method_3_code 51 = .ok (.istore 5, 2) := by decide +kernel
theorem d_fi_mend_53 : decode prog_3_method_3_code 53 = .ok (.iload 5, 2) := by decide +kernel
theorem d_fi_mend_55 : decode prog_3_method_3_code 55 = .ok (.iload 4, 2) := by decide +kernel
theorem d_fi_mend_57 : decode prog_3_method_3_code 57 = .ok (.if_icmp .gt 39, 3) := by decide +kernel
theorem d_fi_mend_60 : decode prog_3_method_3_code 60 = .ok (.aload_n 0, 1) := by decide +kernel
theorem d_fi_mend_61 : decode prog_3_method_3_code 61 = .ok (.getfield 9, 3) := by decide +kernel
theorem d_fi_mend_64 : decode prog_3_method_3_code 64 = .ok (.iload 5, 2) := by decide +kernel
theorem d_fi_mend_66 : decode prog_3_method_3_code 66 = .ok (.aload_n 0, 1) := by decide +kernel
theorem d_fi_mend_67 : decode prog_3_method_3_code 67 = .ok (.getfield 9, 3) := by decide +kernel
theorem d_fi_mend_70 : decode prog_3_method_3_code 70 = .ok (.iload 5, 2) := by decide +kernel
theorem d_fi_mend_72 : decode prog_3_method_3_code 72 = .ok (.laload, 1) := by decide +kernel
theorem d_fi_mend_73 : decode prog_3_method_3_code 73 = .ok (.lload_n 1, 1) := by decide +kernel
theorem d_fi_mend_74 : decode prog_3_method_3_code 74 = .ok (.aload_n 0, 1) := by decide +kernel
theorem d_fi_mend_75 : decode prog_3_method_3_code 75 = .ok (.getfield 15, 3) := by decide +kernel
theorem d_fi_mend_78 : decode prog_3_method_3_code 78 = .ok (.iload 5, 2) := by decide +kernel
theorem d_fi_mend_80 : decode prog_3_method_3_code 80 = .ok (.iload_n 3, 1) := by decide +kernel
theorem d_fi_mend_81 : decode prog_3_method_3_code 81 = .ok (.isub, 1) := by decide +kernel
theorem d_fi_mend_82 : decode prog_3_method_3_code 82 = .ok (.laload, 1) := by decide +kernel
theorem d_fi_mend_83 : decode prog_3_method_3_code 83 = .ok (.invokestatic 39, 3) := by decide +kernel
theorem d_fi_mend_86 : decode prog_3_method_3_code 86 = .ok (.invokestatic 31, 3) := by decide +kernel
theorem d_fi_mend_89 : decode prog_3_method_3_code 89 = .ok (.lastore, 1) := by decide +kernel
theorem d_fi_mend_90 : decode prog_3_method_3_code 90 = .ok (.iinc 5 1, 3) := by decide +kernel
theorem d_fi_mend_93 : decode prog_3_method_3_code 93 = .ok (.goto (-40), 3) := by decide +kernel
theorem d_fi_mend_96 : decode prog_3_method_3_code 96 = .ok (.return_, 1) := by decide +kernel
theorem d_fi_keepUnmended_0 : decode prog_3_method_4_code 0 = .ok (.aload_n 0, 1) := by decide +kernel
theorem d_fi_keepUnmended_1 : decode prog_3_method_4_code 1 = .ok (.getfield 15, 3) := by decide +kernel
theorem d_fi_keepUnmended_4 : decode prog_3_method_4_code 4 = .ok (.astore_n 1, 1) := by decide +kernel
theorem d_fi_keepUnmended_5 : decode prog_3_method_4_code 5 = .ok (.aload_n 0, 1) := by decide +kernel
theorem d_fi_keepUnmended_6 : decode prog_3_method_4_code 6 = .ok (.aload_n 0, 1) := by decide +kernel
theorem d_fi_keepUnmended_7 : decode prog_3_method_4_code 7 = .ok (.getfield 18, 3) := by decide +kernel
theorem d_fi_keepUnmended_10 : decode prog_3_method_4_code 10 = .ok (.putfield 15, 3) := by decide +kernel
theorem d_fi_keepUnmended_13 : decode prog_3_method_4_code 13 = .ok (.aload_n 0, 1) := by decide +kernel
theorem d_fi_keepUnmended_14 : decode prog_3_method_4_code 14 = .ok (.aload_n 1, 1) := by decide +kernel
theorem d_fi_keepUnmended_15 : decode prog_3_method_4_code 15 = .ok (.putfield 18, 3) := by decide +kernel
theorem d_fi_keepUnmended_18 : decode prog_3_method_4_code 18 = .ok (.return_, 1) := by decide +kernel
theorem d_fi_erase_0 : decode prog_3_method_5_code 0 = .ok (.iconst 0, 1) := by decide +kernel
theorem d_fi_erase_1 : decode prog_3_method_5_code 1 = .ok (.istore_n 1, 1) := by decide +kernel
theorem d_fi_erase_2 : decode prog_3_method_5_code 2 = .ok (.iload_n 1, 1) := by decide +kernel
theorem d_fi_erase_3 : decode prog_3_method_5_code 3 = .ok (.bipush 48, 2) := by decide +kernel
theorem d_fi_erase_5 : decode prog_3_method_5_code 5 = .ok (.if_icmp .ge 13, 3) := by decide +kernel
theorem d_fi_erase_8 : decode prog_3_method_5_code 8 = .ok (.aload_n 0, 1) := by decide +kernel
theorem d_fi_erase_9 : decode prog_3_method_5_code 9 = .ok (.iload_n 1, 1) := by decide +kernel
theorem d_fi_erase_10 : decode prog_3_method_5_code 10 = .ok (.lconst 0, 1) := by decide +kernel
theorem d_fi_erase_11 : decode prog_3_method_5_code 11 = .ok (.lastore, 1) := by decide +kernel
theorem d_fi_erase_12 : decode prog_3_method_5_code 12 = .ok (.iinc 1 1, 3) := by decide +kernel
theorem d_fi_erase_15 : decode prog_3_method_5_code 15 = .ok (.goto (-13), 3) := by decide +kernel
theorem d_fi_erase_18 : decode prog_3_method_5_code 18 = .ok (.return_, 1) := by decide +kernel
theorem d_nu_of_0 : decode prog_4_method_2_code 0 = .ok (.iload_n 0, 1) := by decide +kernel
theorem d_nu_of_1 : decode prog_4_method_2_code 1 = .ok (.i2l, 1) := by decide +kernel
theorem d_nu_of_2 : decode prog_4_method_2_code 2 = .ok (.ldc2_w 9, 3) := by decide +kernel
theorem d_nu_of_5 : decode prog_4_method_2_code 5 = .ok (.lrem, 1) := by decide +kernel
theorem d_nu_of_6 : decode prog_4_method_2_code 6 = .ok (.lstore_n 1, 1) := by decide +kernel
theorem d_nu_of_7 : decode prog_4_method_2_code 7 = .ok (.lload_n 1, 1) := by decide +kernel
theorem d_nu_of_8 : decode prog_4_method_2_code 8 = .ok (.lconst 0, 1) := by decide +kernel
theorem d_nu_of_9 : decode prog_4_method_2_code 9 = .ok (.lcmp, 1) := by decide +kernel
theorem d_nu_of_10 : decode prog_4_method_2_code 10 = .ok (.ifCond .ge 11, 3) := by decide +kernel
theorem d_nu_of_13 : decode prog_4_method_2_code 13 = .ok (.lload_n 1, 1) := by decide +kernel
theorem d_nu_of_14 : decode prog_4_method_2_code 14 = .ok (.ldc2_w 9, 3) := by decide +kernel
theorem d_nu_of_17 : decode prog_4_method_2_code 17 = .ok (.ladd, 1) := by decide +kernel
theorem d_nu_of_18 : decode prog_4_method_2_code 18 = .ok (.goto 4, 3) := by decide +kernel
theorem d_nu_of_21 : decode prog_4_method_2_code 21 = .ok (.lload_n 1, 1) := by decide +kernel
theorem d_nu_of_22 : decode prog_4_method_2_code 22 = .ok (.lreturn, 1) := by decide +kernel
theorem d_nu_plus_0 : decode prog_4_method_3_code 0 = .ok (.lload_n 0, 1) := by decide +kernel
theorem d_nu_plus_1 : decode prog_4_method_3_code 1 = .ok (.lload_n 2, 1) := by decide +kernel
theorem d_nu_plus_2 : decode prog_4_method_3_code 2 = .ok (.ladd, 1) := by decide +kernel
theorem d_nu_plus_3 : decode prog_4_method_3_code 3 = .ok (.ldc2_w 9, 3) := by decide +kernel
theorem d_nu_plus_6 : decode prog_4_method_3_code 6 = .ok (.lrem, 1) := by decide +kernel
theorem d_nu_plus_7 : decode prog_4_method_3_code 7 = .ok (.lreturn, 1) := by decide +kernel
theorem d_nu_minus_0 : decode prog_4_method_4_code 0 = .ok (.lload_n 0, 1) := by decide +kernel
theorem d_nu_minus_1 : decode prog_4_method_4_code 1 = .ok (.ldc2_w 9, 3) := by decide +kernel
theorem d_nu_minus_4 : decode prog_4_method_4_code 4 = .ok (.ladd, 1) := by decide +kernel
theorem d_nu_minus_5 : decode prog_4_method_4_code 5 = .ok (.lload_n 2, 1) := by decide +kernel
theorem d_nu_minus_6 : decode prog_4_method_4_code 6 = .ok (.lsub, 1) := by decide +kernel
theorem d_nu_minus_7 : decode prog_4_method_4_code 7 = .ok (.ldc2_w 9, 3) := by decide +kernel
theorem d_nu_minus_10 : decode prog_4_method_4_code 10 = .ok (.lrem, 1) := by decide +kernel
theorem d_nu_minus_11 : decode prog_4_method_4_code 11 = .ok (.lreturn, 1) := by decide +kernel
theorem d_nu_times_0 : decode prog_4_method_5_code 0 = .ok (.lload_n 0, 1) := by decide +kernel
theorem d_nu_times_1 : decode prog_4_method_5_code 1 = .ok (.lload_n 2, 1) := by decide +kernel
theorem d_nu_times_2 : decode prog_4_method_5_code 2 = .ok (.lmul, 1) := by decide +kernel
theorem d_nu_times_3 : decode prog_4_method_5_code 3 = .ok (.ldc2_w 9, 3) := by decide +kernel
theorem d_nu_times_6 : decode prog_4_method_5_code 6 = .ok (.lrem, 1) := by decide +kernel
theorem d_nu_times_7 : decode prog_4_method_5_code 7 = .ok (.lreturn, 1) := by decide +kernel
theorem d_nu_plusTimes_0 : decode prog_4_method_6_code 0 = .ok (.lload_n 0, 1) := by decide +kernel
theorem d_nu_plusTimes_1 : decode prog_4_method_6_code 1 = .ok (.lload_n 2, 1) := by decide +kernel
theorem d_nu_plusTimes_2 : decode prog_4_method_6_code 2 = .ok (.lload 4, 2) := by decide +kernel
theorem d_nu_plusTimes_4 : decode prog_4_method_6_code 4 = .ok (.lmul, 1) := by decide +kernel
theorem d_nu_plusTimes_5 : decode prog_4_method_6_code 5 = .ok (.ladd, 1) := by decide +kernel
theorem d_nu_plusTimes_6 : decode prog_4_method_6_code 6 = .ok (.ldc2_w 9, 3) := by decide +kernel
theorem d_nu_plusTimes_9 : decode prog_4_method_6_code 9 = .ok (.lrem, 1) := by decide +kernel
theorem d_nu_plusTimes_10 : decode prog_4_method_6_code 10 = .ok (.lreturn, 1) := by decide +kernel
theorem d_nu_inverse_0 : decode prog_4_method_7_code 0 = .ok (.lconst 1, 1) := by decide +kernel
theorem d_nu_inverse_1 : decode prog_4_method_7_code 1 = .ok (.lstore_n 2, 1) := by decide +kernel
theorem d_nu_inverse_2 : decode prog_4_method_7_code 2 = .ok (.lload_n 0, 1) := by decide +kernel
theorem d_nu_inverse_3 : decode prog_4_method_7_code 3 = .ok (.lstore 4, 2) := by decide +kernel
theorem d_nu_inverse_5 : decode prog_4_method_7_code 5 = .ok (.ldc2_w 11, 3) := by decide +kernel
theorem d_nu_inverse_8 : decode prog_4_method_7_code 8 = .ok (.lstore 6, 2) := by decide +kernel
theorem d_nu_inverse_10 : decode prog_4_method_7_code 10 = .ok (.lload 6, 2) := by decide +kernel
theorem d_nu_inverse_12 : decode prog_4_method_7_code 12 = .ok (.lconst 0, 1) := by decide +kernel
theorem d_nu_inverse_13 : decode prog_4_method_7_code 13 = .ok (.lcmp, 1) := by decide +kernel
theorem d_nu_inverse_14 : decode prog_4_method_7_code 14 = .ok (.ifCond .le 37, 3) := by decide +kernel
theorem d_nu_inverse_17 : decode prog_4_method_7_code 17 = .ok (.lload 6, 2) := by decide +kernel
theorem d_nu_inverse_19 : decode prog_4_method_7_code 19 = .ok (.lconst 1, 1) := by decide +kernel
theorem d_nu_inverse_20 : decode prog_4_method_7_code 20 = .ok (.land, 1) := by decide +kernel
theorem d_nu_inverse_21 : decode prog_4_method_7_code 21 = .ok (.lconst 1, 1) := by decide +kernel
theorem d_nu_inverse_22 : decode prog_4_method_7_code 22 = .ok (.lcmp, 1) := by decide +kernel
theorem d_nu_inverse_23 : decode prog_4_method_7_code 23 = .ok (.ifCond .ne 10, 3) := by decide +kernel
theorem d_nu_inverse_26 : decode prog_4_method_7_code 26 = .ok (.lload_n 2, 1) := by decide +kernel
theorem d_nu_inverse_27 : decode prog_4_method_7_code 27 = .ok (.lload 4, 2) := by decide +kernel
theorem d_nu_inverse_29 : decode prog_4_method_7_code 29 = .ok (.invokestatic 13, 3) := by decide +kernel
theorem d_nu_inverse_32 : decode prog_4_method_7_code 32 = .ok (.lstore_n 2, 1) := by decide +kernel
theorem d_nu_inverse_33 : decode prog_4_method_7_code 33 = .ok (.lload 4, 2) := by decide +kernel
theorem d_nu_inverse_35 : decode prog_4_method_7_code 35 = .ok (.lload 4, 2) := by decide +kernel
theorem d_nu_inverse_37 : decode prog_4_method_7_code 37 = .ok (.invokestatic 13, 3) := by decide +kernel
theorem d_nu_inverse_40 : decode prog_4_method_7_code 40 = .ok (.lstore 4, 2) := by decide +kernel
theorem d_nu_inverse_42 : decode prog_4_method_7_code 42 = .ok (.lload 6, 2) := by decide +kernel
theorem d_nu_inverse_44 : decode prog_4_method_7_code 44 = .ok (.iconst 1, 1) := by decide +kernel
theorem d_nu_inverse_45 : decode prog_4_method_7_code 45 = .ok (.lshr, 1) := by decide +kernel
theorem d_nu_inverse_46 : decode prog_4_method_7_code 46 = .ok (.lstore 6, 2) := by decide +kernel
theorem d_nu_inverse_48 : decode prog_4_method_7_code 48 = .ok (.goto (-38), 3) := by decide +kernel
theorem d_nu_inverse_51 : decode prog_4_method_7_code 51 = .ok (.lload_n 2, 1) := by decide +kernel
theorem d_nu_inverse_52 : decode prog_4_method_7_code 52 = .ok (.lreturn, 1) := by decide +kernel
theorem d_nu_foretold_0 : decode prog_4_method_8_code 0 = .ok (.lconst 0, 1) := by decide +kernel
theorem d_nu_foretold_1 : decode prog_4_method_8_code 1 = .ok (.lstore 4, 2) := by decide +kernel
theorem d_nu_foretold_3 : decode prog_4_method_8_code 3 = .ok (.iconst 0, 1) := by decide +kernel
theorem d_nu_foretold_4 : decode prog_4_method_8_code 4 = .ok (.istore 6, 2) := by decide +kernel
theorem d_nu_foretold_6 : decode prog_4_method_8_code 6 = .ok (.iload 6, 2) := by decide +kernel
theorem d_nu_foretold_8 : decode prog_4_method_8_code 8 = .ok (.iload_n 1, 1) := by decide +kernel
theorem d_nu_foretold_9 : decode prog_4_method_8_code 9 = .ok (.if_icmp .ge 28, 3) := by decide +kernel
theorem d_nu_foretold_12 : decode prog_4_method_8_code 12 = .ok (.lload 4, 2) := by decide +kernel
theorem d_nu_foretold_14 : decode prog_4_method_8_code 14 = .ok (.aload_n 0, 1) := by decide +kernel
theorem d_nu_foretold_15 : decode prog_4_method_8_code 15 = .ok (.iload 6, 2) := by decide +kernel
theorem d_nu_foretold_17 : decode prog_4_method_8_code 17 = .ok (.laload, 1) := by decide +kernel
theorem d_nu_foretold_18 : decode prog_4_method_8_code 18 = .ok (.aload_n 2, 1) := by decide +kernel
theorem d_nu_foretold_19 : decode prog_4_method_8_code 19 = .ok (.iload_n 3, 1) := by decide +kernel
theorem d_nu_foretold_20 : decode prog_4_method_8_code 20 = .ok (.iconst 1, 1) := by decide +kernel
theorem d_nu_foretold_21 : decode prog_4_method_8_code 21 = .ok (.isub, 1) := by decide +kernel
theorem d_nu_foretold_22 : decode prog_4_method_8_code 22 = .ok (.iload 6, 2) := by decide +kernel
theorem d_nu_foretold_24 : decode prog_4_method_8_code 24 = .ok (.isub, 1) := by decide +kernel
theorem d_nu_foretold_25 : decode prog_4_method_8_code 25 = .ok (.laload, 1) := by decide +kernel
theorem d_nu_foretold_26 : decode prog_4_method_8_code 26 = .ok (.invokestatic 17, 3) := by decide +kernel
theorem d_nu_foretold_29 : decode prog_4_method_8_code 29 = .ok (.lstore 4, 2) := by decide +kernel
theorem d_nu_foretold_31 : decode prog_4_method_8_code 31 = .ok (.iinc 6 1, 3) := by decide +kernel
theorem d_nu_foretold_34 : decode prog_4_method_8_code 34 = .ok (.goto (-28), 3) := by decide +kernel
theorem d_nu_foretold_37 : decode prog_4_method_8_code 37 = .ok (.lload 4, 2) := by decide +kernel
theorem d_nu_foretold_39 : decode prog_4_method_8_code 39 = .ok (.lreturn, 1) := by decide +kernel
theorem d_sk_init_0 : decode prog_5_method_1_code 0 = .ok (.aload_n 0, 1) := by decide +kernel
theorem d_sk_init_1 : decode prog_5_method_1_code 1 = .ok (.invokespecial 3, 3) := by decide +kernel
theorem d_sk_init_4 : decode prog_5_method_1_code 4 = .ok (.aload_n 0, 1) := by decide +kernel
theorem d_sk_init_5 : decode prog_5_method_1_code 5 = .ok (.bipush 49, 2) := by decide +kernel
theorem d_sk_init_7 : decode prog_5_method_1_code 7 = .ok (.newarray .long, 2) := by decide +kernel
theorem d_sk_init_9 : decode prog_5_method_1_code 9 = .ok (.putfield 9, 3) := by decide +kernel
theorem d_sk_init_12 : decode prog_5_method_1_code 12 = .ok (.aload_n 0, 1) := by decide +kernel
theorem d_sk_init_13 : decode prog_5_method_1_code 13 = .ok (.bipush 49, 2) := by decide +kernel
theorem d_sk_init_15 : decode prog_5_method_1_code 15 = .ok (.newarray .long, 2) := by decide +kernel
theorem d_sk_init_17 : decode prog_5_method_1_code 17 = .ok (.putfield 15, 3) := by decide +kernel
theorem d_sk_init_20 : decode prog_5_method_1_code 20 = .ok (.aload_n 0, 1) := by decide +kernel
theorem d_sk_init_21 : decode prog_5_method_1_code 21 = .ok (.bipush 49, 2) := by decide +kernel
theorem d_sk_init_23 : decode prog_5_method_1_code 23 = .ok (.newarray .long, 2) := by decide +kernel
theorem d_sk_init_25 : decode prog_5_method_1_code 25 = .ok (.putfield 18, 3) := by decide +kernel
theorem d_sk_init_28 : decode prog_5_method_1_code 28 = .ok (.aload_n 0, 1) := by decide +kernel
theorem d_sk_init_29 : decode prog_5_method_1_code 29 = .ok (.bipush 49, 2) := by decide +kernel
theorem d_sk_init_31 : decode prog_5_method_1_code 31 = .ok (.newarray .long, 2) := by decide +kernel
theorem d_sk_init_33 : decode prog_5_method_1_code 33 = .ok (.putfield 21, 3) := by decide +kernel
theorem d_sk_init_36 : decode prog_5_method_1_code 36 = .ok (.aload_n 0, 1) := by decide +kernel
theorem d_sk_init_37 : decode prog_5_method_1_code 37 = .ok (.bipush 49, 2) := by decide +kernel
theorem d_sk_init_39 : decode prog_5_method_1_code 39 = .ok (.newarray .long, 2) := by decide +kernel
theorem d_sk_init_41 : decode prog_5_method_1_code 41 = .ok (.putfield 24, 3) := by decide +kernel
theorem d_sk_init_44 : decode prog_5_method_1_code 44 = .ok (.return_, 1) := by decide +kernel
theorem d_sk_seek_0 : decode prog_5_method_2_code 0 = .ok (.aload_n 0, 1) := by decide +kernel
theorem d_sk_seek_1 : decode prog_5_method_2_code 1 = .ok (.aload_n 1, 1) := by decide +kernel
theorem d_sk_seek_2 : decode prog_5_method_2_code 2 = .ok (.invokevirtual 27, 3) := by decide +kernel
theorem d_sk_seek_5 : decode prog_5_method_2_code 5 = .ok (.iconst 0, 1) := by decide +kernel
theorem d_sk_seek_6 : decode prog_5_method_2_code 6 = .ok (.istore 4, 2) := by decide +kernel
theorem d_sk_seek_8 : decode prog_5_method_2_code 8 = .ok (.iload 4, 2) := by decide +kernel
theorem d_sk_seek_10 : decode prog_5_method_2_code 10 = .ok (.bipush 63, 2) := by decide +kernel
theorem d_sk_seek_12 : decode prog_5_method_2_code 12 = .ok (.if_icmp .ge 33, 3) := by decide +kernel
theorem d_sk_seek_15 : decode prog_5_method_2_code 15 = .ok (.lload_n 2, 1) := by decide +kernel
theorem d_sk_seek_16 : decode prog_5_method_2_code 16 = .ok (.iload 4, 2) := by decide +kernel
theorem d_sk_seek_18 : decode prog_5_method_2_code 18 = .ok (.lshr, 1) := by decide +kernel
theorem d_sk_seek_19 : decode prog_5_method_2_code 19 = .ok (.lconst 0, 1) := by decide +kernel
theorem d_sk_seek_20 : decode prog_5_method_2_code 20 = .ok (.lcmp, 1) := by decide +kernel
theorem d_sk_seek_21 : decode prog_5_method_2_code 21 = .ok (.ifCond .eq 24, 3) := by decide +kernel
theorem d_sk_seek_24 : decode prog_5_method_2_code 24 = .ok (.aload_n 0, 1) := by decide +kernel
theorem d_sk_seek_25 : decode prog_5_method_2_code 25 = .ok (.aload_n 1, 1) := by decide +kernel
theorem d_sk_seek_26 : decode prog_5_method_2_code 26 = .ok (.getfield 31, 3) := by decide +kernel
theorem d_sk_seek_29 : decode prog_5_method_2_code 29 = .ok (.lload_n 2, 1) := by decide +kernel
theorem d_sk_seek_30 : decode prog_5_method_2_code 30 = .ok (.iload 4, 2) := by decide +kernel
theorem d_sk_seek_32 : decode prog_5_method_2_code 32 = .ok (.lshr, 1) := by decide +kernel
theorem d_sk_seek_33 : decode prog_5_method_2_code 33 = .ok (.lconst 1, 1) := by decide +kernel
theorem d_sk_seek_34 : decode prog_5_method_2_code 34 = .ok (.land, 1) := by decide +kernel
theorem d_sk_seek_35 : decode prog_5_method_2_code 35 = .ok (.l2i, 1) := by decide +kernel
theorem d_sk_seek_36 : decode prog_5_method_2_code 36 = .ok (.invokevirtual 37, 3) := by decide +kernel
theorem d_sk_seek_39 : decode prog_5_method_2_code 39 = .ok (.iinc 4 1, 3) := by decide +kernel
theorem d_sk_seek_42 : decode prog_5_method_2_code 42 = .ok (.goto (-34), 3) := by decide +kernel
theorem d_sk_seek_45 : decode prog_5_method_2_code 45 = .ok (.aload_n 0, 1) := by decide +kernel
theorem d_sk_seek_46 : decode prog_5_method_2_code 46 = .ok (.getfield 9, 3) := by decide +kernel
theorem d_sk_seek_49 : decode prog_5_method_2_code 49 = .ok (.iconst 0, 1) := by decide +kernel
theorem d_sk_seek_50 : decode prog_5_method_2_code 50 = .ok (.laload, 1) := by decide +kernel
theorem d_sk_seek_51 : decode prog_5_method_2_code 51 = .ok (.lreturn, 1) := by decide +kernel
theorem d_sk_load_0 : decode prog_5_method_3_code 0 = .ok (.aload_n 0, 1) := by decide +kernel
theorem d_sk_load_1 : decode prog_5_method_3_code 1 = .ok (.getfield 15, 3) := by decide +kernel
theorem d_sk_load_4 : decode prog_5_method_3_code 4 = .ok (.iconst 0, 1) := by decide +kernel
theorem d_sk_load_5 : decode prog_5_method_3_code 5 = .ok (.lconst 1, 1) := by decide +kernel
theorem d_sk_load_6 : decode prog_5_method_3_code 6 = .ok (.lastore, 1) := by decide +kernel
theorem d_sk_load_7 : decode prog_5_method_3_code 7 = .ok (.iconst 0, 1) := by decide +kernel
theorem d_sk_load_8 : decode prog_5_method_3_code 8 = .ok (.istore_n 2, 1) := by decide +kernel
theorem d_sk_load_9 : decode prog_5_method_3_code 9 = .ok (.iload_n 2, 1) := by decide +kernel
theorem d_sk_load_10 : decode prog_5_method_3_code 10 = .ok (.aload_n 1, 1) := by decide +kernel
theorem d_sk_load_11 : decode prog_5_method_3_code 11 = .ok (.getfield 31, 3) := by decide +kernel
theorem d_sk_load_14 : decode prog_5_method_3_code 14 = .ok (.if_icmp .ge 57, 3) := by decide +kernel
theorem d_sk_load_17 : decode prog_5_method_3_code 17 = .ok (.aload_n 0, 1) := by decide +kernel
theorem d_sk_load_18 : decode prog_5_method_3_code 18 = .ok (.getfield 15, 3) := by decide +kernel
theorem d_sk_load_21 : decode prog_5_method_3_code 21 = .ok (.iload_n 2, 1) := by decide +kernel
theorem d_sk_load_22 : decode prog_5_method_3_code 22 = .ok (.iconst 1, 1) := by decide +kernel
theorem d_sk_load_23 : decode prog_5_method_3_code 23 = .ok (.iadd, 1) := by decide +kernel
theorem d_sk_load_24 : decode prog_5_method_3_code 24 = .ok (.lconst 0, 1) := by decide +kernel
theorem d_sk_load_25 : decode prog_5_method_3_code 25 = .ok (.aload_n 1, 1) := by decide +kernel
theorem d_sk_load_26 : decode prog_5_method_3_code 26 = .ok (.getfield 41, 3) := by decide +kernel
theorem d_sk_load_29 : decode prog_5_method_3_code 29 = .ok (.iload_n 2, 1) := by decide +kernel
theorem d_sk_load_30 : decode prog_5_method_3_code 30 = .ok (.laload, 1) := by decide +kernel
theorem d_sk_load_31 : decode prog_5_method_3_code 31 = .ok (.invokestatic 44, 3) := by decide +kernel
theorem d_sk_load_34 : decode prog_5_method_3_code 34 = .ok (.lastore, 1) := by decide +kernel
theorem d_sk_load_35 : decode prog_5_method_3_code 35 = .ok (.aload_n 1, 1) := by decide +kernel
theorem d_sk_load_36 : decode prog_5_method_3_code 36 = .ok (.getfield 41, 3) := by decide +kernel
theorem d_sk_load_39 : decode prog_5_method_3_code 39 = .ok (.iload_n 2, 1) := by decide +kernel
theorem d_sk_load_40 : decode prog_5_method_3_code 40 = .ok (.aload_n 1, 1) := by decide +kernel
theorem d_sk_load_41 : decode prog_5_method_3_code 41 = .ok (.getfield 50, 3) := by decide +kernel
theorem d_sk_load_44 : decode prog_5_method_3_code 44 = .ok (.iload_n 2, 1) := by decide +kernel
theorem d_sk_load_45 : decode prog_5_method_3_code 45 = .ok (.invokestatic 53, 3) := by decide +kernel
theorem d_sk_load_48 : decode prog_5_method_3_code 48 = .ok (.lstore_n 3, 1) := by decide +kernel
theorem d_sk_load_49 : decode prog_5_method_3_code 49 = .ok (.aload_n 0, 1) := by decide +kernel
theorem d_sk_load_50 : decode prog_5_method_3_code 50 = .ok (.getfield 9, 3) := by decide +kernel
theorem d_sk_load_53 : decode prog_5_method_3_code 53 = .ok (.iload_n 2, 1) := by decide +kernel
theorem d_sk_load_54 : decode prog_5_method_3_code 54 = .ok (.aload_n 1, 1) := by decide +kernel
theorem d_sk_load_55 : decode prog_5_method_3_code 55 = .ok (.getfield 50, 3) := by decide +kernel
theorem d_sk_load_58 : decode prog_5_method_3_code 58 = .ok (.iload_n 2, 1) := by decide +kernel
theorem d_sk_load_59 : decode prog_5_method_3_code 59 = .ok (.laload, 1) := by decide +kernel
theorem d_sk_load_60 : decode prog_5_method_3_code 60 = .ok (.lload_n 3, 1) := by decide +kernel
theorem d_sk_load_61 : decode prog_5_method_3_code 61 = .ok (.invokestatic 44, 3) := by decide +kernel
theorem d_sk_load_64 : decode prog_5_method_3_code 64 = .ok (.lastore, 1) := by decide +kernel
theorem d_sk_load_65 : decode prog_5_method_3_code 65 = .ok (.iinc 2 1, 3) := by decide +kernel
theorem d_sk_load_68 : decode prog_5_method_3_code 68 = .ok (.goto (-59), 3) := by decide +kernel
theorem d_sk_load_71 : decode prog_5_method_3_code 71 = .ok (.aload_n 0, 1) := by decide +kernel
theorem d_sk_load_72 : decode prog_5_method_3_code 72 = .ok (.getfield 9, 3) := by decide +kernel
theorem d_sk_load_75 : decode prog_5_method_3_code 75 = .ok (.aload_n 1, 1) := by decide +kernel
theorem d_sk_load_76 : decode prog_5_method_3_code 76 = .ok (.getfield 31, 3) := by decide +kernel
theorem d_sk_load_79 : decode prog_5_method_3_code 79 = .ok (.lconst 0, 1) := by decide +kernel
theorem d_sk_load_80 : decode prog_5_method_3_code 80 = .ok (.lastore, 1) := by decide +kernel
theorem d_sk_load_81 : decode prog_5_method_3_code 81 = .ok (.return_, 1) := by decide +kernel
theorem d_sk_halve_0 : decode prog_5_method_4_code 0 = .ok (.iconst 0, 1) := by decide +kernel
theorem d_sk_halve_1 : decode prog_5_method_4_code 1 = .ok (.istore_n 3, 1) := by decide +kernel
theorem d_sk_halve_2 : decode prog_5_method_4_code 2 = .ok (.iload_n 3, 1) := by decide +kernel
theorem d_sk_halve_3 : decode prog_5_method_4_code 3 = .ok (.iload_n 1, 1) := by decide +kernel
theorem d_sk_halve_4 : decode prog_5_method_4_code 4 = .ok (.if_icmp .gt 40, 3) := by decide +kernel
theorem d_sk_halve_7 : decode prog_5_method_4_code 7 = .ok (.aload_n 0, 1) := by decide +kernel
theorem d_sk_halve_8 : decode prog_5_method_4_code 8 = .ok (.getfield 24, 3) := by decide +kernel
theorem d_sk_halve_11 : decode prog_5_method_4_code 11 = .ok (.iload_n 3, 1) := by decide +kernel
theorem d_sk_halve_12 : decode prog_5_method_4_code 12 = .ok (.iload_n 3, 1) := by decide +kernel
theorem d_sk_halve_13 : decode prog_5_method_4_code 13 = .ok (.iconst 1, 1) := by decide +kernel
theorem d_sk_halve_14 : decode prog_5_method_4_code 14 = .ok (.iand, 1) := by decide +kernel
theorem d_sk_halve_15 : decode prog_5_method_4_code 15 = .ok (.ifCond .ne 12, 3) := by decide +kernel
theorem d_sk_halve_18 : decode prog_5_method_4_code 18 = .ok (.aload_n 0, 1) := by decide +kernel
theorem d_sk_halve_19 : decode prog_5_method_4_code 19 = .ok (.getfield 15, 3) := by decide +kernel
theorem d_sk_halve_22 : decode prog_5_method_4_code 22 = .ok (.iload_n 3, 1) := by decide +kernel
theorem d_sk_halve_23 : decode prog_5_method_4_code 23 = .ok (.laload, 1) := by decide +kernel
theorem d_sk_halve_24 : decode prog_5_method_4_code 24 = .ok (.goto 13, 3) := by decide +kernel
theorem d_sk_halve_27 : decode prog_5_method_4_code 27 = .ok (.lconst 0, 1) := by decide +kernel
theorem d_sk_halve_28 : decode prog_5_method_4_code 28 = .ok (.aload_n 0, 1) := by decide +kernel
theorem d_sk_halve_29 : decode prog_5_method_4_code 29 = .ok (.getfield 15, 3) := by decide +kernel
theorem d_sk_halve_32 : decode prog_5_method_4_code 32 = .ok (.iload_n 3, 1) := by decide +kernel
theorem d_sk_halve_33 : decode prog_5_method_4_code 33 = .ok (.laload, 1) := by decide +kernel
theorem d_sk_halve_34 : decode prog_5_method_4_code 34 = .ok (.invokestatic 44, 3) := by decide +kernel
theorem d_sk_halve_37 : decode prog_5_method_4_code 37 = .ok (.lastore, 1) := by decide +kernel
theorem d_sk_halve_38 : decode prog_5_method_4_code 38 = .ok (.iinc 3 1, 3) := by decide +kernel
theorem d_sk_halve_41 : decode prog_5_method_4_code 41 = .ok (.goto (-39), 3) := by decide +kernel
theorem d_sk_halve_44 : decode prog_5_method_4_code 44 = .ok (.iconst 0, 1) := by decide +kernel
theorem d_sk_halve_45 : decode prog_5_method_4_code 45 = .ok (.istore_n 3, 1) := by decide +kernel
theorem d_sk_halve_46 : decode prog_5_method_4_code 46 = .ok (.iload_n 3, 1) := by decide +kernel
theorem d_sk_halve_47 : decode prog_5_method_4_code 47 = .ok (.iload_n 1, 1) := by decide +kernel
theorem d_sk_halve_48 : decode prog_5_method_4_code 48 = .ok (.if_icmp .gt 47, 3) := by decide +kernel
theorem d_sk_halve_51 : decode prog_5_method_4_code 51 = .ok (.aload_n 0, 1) := by decide +kernel
theorem d_sk_halve_52 : decode prog_5_method_4_code 52 = .ok (.getfield 18, 3) := by decide +kernel
theorem d_sk_halve_55 : decode prog_5_method_4_code 55 = .ok (.iload_n 3, 1) := by decide +kernel
theorem d_sk_halve_56 : decode prog_5_method_4_code 56 = .ok (.aload_n 0, 1) := by decide +kernel
theorem d_sk_halve_57 : decode prog_5_method_4_code 57 = .ok (.aload_n 0, 1) := by decide +kernel
theorem d_sk_halve_58 : decode prog_5_method_4_code 58 = .ok (.getfield 9, 3) := by decide +kernel
theorem d_sk_halve_61 : decode prog_5_method_4_code 61 = .ok (.iload_n 1, 1) := by decide +kernel
theorem d_sk_halve_62 : decode prog_5_method_4_code 62 = .ok (.iconst 2, 1) := by decide +kernel
theorem d_sk_halve_63 : decode prog_5_method_4_code 63 = .ok (.iload_n 3, 1) := by decide +kernel
theorem d_sk_halve_64 : decode prog_5_method_4_code 64 = .ok (.imul, 1) := by decide +kernel
theorem d_sk_halve_65 : decode prog_5_method_4_code 65 = .ok (.iload_n 2, 1) := by decide +kernel
theorem d_sk_halve_66 : decode prog_5_method_4_code 66 = .ok (.iadd, 1) := by decide +kernel
theorem d_sk_halve_67 : decode prog_5_method_4_code 67 = .ok (.invokevirtual 57, 3) := by decide +kernel
theorem d_sk_halve_70 : decode prog_5_method_4_code 70 = .ok (.lastore, 1) := by decide +kernel
theorem d_sk_halve_71 : decode prog_5_method_4_code 71 = .ok (.aload_n 0, 1) := by decide +kernel
theorem d_sk_halve_72 : decode prog_5_method_4_code 72 = .ok (.getfield 21, 3) := by decide +kernel
theorem d_sk_halve_75 : decode prog_5_method_4_code 75 = .ok (.iload_n 3, 1) := by decide +kernel
theorem d_sk_halve_76 : decode prog_5_method_4_code 76 = .ok (.aload_n 0, 1) := by decide +kernel
theorem d_sk_halve_77 : decode prog_5_method_4_code 77 = .ok (.aload_n 0, 1) := by decide +kernel
theorem d_sk_halve_78 : decode prog_5_method_4_code 78 = .ok (.getfield 15, 3) := by decide +kernel
theorem d_sk_halve_81 : decode prog_5_method_4_code 81 = .ok (.iload_n 1, 1) := by decide +kernel
theorem d_sk_halve_82 : decode prog_5_method_4_code 82 = .ok (.iconst 2, 1) := by decide +kernel
theorem d_sk_halve_83 : decode prog_5_method_4_code 83 = .ok (.iload_n 3, 1) := by decide +kernel
theorem d_sk_halve_84 : decode prog_5_method_4_code 84 = .ok (.imul, 1) := by decide +kernel
theorem d_sk_halve_85 : decode prog_5_method_4_code 85 = .ok (.invokevirtual 57, 3) := by decide +kernel
theorem d_sk_halve_88 : decode prog_5_method_4_code 88 = .ok (.lastore, 1) := by decide +kernel
theorem d_sk_halve_89 : decode prog_5_method_4_code 89 = .ok (.iinc 3 1, 3) := by decide +kernel
theorem d_sk_halve_92 : decode prog_5_method_4_code 92 = .ok (.goto (-46), 3) := by decide +kernel
theorem d_sk_halve_95 : decode prog_5_method_4_code 95 = .ok (.aload_n 0, 1) := by decide +kernel
theorem d_sk_halve_96 : decode prog_5_method_4_code 96 = .ok (.getfield 9, 3) := by decide +kernel
theorem d_sk_halve_99 : decode prog_5_method_4_code 99 = .ok (.astore_n 3, 1) := by decide +kernel
theorem d_sk_halve_100 : decode prog_5_method_4_code 100 = .ok (.aload_n 0, 1) := by decide +kernel
theorem d_sk_halve_101 : decode prog_5_method_4_code 101 = .ok (.aload_n 0, 1) := by decide +kernel
theorem d_sk_halve_102 : decode prog_5_method_4_code 102 = .ok (.getfield 18, 3) := by decide +kernel
theorem d_sk_halve_105 : decode prog_5_method_4_code 105 = .ok (.putfield 9, 3) := by decide +kernel
theorem d_sk_halve_108 : decode prog_5_method_4_code 108 = .ok (.aload_n 0, 1) := by decide +kernel
theorem d_sk_halve_109 : decode prog_5_method_4_code 109 = .ok (.aload_n 3, 1) := by decide +kernel
theorem d_sk_halve_110 : decode prog_5_method_4_code 110 = .ok (.putfield 18, 3) := by decide +kernel
theorem d_sk_halve_113 : decode prog_5_method_4_code 113 = .ok (.aload_n 0, 1) := by decide +kernel
theorem d_sk_halve_114 : decode prog_5_method_4_code 114 = .ok (.getfield 15, 3) := by decide +kernel
theorem d_sk_halve_117 : decode prog_5_method_4_code 117 = .ok (.astore_n 3, 1) := by decide +kernel
theorem d_sk_halve_118 : decode prog_5_method_4_code 118 = .ok (.aload_n 0, 1) := by decide +kernel
theorem d_sk_halve_119 : decode prog_5_method_4_code 119 = .ok (.aload_n 0, 1) := by decide +kernel
theorem d_sk_halve_120 : decode prog_5_method_4_code 120 = .ok (.getfield 21, 3) := by decide +kernel
theorem d_sk_halve_123 : decode prog_5_method_4_code 123 = .ok (.putfield 15, 3) := by decide +kernel
theorem d_sk_halve_126 : decode prog_5_method_4_code 126 = .ok (.aload_n 0, 1) := by decide +kernel
theorem d_sk_halve_127 : decode prog_5_method_4_code 127 = .ok (.aload_n 3, 1) := by decide +kernel
theorem d_sk_halve_128 : decode prog_5_method_4_code 128 = .ok (.putfield 21, 3) := by decide +kernel
theorem d_sk_halve_131 : decode prog_5_method_4_code 131 = .ok (.return_, 1) := by decide +kernel
theorem d_sk_timesMirrored_0 : decode prog_5_method_5_code 0 = .ok (.lconst 0, 1) := by decide +kernel
theorem d_sk_timesMirrored_1 : decode prog_5_method_5_code 1 = .ok (.lstore 4, 2) := by decide +kernel
theorem d_sk_timesMirrored_3 : decode prog_5_method_5_code 3 = .ok (.iconst 0, 1) := by decide +kernel
theorem d_sk_timesMirrored_4 : decode prog_5_method_5_code 4 = .ok (.iload_n 3, 1) := by decide +kernel
theorem d_sk_timesMirrored_5 : decode prog_5_method_5_code 5 = .ok (.iload_n 2, 1) := by decide +kernel
theorem d_sk_timesMirrored_6 : decode prog_5_method_5_code 6 = .ok (.isub, 1) := by decide +kernel
theorem d_sk_timesMirrored_7 : decode prog_5_method_5_code 7 = .ok (.invokestatic 61, 3) := by decide +kernel
theorem d_sk_timesMirrored_10 : decode prog_5_method_5_code 10 = .ok (.istore 6, 2) := by decide +kernel
theorem d_sk_timesMirrored_12 : decode prog_5_method_5_code 12 = .ok (.iload 6, 2) := by decide +kernel
theorem d_sk_timesMirrored_14 : decode prog_5_method_5_code 14 = .ok (.iload_n 2, 1) := by decide +kernel
theorem d_sk_timesMirrored_15 : decode prog_5_method_5_code 15 = .ok (.if_icmp .gt 35, 3) := by decide +kernel
theorem d_sk_timesMirrored_18 : decode prog_5_method_5_code 18 = .ok (.iload 6, 2) := by decide +kernel
theorem d_sk_timesMirrored_20 : decode prog_5_method_5_code 20 = .ok (.iload_n 3, 1) := by decide +kernel
theorem d_sk_timesMirrored_21 : decode prog_5_method_5_code 21 = .ok (.if_icmp .gt 29, 3) := by decide +kernel
theorem d_sk_timesMirrored_24 : decode prog_5_method_5_code 24 = .ok (.lload 4, 2) := by decide +kernel
theorem d_sk_timesMirrored_26 : decode prog_5_method_5_code 26 = .ok (.aload_n 1, 1) := by decide +kernel
theorem d_sk_timesMirrored_27 : decode prog_5_method_5_code 27 = .ok (.iload 6, 2) := by decide +kernel
theorem d_sk_timesMirrored_29 : decode prog_5_method_5_code 29 = .ok (.laload, 1) := by decide +kernel
theorem d_sk_timesMirrored_30 : decode prog_5_method_5_code 30 = .ok (.aload_n 0, 1) := by decide +kernel
theorem d_sk_timesMirrored_31 : decode prog_5_method_5_code 31 = .ok (.getfield 24, 3) := by decide +kernel
theorem d_sk_timesMirrored_34 : decode prog_5_method_5_code 34 = .ok (.iload_n 3, 1) := by decide +kernel
theorem d_sk_timesMirrored_35 : decode prog_5_method_5_code 35 = .ok (.iload 6, 2) := by decide +kernel
theorem d_sk_timesMirrored_37 : decode prog_5_method_5_code 37 = .ok (.isub, 1) := by decide +kernel
theorem d_sk_timesMirrored_38 : decode prog_5_method_5_code 38 = .ok (.laload, 1) := by decide +kernel
theorem d_sk_timesMirrored_39 : decode prog_5_method_5_code 39 = .ok (.invokestatic 67, 3) := by decide +kernel
theorem d_sk_timesMirrored_42 : decode prog_5_method_5_code 42 = .ok (.lstore 4, 2) := by decide +kernel
theorem d_sk_timesMirrored_44 : decode prog_5_method_5_code 44 = .ok (.iinc 6 1, 3) := by decide +kernel
theorem d_sk_timesMirrored_47 : decode prog_5_method_5_code 47 = .ok (.goto (-35), 3) := by decide +kernel
theorem d_sk_timesMirrored_50 : decode prog_5_method_5_code 50 = .ok (.lload 4, 2) := by decide +kernel
theorem d_sk_timesMirrored_52 : decode prog_5_method_5_code 52 = .ok (.lreturn, 1) := by decide +kernel
theorem d_se_init_0 : decode prog_6_method_1_code 0 = .ok (.aload_n 0, 1) := by decide +kernel
theorem d_se_init_1 : decode prog_6_method_1_code 1 = .ok (.invokespecial 3, 3) := by decide +kernel
theorem d_se_init_4 : decode prog_6_method_1_code 4 = .ok (.aload_n 0, 1) := by decide +kernel
theorem d_se_init_5 : decode prog_6_method_1_code 5 = .ok (.bipush 48, 2) := by decide +kernel
theorem d_se_init_7 : decode prog_6_method_1_code 7 = .ok (.newarray .long, 2) := by decide +kernel
theorem d_se_init_9 : decode prog_6_method_1_code 9 = .ok (.putfield 9, 3) := by decide +kernel
theorem d_se_init_12 : decode prog_6_method_1_code 12 = .ok (.aload_n 0, 1) := by decide +kernel
theorem d_se_init_13 : decode prog_6_method_1_code 13 = .ok (.bipush 88, 2) := by decide +kernel
theorem d_se_init_15 : decode prog_6_method_1_code 15 = .ok (.newarray .long, 2) := by decide +kernel
theorem d_se_init_17 : decode prog_6_method_1_code 17 = .ok (.putfield 15, 3) := by decide +kernel
theorem d_se_init_20 : decode prog_6_method_1_code 20 = .ok (.return_, 1) := by decide +kernel
theorem d_se_writeTerms_0 : decode prog_6_method_2_code 0 = .ok (.iconst 0, 1) := by decide +kernel
theorem d_se_writeTerms_1 : decode prog_6_method_2_code 1 = .ok (.istore_n 3, 1) := by decide +kernel
theorem d_se_writeTerms_2 : decode prog_6_method_2_code 2 = .ok (.iload_n 3, 1) := by decide +kernel
theorem d_se_writeTerms_3 : decode prog_6_method_2_code 3 = .ok (.iload_n 2, 1) := by decide +kernel
theorem d_se_writeTerms_4 : decode prog_6_method_2_code 4 = .ok (.if_icmp .ge 42, 3) := by decide +kernel
theorem d_se_writeTerms_7 : decode prog_6_method_2_code 7 = .ok (.aload_n 1, 1) := by decide +kernel
theorem d_se_writeTerms_8 : decode prog_6_method_2_code 8 = .ok (.iload_n 3, 1) := by decide +kernel
theorem d_se_writeTerms_9 : decode prog_6_method_2_code 9 = .ok (.iload_n 3, 1) := by decide +kernel
theorem d_se_writeTerms_10 : decode prog_6_method_2_code 10 = .ok (.aload_n 0, 1) := by decide +kernel
theorem d_se_writeTerms_11 : decode prog_6_method_2_code 11 = .ok (.getfield 18, 3) := by decide +kernel
theorem d_se_writeTerms_14 : decode prog_6_method_2_code 14 = .ok (.if_icmp .ge 12, 3) := by decide +kernel
theorem d_se_writeTerms_17 : decode prog_6_method_2_code 17 = .ok (.aload_n 0, 1) := by decide +kernel
theorem d_se_writeTerms_18 : decode prog_6_method_2_code 18 = .ok (.getfield 15, 3) := by decide +kernel
theorem d_se_writeTerms_21 : decode prog_6_method_2_code 21 = .ok (.iload_n 3, 1) := by decide +kernel
theorem d_se_writeTerms_22 : decode prog_6_method_2_code 22 = .ok (.laload, 1) := by decide +kernel
theorem d_se_writeTerms_23 : decode prog_6_method_2_code 23 = .ok (.goto 16, 3) := by decide +kernel
theorem d_se_writeTerms_26 : decode prog_6_method_2_code 26 = .ok (.aload_n 0, 1) := by decide +kernel
theorem d_se_writeTerms_27 : decode prog_6_method_2_code 27 = .ok (.getfield 9, 3) := by decide +kernel
theorem d_se_writeTerms_30 : decode prog_6_method_2_code 30 = .ok (.aload_n 0, 1) := by decide +kernel
theorem d_se_writeTerms_31 : decode prog_6_method_2_code 31 = .ok (.getfield 18, 3) := by decide +kernel
theorem d_se_writeTerms_34 : decode prog_6_method_2_code 34 = .ok (.aload_n 1, 1) := by decide +kernel
theorem d_se_writeTerms_35 : decode prog_6_method_2_code 35 = .ok (.iload_n 3, 1) := by decide +kernel
theorem d_se_writeTerms_36 : decode prog_6_method_2_code 36 = .ok (.invokestatic 22, 3) := by decide +kernel
theorem d_se_writeTerms_39 : decode prog_6_method_2_code 39 = .ok (.lastore, 1) := by decide +kernel
theorem d_se_writeTerms_40 : decode prog_6_method_2_code 40 = .ok (.iinc 3 1, 3) := by decide +kernel
theorem d_se_writeTerms_43 : decode prog_6_method_2_code 43 = .ok (.goto (-41), 3) := by decide +kernel
theorem d_se_writeTerms_46 : decode prog_6_method_2_code 46 = .ok (.return_, 1) := by decide +kernel
theorem d_ma_max_0 : decode prog_9_method_65_code 0 = .ok (.iload_n 0, 1) := by decide +kernel
theorem d_ma_max_1 : decode prog_9_method_65_code 1 = .ok (.iload_n 1, 1) := by decide +kernel
theorem d_ma_max_2 : decode prog_9_method_65_code 2 = .ok (.if_icmp .lt 7, 3) := by decide +kernel
theorem d_ma_max_5 : decode prog_9_method_65_code 5 = .ok (.iload_n 0, 1) := by decide +kernel
theorem d_ma_max_6 : decode prog_9_method_65_code 6 = .ok (.goto 4, 3) := by decide +kernel
theorem d_ma_max_9 : decode prog_9_method_65_code 9 = .ok (.iload_n 1, 1) := by decide +kernel
theorem d_ma_max_10 : decode prog_9_method_65_code 10 = .ok (.ireturn, 1) := by decide +kernel
end
section
/-! Decode rows, by program -/
theorem d_rs_init_0 : decode prog_1_method_1_code 0 = .ok (.aload_n 0, 1) := by decide +kernel
theorem d_rs_init_1 : decode prog_1_method_1_code 1 = .ok (.invokespecial 3, 3) := by decide +kernel
theorem d_rs_init_4 : decode prog_1_method_1_code 4 = .ok (.aload_n 0, 1) := by decide +kernel
theorem d_rs_init_5 : decode prog_1_method_1_code 5 = .ok (.bipush 20, 2) := by decide +kernel
theorem d_rs_init_7 : decode prog_1_method_1_code 7 = .ok (.anewarray 9, 3) := by decide +kernel
theorem d_rs_init_10 : decode prog_1_method_1_code 10 = .ok (.putfield 11, 3) := by decide +kernel
theorem d_rs_init_13 : decode prog_1_method_1_code 13 = .ok (.aload_n 0, 1) := by decide +kernel
theorem d_rs_init_14 : decode prog_1_method_1_code 14 = .ok (.bipush 40, 2) := by decide +kernel
theorem d_rs_init_16 : decode prog_1_method_1_code 16 = .ok (.newarray .long, 2) := by decide +kernel
theorem d_rs_init_18 : decode prog_1_method_1_code 18 = .ok (.putfield 15, 3) := by decide +kernel
theorem d_rs_init_21 : decode prog_1_method_1_code 21 = .ok (.aload_n 0, 1) := by decide +kernel
theorem d_rs_init_22 : decode prog_1_method_1_code 22 = .ok (.bipush 48, 2) := by decide +kernel
theorem d_rs_init_24 : decode prog_1_method_1_code 24 = .ok (.newarray .long, 2) := by decide +kernel
theorem d_rs_init_26 : decode prog_1_method_1_code 26 = .ok (.putfield 19, 3) := by decide +kernel
theorem d_rs_init_29 : decode prog_1_method_1_code 29 = .ok (.aload_n 0, 1) := by decide +kernel
theorem d_rs_init_30 : decode prog_1_method_1_code 30 = .ok (.sipush 2129, 3) := by decide +kernel
theorem d_rs_init_33 : decode prog_1_method_1_code 33 = .ok (.newarray .long, 2) := by decide +kernel
theorem d_rs_init_35 : decode prog_1_method_1_code 35 = .ok (.putfield 22, 3) := by decide +kernel
theorem d_rs_init_38 : decode prog_1_method_1_code 38 = .ok (.aload_n 0, 1) := by decide +kernel
theorem d_rs_init_39 : decode prog_1_method_1_code 39 = .ok (.new 25, 3) := by decide +kernel
theorem d_rs_init_42 : decode prog_1_method_1_code 42 = .ok (.dup, 1) := by decide +kernel
theorem d_rs_init_43 : decode prog_1_method_1_code 43 = .ok (.invokespecial 27, 3) := by decide +kernel
theorem d_rs_init_46 : decode prog_1_method_1_code 46 = .ok (.putfield 28, 3) := by decide +kernel
theorem d_rs_init_49 : decode prog_1_method_1_code 49 = .ok (.aload_n 0, 1) := by decide +kernel
theorem d_rs_init_50 : decode prog_1_method_1_code 50 = .ok (.new 32, 3) := by decide +kernel
theorem d_rs_init_53 : decode prog_1_method_1_code 53 = .ok (.dup, 1) := by decide +kernel
theorem d_rs_init_54 : decode prog_1_method_1_code 54 = .ok (.invokespecial 34, 3) := by decide +kernel
theorem d_rs_init_57 : decode prog_1_method_1_code 57 = .ok (.putfield 35, 3) := by decide +kernel
theorem d_rs_init_60 : decode prog_1_method_1_code 60 = .ok (.aload_n 0, 1) := by decide +kernel
theorem d_rs_init_61 : decode prog_1_method_1_code 61 = .ok (.new 39, 3) := by decide +kernel
theorem d_rs_init_64 : decode prog_1_method_1_code 64 = .ok (.dup, 1) := by decide +kernel
theorem d_rs_init_65 : decode prog_1_method_1_code 65 = .ok (.invokespecial 41, 3) := by decide +kernel
theorem d_rs_init_68 : decode prog_1_method_1_code 68 = .ok (.putfield 42, 3) := by decide +kernel
theorem d_rs_init_71 : decode prog_1_method_1_code 71 = .ok (.iconst 0, 1) := by decide +kernel
theorem d_rs_init_72 : decode prog_1_method_1_code 72 = .ok (.istore_n 1, 1) := by decide +kernel
theorem d_rs_init_73 : decode prog_1_method_1_code 73 = .ok (.iload_n 1, 1) := by decide +kernel
theorem d_rs_init_74 : decode prog_1_method_1_code 74 = .ok (.bipush 20, 2) := by decide +kernel
theorem d_rs_init_76 : decode prog_1_method_1_code 76 = .ok (.if_icmp .ge 22, 3) := by decide +kernel
theorem d_rs_init_79 : decode prog_1_method_1_code 79 = .ok (.aload_n 0, 1) := by decide +kernel
theorem d_rs_init_80 : decode prog_1_method_1_code 80 = .ok (.getfield 11, 3) := by decide +kernel
theorem d_rs_init_83 : decode prog_1_method_1_code 83 = .ok (.iload_n 1, 1) := by decide +kernel
theorem d_rs_init_84 : decode prog_1_method_1_code 84 = .ok (.new 9, 3) := by decide +kernel
theorem d_rs_init_87 : decode prog_1_method_1_code 87 = .ok (.dup, 1) := by decide +kernel
theorem d_rs_init_88 : decode prog_1_method_1_code 88 = .ok (.invokespecial 46, 3) := by decide +kernel
theorem d_rs_init_91 : decode prog_1_method_1_code 91 = .ok (.aastore, 1) := by decide +kernel
theorem d_rs_init_92 : decode prog_1_method_1_code 92 = .ok (.iinc 1 1, 3) := by decide +kernel
theorem d_rs_init_95 : decode prog_1_method_1_code 95 = .ok (.goto (-22), 3) := by decide +kernel
theorem d_rs_init_98 : decode prog_1_method_1_code 98 = .ok (.aload_n 0, 1) := by decide +kernel
theorem d_rs_init_99 : decode prog_1_method_1_code 99 = .ok (.iconst 0, 1) := by decide +kernel
theorem d_rs_init_100 : decode prog_1_method_1_code 100 = .ok (.putfield 47, 3) := by decide +kernel
theorem d_rs_init_103 : decode prog_1_method_1_code 103 = .ok (.aload_n 0, 1) := by decide +kernel
theorem d_rs_init_104 : decode prog_1_method_1_code 104 = .ok (.iconst 0, 1) := by decide +kernel
theorem d_rs_init_105 : decode prog_1_method_1_code 105 = .ok (.putfield 51, 3) := by decide +kernel
theorem d_rs_init_108 : decode prog_1_method_1_code 108 = .ok (.return_, 1) := by decide +kernel
theorem d_rs_give_0 : decode prog_1_method_2_code 0 = .ok (.aload_n 0, 1) := by decide +kernel
theorem d_rs_give_1 : decode prog_1_method_2_code 1 = .ok (.getfield 51, 3) := by decide +kernel
theorem d_rs_give_4 : decode prog_1_method_2_code 4 = .ok (.bipush 40, 2) := by decide +kernel
theorem d_rs_give_6 : decode prog_1_method_2_code 6 = .ok (.if_icmp .lt 5, 3) := by decide +kernel
theorem d_rs_give_9 : decode prog_1_method_2_code 9 = .ok (.iconst 0, 1) := by decide +kernel
theorem d_rs_give_10 : decode prog_1_method_2_code 10 = .ok (.ireturn, 1) := by decide +kernel
theorem d_rs_give_11 : decode prog_1_method_2_code 11 = .ok (.aload_n 0, 1) := by decide +kernel
theorem d_rs_give_12 : decode prog_1_method_2_code 12 = .ok (.getfield 15, 3) := by decide +kernel
theorem d_rs_give_15 : decode prog_1_method_2_code 15 = .ok (.aload_n 0, 1) := by decide +kernel
theorem d_rs_give_16 : decode prog_1_method_2_code 16 = .ok (.getfield 51, 3) := by decide +kernel
theorem d_rs_give_19 : decode prog_1_method_2_code 19 = .ok (.iload_n 1, 1) := by decide +kernel
theorem d_rs_give_20 : decode prog_1_method_2_code 20 = .ok (.invokestatic 54, 3) := by decide +kernel
theorem d_rs_give_23 : decode prog_1_method_2_code 23 = .ok (.lastore, 1) := by decide +kernel
theorem d_rs_give_24 : decode prog_1_method_2_code 24 = .ok (.aload_n 0, 1) := by decide +kernel
theorem d_rs_give_25 : decode prog_1_method_2_code 25 = .ok (.dup, 1) := by decide +kernel
theorem d_rs_give_26 : decode prog_1_method_2_code 26 = .ok (.getfield 51, 3) := by decide +kernel
theorem d_rs_give_29 : decode prog_1_method_2_code 29 = .ok (.iconst 1, 1) := by decide +kernel
theorem d_rs_give_30 : decode prog_1_method_2_code 30 = .ok (.iadd, 1) := by decide +kernel
theorem d_rs_give_31 : decode prog_1_method_2_code 31 = .ok (.putfield 51, 3) := by decide +kernel
theorem d_rs_give_34 : decode prog_1_method_2_code 34 = .ok (.iconst 1, 1) := by decide +kernel
theorem d_rs_give_35 : decode prog_1_method_2_code 35 = .ok (.ireturn, 1) := by decide +kernel
theorem d_rs_clear_0 : decode prog_1_method_3_code 0 = .ok (.aload_n 0, 1) := by decide +kernel
theorem d_rs_clear_1 : decode prog_1_method_3_code 1 = .ok (.getfield 51, 3) := by decide +kernel
theorem d_rs_clear_4 : decode prog_1_method_3_code 4 = .ok (.istore_n 1, 1) := by decide +kernel
theorem d_rs_clear_5 : decode prog_1_method_3_code 5 = .ok (.aload_n 0, 1) := by decide +kernel
theorem d_rs_clear_6 : decode prog_1_method_3_code 6 = .ok (.iconst 0, 1) := by decide +kernel
theorem d_rs_clear_7 : decode prog_1_method_3_code 7 = .ok (.putfield 51, 3) := by decide +kernel
theorem d_rs_clear_10 : decode prog_1_method_3_code 10 = .ok (.iload_n 1, 1) := by decide +kernel
theorem d_rs_clear_11 : decode prog_1_method_3_code 11 = .ok (.ireturn, 1) := by decide +kernel
theorem d_rs_leaf_0 : decode prog_1_method_4_code 0 = .ok (.iload_n 1, 1) := by decide +kernel
theorem d_rs_leaf_1 : decode prog_1_method_4_code 1 = .ok (.ifCond .lt 19, 3) := by decide +kernel
theorem d_rs_leaf_4 : decode prog_1_method_4_code 4 = .ok (.iload_n 1, 1) := by decide +kernel
theorem d_rs_leaf_5 : decode prog_1_method_4_code 5 = .ok (.bipush 12, 2) := by decide +kernel
theorem d_rs_leaf_7 : decode prog_1_method_4_code 7 = .ok (.if_icmp .gt 13, 3) := by decide +kernel
theorem d_rs_leaf_10 : decode prog_1_method_4_code 10 = .ok (.aload_n 0, 1) := by decide +kernel
theorem d_rs_leaf_11 : decode prog_1_method_4_code 11 = .ok (.getfield 51, 3) := by decide +kernel
theorem d_rs_leaf_14 : decode prog_1_method_4_code 14 = .ok (.iconst 2, 1) := by decide +kernel
theorem d_rs_leaf_15 : decode prog_1_method_4_code 15 = .ok (.iload_n 1, 1) := by decide +kernel
theorem d_rs_leaf_16 : decode prog_1_method_4_code 16 = .ok (.imul, 1) := by decide +kernel
theorem d_rs_leaf_17 : decode prog_1_method_4_code 17 = .ok (.if_icmp .ge 5, 3) := by decide +kernel
theorem d_rs_leaf_20 : decode prog_1_method_4_code 20 = .ok (.iconst (-1), 1) := by decide +kernel
theorem d_rs_leaf_21 : decode prog_1_method_4_code 21 = .ok (.ireturn, 1) := by decide +kernel
theorem d_rs_leaf_22 : decode prog_1_method_4_code 22 = .ok (.aload_n 0, 1) := by decide +kernel
theorem d_rs_leaf_23 : decode prog_1_method_4_code 23 = .ok (.iload_n 1, 1) := by decide +kernel
theorem d_rs_leaf_24 : decode prog_1_method_4_code 24 = .ok (.invokevirtual 60, 3) := by decide +kernel
theorem d_rs_leaf_27 : decode prog_1_method_4_code 27 = .ok (.istore_n 2, 1) := by decide +kernel
theorem d_rs_leaf_28 : decode prog_1_method_4_code 28 = .ok (.iload_n 2, 1) := by decide +kernel
theorem d_rs_leaf_29 : decode prog_1_method_4_code 29 = .ok (.ifCond .ge 5, 3) := by decide +kernel
theorem d_rs_leaf_32 : decode prog_1_method_4_code 32 = .ok (.iload_n 2, 1) := by decide +kernel
theorem d_rs_leaf_33 : decode prog_1_method_4_code 33 = .ok (.ireturn, 1) := by decide +kernel
theorem d_rs_leaf_34 : decode prog_1_method_4_code 34 = .ok (.aload_n 0, 1) := by decide +kernel
theorem d_rs_leaf_35 : decode prog_1_method_4_code 35 = .ok (.iload_n 1, 1) := by decide +kernel
theorem d_rs_leaf_36 : decode prog_1_method_4_code 36 = .ok (.invokevirtual 64, 3) := by decide +kernel
theorem d_rs_leaf_39 : decode prog_1_method_4_code 39 = .ok (.ifCond .ne 6, 3) := by decide +kernel
theorem d_rs_leaf_42 : decode prog_1_method_4_code 42 = .ok (.bipush (-4), 2) := by decide +kernel
theorem d_rs_leaf_44 : decode prog_1_method_4_code 44 = .ok (.ireturn, 1) := by decide +kernel
theorem d_rs_leaf_45 : decode prog_1_method_4_code 45 = .ok (.iconst 0, 1) := by decide +kernel
theorem d_rs_leaf_46 : decode prog_1_method_4_code 46 = .ok (.istore_n 3, 1) := by decide +kernel
theorem d_rs_leaf_47 : decode prog_1_method_4_code 47 = .ok (.iload_n 3, 1) := by decide +kernel
theorem d_rs_leaf_48 : decode prog_1_method_4_code 48 = .ok (.iload_n 1, 1) := by decide +kernel
theorem d_rs_leaf_49 : decode prog_1_method_4_code 49 = .ok (.if_icmp .ge 23, 3) := by decide +kernel
theorem d_rs_leaf_52 : decode prog_1_method_4_code 52 = .ok (.aload_n 0, 1) := by decide +kernel
theorem d_rs_leaf_53 : decode prog_1_method_4_code 53 = .ok (.getfield 19, 3) := by decide +kernel
theorem d_rs_leaf_56 : decode prog_1_method_4_code 56 = .ok (.iload_n 3, 1) := by decide +kernel
theorem d_rs_leaf_57 : decode prog_1_method_4_code 57 = .ok (.aload_n 0, 1) := by decide +kernel
theorem d_rs_leaf_58 : decode prog_1_method_4_code 58 = .ok (.getfield 15, 3) := by decide +kernel
theorem d_rs_leaf_61 : decode prog_1_method_4_code 61 = .ok (.iload_n 1, 1) := by decide +kernel
theorem d_rs_leaf_62 : decode prog_1_method_4_code 62 = .ok (.iload_n 3, 1) := by decide +kernel
theorem d_rs_leaf_63 : decode prog_1_method_4_code 63 = .ok (.iadd, 1) := by decide +kernel
theorem d_rs_leaf_64 : decode prog_1_method_4_code 64 = .ok (.laload, 1) := by decide +kernel
theorem d_rs_leaf_65 : decode prog_1_method_4_code 65 = .ok (.lastore, 1) := by decide +kernel
theorem d_rs_leaf_66 : decode prog_1_method_4_code 66 = .ok (.iinc 3 1, 3) := by decide +kernel
theorem d_rs_leaf_69 : decode prog_1_method_4_code 69 = .ok (.goto (-22), 3) := by decide +kernel
theorem d_rs_leaf_72 : decode prog_1_method_4_code 72 = .ok (.iload_n 1, 1) := by decide +kernel
theorem d_rs_leaf_73 : decode prog_1_method_4_code 73 = .ok (.istore_n 3, 1) := by decide +kernel
theorem d_rs_leaf_74 : decode prog_1_method_4_code 74 = .ok (.iload_n 3, 1) := by decide +kernel
theorem d_rs_leaf_75 : decode prog_1_method_4_code 75 = .ok (.iconst 2, 1) := by decide +kernel
theorem d_rs_leaf_76 : decode prog_1_method_4_code 76 = .ok (.iload_n 1, 1) := by decide +kernel
theorem d_rs_leaf_77 : decode prog_1_method_4_code 77 = .ok (.imul, 1) := by decide +kernel
theorem d_rs_leaf_78 : decode prog_1_method_4_code 78 = .ok (.if_icmp .ge 28, 3) := by decide +kernel
theorem d_rs_leaf_81 : decode prog_1_method_4_code 81 = .ok (.aload_n 0, 1) := by decide +kernel
theorem d_rs_leaf_82 : decode prog_1_method_4_code 82 = .ok (.getfield 19, 3) := by decide +kernel
theorem d_rs_leaf_85 : decode prog_1_method_4_code 85 = .ok (.iload_n 3, 1) := by decide +kernel
theorem d_rs_leaf_86 : decode prog_1_method_4_code 86 = .ok (.aload_n 0, 1) := by decide +kernel
theorem d_rs_leaf_87 : decode prog_1_method_4_code 87 = .ok (.getfield 15, 3) := by decide +kernel
theorem d_rs_leaf_90 : decode prog_1_method_4_code 90 = .ok (.iload_n 1, 1) := by decide +kernel
theorem d_rs_leaf_91 : decode prog_1_method_4_code 91 = .ok (.aload_n 0, 1) := by decide +kernel
theorem d_rs_leaf_92 : decode prog_1_method_4_code 92 = .ok (.getfield 19, 3) := by decide +kernel
theorem d_rs_leaf_95 : decode prog_1_method_4_code 95 = .ok (.iload_n 3, 1) := by decide +kernel
theorem d_rs_leaf_96 : decode prog_1_method_4_code 96 = .ok (.invokestatic 68, 3) := by decide +kernel
theorem d_rs_leaf_99 : decode prog_1_method_4_code 99 = .ok (.lastore, 1) := by decide +kernel
theorem d_rs_leaf_100 : decode prog_1_method_4_code 100 = .ok (.iinc 3 1, 3) := by decide +kernel
theorem d_rs_leaf_103 : decode prog_1_method_4_code 103 = .ok (.goto (-29), 3) := by decide +kernel
theorem d_rs_leaf_106 : decode prog_1_method_4_code 106 = .ok (.aload_n 0, 1) := by decide +kernel
theorem d_rs_leaf_107 : decode prog_1_method_4_code 107 = .ok (.iconst 0, 1) := by decide +kernel
theorem d_rs_leaf_108 : decode prog_1_method_4_code 108 = .ok (.putfield 51, 3) := by decide +kernel
theorem d_rs_leaf_111 : decode prog_1_method_4_code 111 = .ok (.aload_n 0, 1) := by decide +kernel
theorem d_rs_leaf_112 : decode prog_1_method_4_code 112 = .ok (.iload_n 1, 1) := by decide +kernel
theorem d_rs_leaf_113 : decode prog_1_method_4_code 113 = .ok (.invokevirtual 72, 3) := by decide +kernel
theorem d_rs_leaf_116 : decode prog_1_method_4_code 116 = .ok (.ireturn, 1) := by decide +kernel
theorem d_rs_combine_0 : decode prog_1_method_5_code 0 = .ok (.aload_n 0, 1) := by decide +kernel
theorem d_rs_combine_1 : decode prog_1_method_5_code 1 = .ok (.iload_n 1, 1) := by decide +kernel
theorem d_rs_combine_2 : decode prog_1_method_5_code 2 = .ok (.invokevirtual 75, 3) := by decide +kernel
theorem d_rs_combine_5 : decode prog_1_method_5_code 5 = .ok (.ifCond .eq 11, 3) := by decide +kernel
theorem d_rs_combine_8 : decode prog_1_method_5_code 8 = .ok (.aload_n 0, 1) := by decide +kernel
theorem d_rs_combine_9 : decode prog_1_method_5_code 9 = .ok (.iload_n 2, 1) := by decide +kernel
theorem d_rs_combine_10 : decode prog_1_method_5_code 10 = .ok (.invokevirtual 75, 3) := by decide +kernel
theorem d_rs_combine_13 : decode prog_1_method_5_code 13 = .ok (.ifCond .ne 5, 3) := by decide +kernel
theorem d_rs_combine_16 : decode prog_1_method_5_code 16 = .ok (.iconst (-1), 1) := by decide +kernel
theorem d_rs_combine_17 : decode prog_1_method_5_code 17 = .ok (.ireturn, 1) := by decide +kernel
theorem d_rs_combine_18 : decode prog_1_method_5_code 18 = .ok (.aload_n 0, 1) := by decide +kernel
theorem d_rs_combine_19 : decode prog_1_method_5_code 19 = .ok (.getfield 11, 3) := by decide +kernel
theorem d_rs_combine_22 : decode prog_1_method_5_code 22 = .ok (.iload_n 1, 1) := by decide +kernel
theorem d_rs_combine_23 : decode prog_1_method_5_code 23 = .ok (.aaload, 1) := by decide +kernel
theorem d_rs_combine_24 : decode prog_1_method_5_code 24 = .ok (.astore 5, 2) := by decide +kernel
theorem d_rs_combine_26 : decode prog_1_method_5_code 26 = .ok (.aload_n 0, 1) := by decide +kernel
theorem d_rs_combine_27 : decode prog_1_method_5_code 27 = .ok (.getfield 11, 3) := by decide +kernel
theorem d_rs_combine_30 : decode prog_1_method_5_code 30 = .ok (.iload_n 2, 1) := by decide +kernel
theorem d_rs_combine_31 : decode prog_1_method_5_code 31 = .ok (.aaload, 1) := by decide +kernel
theorem d_rs_combine_32 : decode prog_1_method_5_code 32 = .ok (.astore 6, 2) := by decide +kernel
theorem d_rs_combine_34 : decode prog_1_method_5_code 34 = .ok (.aload 5, 2) := by decide +kernel
theorem d_rs_combine_36 : decode prog_1_method_5_code 36 = .ok (.getfield 78, 3) := by decide +kernel
theorem d_rs_combine_39 : decode prog_1_method_5_code 39 = .ok (.aload 6, 2) := by decide +kernel
theorem d_rs_combine_41 : decode prog_1_method_5_code 41 = .ok (.getfield 78, 3) := by decide +kernel
theorem d_rs_combine_44 : decode prog_1_method_5_code 44 = .ok (.iadd, 1) := by decide +kernel
theorem d_rs_combine_45 : decode prog_1_method_5_code 45 = .ok (.istore 7, 2) := by decide +kernel
theorem d_rs_combine_47 : decode prog_1_method_5_code 47 = .ok (.aload_n 0, 1) := by decide +kernel
theorem d_rs_combine_48 : decode prog_1_method_5_code 48 = .ok (.iload 7, 2) := by decide +kernel
theorem d_rs_combine_50 : decode prog_1_method_5_code 50 = .ok (.invokevirtual 60, 3) := by decide +kernel
theorem d_rs_combine_53 : decode prog_1_method_5_code 53 = .ok (.istore 8, 2) := by decide +kernel
theorem d_rs_combine_55 : decode prog_1_method_5_code 55 = .ok (.iload 8, 2) := by decide +kernel
theorem d_rs_combine_57 : decode prog_1_method_5_code 57 = .ok (.ifCond .ge 6, 3) := by decide +kernel
theorem d_rs_combine_60 : decode prog_1_method_5_code 60 = .ok (.iload 8, 2) := by decide +kernel
theorem d_rs_combine_62 : decode prog_1_method_5_code 62 = .ok (.ireturn, 1) := by decide +kernel
theorem d_rs_combine_63 : decode prog_1_method_5_code 63 = .ok (.iload_n 3, 1) := by decide +kernel
theorem d_rs_combine_64 : decode prog_1_method_5_code 64 = .ok (.invokestatic 54, 3) := by decide +kernel
theorem d_rs_combine_67 : decode prog_1_method_5_code 67 = .ok (.lstore 9, 2) := by decide +kernel
theorem d_rs_combine_69 : decode prog_1_method_5_code 69 = .ok (.iload 4, 2) := by decide +kernel
theorem d_rs_combine_71 : decode prog_1_method_5_code 71 = .ok (.invokestatic 54, 3) := by decide +kernel
theorem d_rs_combine_74 : decode prog_1_method_5_code 74 = .ok (.lstore 11, 2) := by decide +kernel
theorem d_rs_combine_76 : decode prog_1_method_5_code 76 = .ok (.iconst 0, 1) := by decide +kernel
theorem d_rs_combine_77 : decode prog_1_method_5_code 77 = .ok (.istore 13, 2) := by decide +kernel
theorem d_rs_combine_79 : decode prog_1_method_5_code 79 = .ok (.iload 13, 2) := by decide +kernel
theorem d_rs_combine_81 : decode prog_1_method_5_code 81 = .ok (.iconst 2, 1) := by decide +kernel
theorem d_rs_combine_82 : decode prog_1_method_5_code 82 = .ok (.iload 7, 2) := by decide +kernel
theorem d_rs_combine_84 : decode prog_1_method_5_code 84 = .ok (.imul, 1) := by decide +kernel
theorem d_rs_combine_85 : decode prog_1_method_5_code 85 = .ok (.if_icmp .ge 42, 3) := by decide +kernel
theorem d_rs_combine_88 : decode prog_1_method_5_code 88 = .ok (.aload_n 0, 1) := by decide +kernel
theorem d_rs_combine_89 : decode prog_1_method_5_code 89 = .ok (.getfield 19, 3) := by decide +kernel
theorem d_rs_combine_92 : decode prog_1_method_5_code 92 = .ok (.iload 13, 2) := by decide +kernel
theorem d_rs_combine_94 : decode prog_1_method_5_code 94 = .ok (.lload 9, 2) := by decide +kernel
theorem d_rs_combine_96 : decode prog_1_method_5_code 96 = .ok (.aload 5, 2) := by decide +kernel
theorem d_rs_combine_98 : decode prog_1_method_5_code 98 = .ok (.getfield 81, 3) := by decide +kernel
theorem d_rs_combine_101 : decode prog_1_method_5_code 101 = .ok (.iload 13, 2) := by decide +kernel
theorem d_rs_combine_103 : decode prog_1_method_5_code 103 = .ok (.laload, 1) := by decide +kernel
theorem d_rs_combine_104 : decode prog_1_method_5_code 104 = .ok (.invokestatic 84, 3) := by decide +kernel
theorem d_rs_combine_107 : decode prog_1_method_5_code 107 = .ok (.lload 11, 2) := by decide +kernel
theorem d_rs_combine_109 : decode prog_1_method_5_code 109 = .ok (.aload 6, 2) := by decide +kernel
theorem d_rs_combine_111 : decode prog_1_method_5_code 111 = .ok (.getfield 81, 3) := by decide +kernel
theorem d_rs_combine_114 : decode prog_1_method_5_code 114 = .ok (.iload 13, 2) := by decide +kernel
theorem d_rs_combine_116 : decode prog_1_method_5_code 116 = .ok (.laload, 1) := by decide +kernel
theorem d_rs_combine_117 : decode prog_1_method_5_code 117 = .ok (.invokestatic 88, 3) := by decide +kernel
theorem d_rs_combine_120 : decode prog_1_method_5_code 120 = .ok (.lastore, 1) := by decide +kernel
theorem d_rs_combine_121 : decode prog_1_method_5_code 121 = .ok (.iinc 13 1, 3) := by decide +kernel
theorem d_rs_combine_124 : decode prog_1_method_5_code 124 = .ok (.goto (-45), 3) := by decide +kernel
theorem d_rs_combine_127 : decode prog_1_method_5_code 127 = .ok (.aload_n 0, 1) := by decide +kernel
theorem d_rs_combine_128 : decode prog_1_method_5_code 128 = .ok (.iload 7, 2) := by decide +kernel
theorem d_rs_combine_130 : decode prog_1_method_5_code 130 = .ok (.invokevirtual 72, 3) := by decide +kernel
theorem d_rs_combine_133 : decode prog_1_method_5_code 133 = .ok (.ireturn, 1) := by decide +kernel
theorem d_rs_product_0 : decode prog_1_method_6_code 0 = .ok (.aload_n 0, 1) := by decide +kernel
theorem d_rs_product_1 : decode prog_1_method_6_code 1 = .ok (.iload_n 1, 1) := by decide +kernel
theorem d_rs_product_2 : decode prog_1_method_6_code 2 = .ok (.invokevirtual 75, 3) := by decide +kernel
theorem d_rs_product_5 : decode prog_1_method_6_code 5 = .ok (.ifCond .eq 11, 3) := by decide +kernel
theorem d_rs_product_8 : decode prog_1_method_6_code 8 = .ok (.aload_n 0, 1) := by decide +kernel
theorem d_rs_product_9 : decode prog_1_method_6_code 9 = .ok (.iload_n 2, 1) := by decide +kernel
theorem d_rs_product_10 : decode prog_1_method_6_code 10 = .ok (.invokevirtual 75, 3) := by decide +kernel
theorem d_rs_product_13 : decode prog_1_method_6_code 13 = .ok (.ifCond .ne 5, 3) := by decide +kernel
theorem d_rs_product_16 : decode prog_1_method_6_code 16 = .ok (.iconst (-1), 1) := by decide +kernel
theorem d_rs_product_17 : decode prog_1_method_6_code 17 = .ok (.ireturn, 1) := by decide +kernel
theorem d_rs_product_18 : decode prog_1_method_6_code 18 = .ok (.aload_n 0, 1) := by decide +kernel
theorem d_rs_product_19 : decode prog_1_method_6_code 19 = .ok (.getfield 11, 3) := by decide +kernel
theorem d_rs_product_22 : decode prog_1_method_6_code 22 = .ok (.iload_n 1, 1) := by decide +kernel
theorem d_rs_product_23 : decode prog_1_method_6_code 23 = .ok (.aaload, 1) := by decide +kernel
theorem d_rs_product_24 : decode prog_1_method_6_code 24 = .ok (.astore_n 3, 1) := by decide +kernel
theorem d_rs_product_25 : decode prog_1_method_6_code 25 = .ok (.aload_n 0, 1) := by decide +kernel
theorem d_rs_product_26 : decode prog_1_method_6_code 26 = .ok (.getfield 11, 3) := by decide +kernel
theorem d_rs_product_29 : decode prog_1_method_6_code 29 = .ok (.iload_n 2, 1) := by decide +kernel
theorem d_rs_product_30 : decode prog_1_method_6_code 30 = .ok (.aaload, 1) := by decide +kernel
theorem d_rs_product_31 : decode prog_1_method_6_code 31 = .ok (.astore 4, 2) := by decide +kernel
theorem d_rs_product_33 : decode prog_1_method_6_code 33 = .ok (.aload_n 3, 1) := by decide +kernel
theorem d_rs_product_34 : decode prog_1_method_6_code 34 = .ok (.getfield 78, 3) := by decide +kernel
theorem d_rs_product_37 : decode prog_1_method_6_code 37 = .ok (.aload 4, 2) := by decide +kernel
theorem d_rs_product_39 : decode prog_1_method_6_code 39 = .ok (.getfield 78, 3) := by decide +kernel
theorem d_rs_product_42 : decode prog_1_method_6_code 42 = .ok (.iadd, 1) := by decide +kernel
theorem d_rs_product_43 : decode prog_1_method_6_code 43 = .ok (.istore 5, 2) := by decide +kernel
theorem d_rs_product_45 : decode prog_1_method_6_code 45 = .ok (.aload_n 0, 1) := by decide +kernel
theorem d_rs_product_46 : decode prog_1_method_6_code 46 = .ok (.iload 5, 2) := by decide +kernel
theorem d_rs_product_48 : decode prog_1_method_6_code 48 = .ok (.invokevirtual 60, 3) := by decide +kernel
theorem d_rs_product_51 : decode prog_1_method_6_code 51 = .ok (.istore 6, 2) := by decide +kernel
theorem d_rs_product_53 : decode prog_1_method_6_code 53 = .ok (.iload 6, 2) := by decide +kernel
theorem d_rs_product_55 : decode prog_1_method_6_code 55 = .ok (.ifCond .ge 6, 3) := by decide +kernel
theorem d_rs_product_58 : decode prog_1_method_6_code 58 = .ok (.iload 6, 2) := by decide +kernel
theorem d_rs_product_60 : decode prog_1_method_6_code 60 = .ok (.ireturn, 1) := by decide +kernel
theorem d_rs_product_61 : decode prog_1_method_6_code 61 = .ok (.iconst 0, 1) := by decide +kernel
theorem d_rs_product_62 : decode prog_1_method_6_code 62 = .ok (.istore 7, 2) := by decide +kernel
theorem d_rs_product_64 : decode prog_1_method_6_code 64 = .ok (.iload 7, 2) := by decide +kernel
theorem d_rs_product_66 : decode prog_1_method_6_code 66 = .ok (.iconst 2, 1) := by decide +kernel
theorem d_rs_product_67 : decode prog_1_method_6_code 67 = .ok (.iload 5, 2) := by decide +kernel
theorem d_rs_product_69 : decode prog_1_method_6_code 69 = .ok (.imul, 1) := by decide +kernel
theorem d_rs_product_70 : decode prog_1_method_6_code 70 = .ok (.if_icmp .ge 62, 3) := by decide +kernel
theorem d_rs_product_73 : decode prog_1_method_6_code 73 = .ok (.lconst 0, 1) := by decide +kernel
theorem d_rs_product_74 : decode prog_1_method_6_code 74 = .ok (.lstore 8, 2) := by decide +kernel
theorem d_rs_product_76 : decode prog_1_method_6_code 76 = .ok (.iconst 0, 1) := by decide +kernel
theorem d_rs_product_77 : decode prog_1_method_6_code 77 = .ok (.istore 10, 2) := by decide +kernel
theorem d_rs_product_79 : decode prog_1_method_6_code 79 = .ok (.iload 10, 2) := by decide +kernel
theorem d_rs_product_81 : decode prog_1_method_6_code 81 = .ok (.iload 7, 2) := by decide +kernel
theorem d_rs_product_83 : decode prog_1_method_6_code 83 = .ok (.if_icmp .gt 34, 3) := by decide +kernel
theorem d_rs_product_86 : decode prog_1_method_6_code 86 = .ok (.lload 8, 2) := by decide +kernel
theorem d_rs_product_88 : decode prog_1_method_6_code 88 = .ok (.aload_n 3, 1) := by decide +kernel
theorem d_rs_product_89 : decode prog_1_method_6_code 89 = .ok (.getfield 81, 3) := by decide +kernel
theorem d_rs_product_92 : decode prog_1_method_6_code 92 = .ok (.iload 10, 2) := by decide +kernel
theorem d_rs_product_94 : decode prog_1_method_6_code 94 = .ok (.laload, 1) := by decide +kernel
theorem d_rs_product_95 : decode prog_1_method_6_code 95 = .ok (.aload 4, 2) := by decide +kernel
theorem d_rs_product_97 : decode prog_1_method_6_code 97 = .ok (.getfield 81, 3) := by decide +kernel
theorem d_rs_product_100 : decode prog_1_method_6_code 100 = .ok (.iload 7, 2) := by decide +kernel
theorem d_rs_product_102 : decode prog_1_method_6_code 102 = .ok (.iload 10, 2) := by decide +kernel
theorem d_rs_product_104 : decode prog_1_method_6_code 104 = .ok (.isub, 1) := by decide +kernel
theorem d_rs_product_105 : decode prog_1_method_6_code 105 = .ok (.laload, 1) := by decide +kernel
theorem d_rs_product_106 : decode prog_1_method_6_code 106 = .ok (.invokestatic 88, 3) := by decide +kernel
theorem d_rs_product_109 : decode prog_1_method_6_code 109 = .ok (.lstore 8, 2) := by decide +kernel
theorem d_rs_product_111 : decode prog_1_method_6_code 111 = .ok (.iinc 10 1, 3) := by decide +kernel
theorem d_rs_product_114 : decode prog_1_method_6_code 114 = .ok (.goto (-35), 3) := by decide +kernel
theorem d_rs_product_117 : decode prog_1_method_6_code 117 = .ok (.aload_n 0, 1) := by decide +kernel
theorem d_rs_product_118 : decode prog_1_method_6_code 118 = .ok (.getfield 19, 3) := by decide +kernel
theorem d_rs_product_121 : decode prog_1_method_6_code 121 = .ok (.iload 7, 2) := by decide +kernel
theorem d_rs_product_123 : decode prog_1_method_6_code 123 = .ok (.lload 8, 2) := by decide +kernel
theorem d_rs_product_125 : decode prog_1_method_6_code 125 = .ok (.lastore, 1) := by decide +kernel
theorem d_rs_product_126 : decode prog_1_method_6_code 126 = .ok (.iinc 7 1, 3) := by decide +kernel
theorem d_rs_product_129 : decode prog_1_method_6_code 129 = .ok (.goto (-65), 3) := by decide +kernel
theorem d_rs_product_132 : decode prog_1_method_6_code 132 = .ok (.aload_n 0, 1) := by decide +kernel
theorem d_rs_product_133 : decode prog_1_method_6_code 133 = .ok (.iload 5, 2) := by decide +kernel
theorem d_rs_product_135 : decode prog_1_method_6_code 135 = .ok (.invokevirtual 72, 3) := by decide +kernel
theorem d_rs_product_138 : decode prog_1_method_6_code 138 = .ok (.ireturn, 1) := by decide +kernel
theorem d_rs_pairwise_0 : decode prog_1_method_7_code 0 = .ok (.aload_n 0, 1) := by decide +kernel
theorem d_rs_pairwise_1 : decode prog_1_method_7_code 1 = .ok (.iload_n 1, 1) := by decide +kernel
theorem d_rs_pairwise_2 : decode prog_1_method_7_code 2 = .ok (.invokevirtual 75, 3) := by decide +kernel
theorem d_rs_pairwise_5 : decode prog_1_method_7_code 5 = .ok (.ifCond .eq 11, 3) := by decide +kernel
theorem d_rs_pairwise_8 : decode prog_1_method_7_code 8 = .ok (.aload_n 0, 1) := by decide +kernel
theorem d_rs_pairwise_9 : decode prog_1_method_7_code 9 = .ok (.iload_n 2, 1) := by decide +kernel
theorem d_rs_pairwise_10 : decode prog_1_method_7_code 10 = .ok (.invokevirtual 75, 3) := by decide +kernel
theorem d_rs_pairwise_13 : decode prog_1_method_7_code 13 = .ok (.ifCond .ne 5, 3) := by decide +kernel
theorem d_rs_pairwise_16 : decode prog_1_method_7_code 16 = .ok (.iconst (-1), 1) := by decide +kernel
theorem d_rs_pairwise_17 : decode prog_1_method_7_code 17 = .ok (.ireturn, 1) := by decide +kernel
theorem d_rs_pairwise_18 : decode prog_1_method_7_code 18 = .ok (.aload_n 0, 1) := by decide +kernel
theorem d_rs_pairwise_19 : decode prog_1_method_7_code 19 = .ok (.getfield 11, 3) := by decide +kernel
theorem d_rs_pairwise_22 : decode prog_1_method_7_code 22 = .ok (.iload_n 1, 1) := by decide +kernel
theorem d_rs_pairwise_23 : decode prog_1_method_7_code 23 = .ok (.aaload, 1) := by decide +kernel
theorem d_rs_pairwise_24 : decode prog_1_method_7_code 24 = .ok (.astore_n 3, 1) := by decide +kernel
theorem d_rs_pairwise_25 : decode prog_1_method_7_code 25 = .ok (.aload_n 0, 1) := by decide +kernel
theorem d_rs_pairwise_26 : decode prog_1_method_7_code 26 = .ok (.getfield 11, 3) := by decide +kernel
theorem d_rs_pairwise_29 : decode prog_1_method_7_code 29 = .ok (.iload_n 2, 1) := by decide +kernel
theorem d_rs_pairwise_30 : decode prog_1_method_7_code 30 = .ok (.aaload, 1) := by decide +kernel
theorem d_rs_pairwise_31 : decode prog_1_method_7_code 31 = .ok (.astore 4, 2) := by decide +kernel
theorem d_rs_pairwise_33 : decode prog_1_method_7_code 33 = .ok (.aload_n 3, 1) := by decide +kernel
theorem d_rs_pairwise_34 : decode prog_1_method_7_code 34 = .ok (.getfield 78, 3) := by decide +kernel
theorem d_rs_pairwise_37 : decode prog_1_method_7_code 37 = .ok (.aload 4, 2) := by decide +kernel
theorem d_rs_pairwise_39 : decode prog_1_method_7_code 39 = .ok (.getfield 78, 3) := by decide +kernel
theorem d_rs_pairwise_42 : decode prog_1_method_7_code 42 = .ok (.imul, 1) := by decide +kernel
theorem d_rs_pairwise_43 : decode prog_1_method_7_code 43 = .ok (.istore 5, 2) := by decide +kernel
theorem d_rs_pairwise_45 : decode prog_1_method_7_code 45 = .ok (.aload_n 0, 1) := by decide +kernel
theorem d_rs_pairwise_46 : decode prog_1_method_7_code 46 = .ok (.iload 5, 2) := by decide +kernel
theorem d_rs_pairwise_48 : decode prog_1_method_7_code 48 = .ok (.invokevirtual 60, 3) := by decide +kernel
theorem d_rs_pairwise_51 : decode prog_1_method_7_code 51 = .ok (.istore 6, 2) := by decide +kernel
theorem d_rs_pairwise_53 : decode prog_1_method_7_code 53 = .ok (.iload 6, 2) := by decide +kernel
theorem d_rs_pairwise_55 : decode prog_1_method_7_code 55 = .ok (.ifCond .ge 6, 3) := by decide +kernel
theorem d_rs_pairwise_58 : decode prog_1_method_7_code 58 = .ok (.iload 6, 2) := by decide +kernel
theorem d_rs_pairwise_60 : decode prog_1_method_7_code 60 = .ok (.ireturn, 1) := by decide +kernel
theorem d_rs_pairwise_61 : decode prog_1_method_7_code 61 = .ok (.iconst 0, 1) := by decide +kernel
theorem d_rs_pairwise_62 : decode prog_1_method_7_code 62 = .ok (.istore 7, 2) := by decide +kernel
theorem d_rs_pairwise_64 : decode prog_1_method_7_code 64 = .ok (.iload 7, 2) := by decide +kernel
theorem d_rs_pairwise_66 : decode prog_1_method_7_code 66 = .ok (.iconst 2, 1) := by decide +kernel
theorem d_rs_pairwise_67 : decode prog_1_method_7_code 67 = .ok (.iload 5, 2) := by decide +kernel
theorem d_rs_pairwise_69 : decode prog_1_method_7_code 69 = .ok (.imul, 1) := by decide +kernel
theorem d_rs_pairwise_70 : decode prog_1_method_7_code 70 = .ok (.if_icmp .ge 34, 3) := by decide +kernel
theorem d_rs_pairwise_73 : decode prog_1_method_7_code 73 = .ok (.aload_n 0, 1) := by decide +kernel
theorem d_rs_pairwise_74 : decode prog_1_method_7_code 74 = .ok (.getfield 19, 3) := by decide +kernel
theorem d_rs_pairwise_77 : decode prog_1_method_7_code 77 = .ok (.iload 7, 2) := by decide +kernel
theorem d_rs_pairwise_79 : decode prog_1_method_7_code 79 = .ok (.aload_n 3, 1) := by decide +kernel
theorem d_rs_pairwise_80 : decode prog_1_method_7_code 80 = .ok (.getfield 81, 3) := by decide +kernel
theorem d_rs_pairwise_83 : decode prog_1_method_7_code 83 = .ok (.iload 7, 2) := by decide +kernel
theorem d_rs_pairwise_85 : decode prog_1_method_7_code 85 = .ok (.laload, 1) := by decide +kernel
theorem d_rs_pairwise_86 : decode prog_1_method_7_code 86 = .ok (.aload 4, 2) := by decide +kernel
theorem d_rs_pairwise_88 : decode prog_1_method_7_code 88 = .ok (.getfield 81, 3) := by decide +kernel
theorem d_rs_pairwise_91 : decode prog_1_method_7_code 91 = .ok (.iload 7, 2) := by decide +kernel
theorem d_rs_pairwise_93 : decode prog_1_method_7_code 93 = .ok (.laload, 1) := by decide +kernel
theorem d_rs_pairwise_94 : decode prog_1_method_7_code 94 = .ok (.invokestatic 84, 3) := by decide +kernel
theorem d_rs_pairwise_97 : decode prog_1_method_7_code 97 = .ok (.lastore, 1) := by decide +kernel
theorem d_rs_pairwise_98 : decode prog_1_method_7_code 98 = .ok (.iinc 7 1, 3) := by decide +kernel
theorem d_rs_pairwise_101 : decode prog_1_method_7_code 101 = .ok (.goto (-37), 3) := by decide +kernel
theorem d_rs_pairwise_104 : decode prog_1_method_7_code 104 = .ok (.aload_n 0, 1) := by decide +kernel
theorem d_rs_pairwise_105 : decode prog_1_method_7_code 105 = .ok (.iload 5, 2) := by decide +kernel
theorem d_rs_pairwise_107 : decode prog_1_method_7_code 107 = .ok (.invokevirtual 72, 3) := by decide +kernel
theorem d_rs_pairwise_110 : decode prog_1_method_7_code 110 = .ok (.ireturn, 1) := by decide +kernel
theorem d_rs_derivative_0 : decode prog_1_method_8_code 0 = .ok (.aload_n 0, 1) := by decide +kernel
theorem d_rs_derivative_1 : decode prog_1_method_8_code 1 = .ok (.iload_n 1, 1) := by decide +kernel
theorem d_rs_derivative_2 : decode prog_1_method_8_code 2 = .ok (.invokevirtual 75, 3) := by decide +kernel
theorem d_rs_derivative_5 : decode prog_1_method_8_code 5 = .ok (.ifCond .ne 5, 3) := by decide +kernel
theorem d_rs_derivative_8 : decode prog_1_method_8_code 8 = .ok (.iconst (-1), 1) := by decide +kernel
theorem d_rs_derivative_9 : decode prog_1_method_8_code 9 = .ok (.ireturn, 1) := by decide +kernel
theorem d_rs_derivative_10 : decode prog_1_method_8_code 10 = .ok (.aload_n 0, 1) := by decide +kernel
theorem d_rs_derivative_11 : decode prog_1_method_8_code 11 = .ok (.getfield 11, 3) := by decide +kernel
theorem d_rs_derivative_14 : decode prog_1_method_8_code 14 = .ok (.iload_n 1, 1) := by decide +kernel
theorem d_rs_derivative_15 : decode prog_1_method_8_code 15 = .ok (.aaload, 1) := by decide +kernel
theorem d_rs_derivative_16 : decode prog_1_method_8_code 16 = .ok (.astore_n 2, 1) := by decide +kernel
theorem d_rs_derivative_17 : decode prog_1_method_8_code 17 = .ok (.iconst 2, 1) := by decide +kernel
theorem d_rs_derivative_18 : decode prog_1_method_8_code 18 = .ok (.aload_n 2, 1) := by decide +kernel
theorem d_rs_derivative_19 : decode prog_1_method_8_code 19 = .ok (.getfield 78, 3) := by decide +kernel
theorem d_rs_derivative_22 : decode prog_1_method_8_code 22 = .ok (.imul, 1) := by decide +kernel
theorem d_rs_derivative_23 : decode prog_1_method_8_code 23 = .ok (.istore_n 3, 1) := by decide +kernel
theorem d_rs_derivative_24 : decode prog_1_method_8_code 24 = .ok (.aload_n 0, 1) := by decide +kernel
theorem d_rs_derivative_25 : decode prog_1_method_8_code 25 = .ok (.iload_n 3, 1) := by decide +kernel
theorem d_rs_derivative_26 : decode prog_1_method_8_code 26 = .ok (.invokevirtual 60, 3) := by decide +kernel
theorem d_rs_derivative_29 : decode prog_1_method_8_code 29 = .ok (.istore 4, 2) := by decide +kernel
theorem d_rs_derivative_31 : decode prog_1_method_8_code 31 = .ok (.iload 4, 2) := by decide +kernel
theorem d_rs_derivative_33 : decode prog_1_method_8_code 33 = .ok (.ifCond .ge 6, 3) := by decide +kernel
theorem d_rs_derivative_36 : decode prog_1_method_8_code 36 = .ok (.iload 4, 2) := by decide +kernel
theorem d_rs_derivative_38 : decode prog_1_method_8_code 38 = .ok (.ireturn, 1) := by decide +kernel
theorem d_rs_derivative_39 : decode prog_1_method_8_code 39 = .ok (.iconst 0, 1) := by decide +kernel
theorem d_rs_derivative_40 : decode prog_1_method_8_code 40 = .ok (.istore 5, 2) := by decide +kernel
theorem d_rs_derivative_42 : decode prog_1_method_8_code 42 = .ok (.iload 5, 2) := by decide +kernel
theorem d_rs_derivative_44 : decode prog_1_method_8_code 44 = .ok (.iconst 2, 1) := by decide +kernel
theorem d_rs_derivative_45 : decode prog_1_method_8_code 45 = .ok (.iload_n 3, 1) := by decide +kernel
theorem d_rs_derivative_46 : decode prog_1_method_8_code 46 = .ok (.imul, 1) := by decide +kernel
theorem d_rs_derivative_47 : decode prog_1_method_8_code 47 = .ok (.if_icmp .ge 33, 3) := by decide +kernel
theorem d_rs_derivative_50 : decode prog_1_method_8_code 50 = .ok (.aload_n 0, 1) := by decide +kernel
theorem d_rs_derivative_51 : decode prog_1_method_8_code 51 = .ok (.getfield 19, 3) := by decide +kernel
theorem d_rs_derivative_54 : decode prog_1_method_8_code 54 = .ok (.iload 5, 2) := by decide +kernel
theorem d_rs_derivative_56 : decode prog_1_method_8_code 56 = .ok (.iload 5, 2) := by decide +kernel
theorem d_rs_derivative_58 : decode prog_1_method_8_code 58 = .ok (.iconst 1, 1) := by decide +kernel
theorem d_rs_derivative_59 : decode prog_1_method_8_code 59 = .ok (.iadd, 1) := by decide +kernel
theorem d_rs_derivative_60 : decode prog_1_method_8_code 60 = .ok (.i2l, 1) := by decide +kernel
theorem d_rs_derivative_61 : decode prog_1_method_8_code 61 = .ok (.aload_n 2, 1) := by decide +kernel
theorem d_rs_derivative_62 : decode prog_1_method_8_code 62 = .ok (.getfield 81, 3) := by decide +kernel
theorem d_rs_derivative_65 : decode prog_1_method_8_code 65 = .ok (.iload 5, 2) := by decide +kernel
theorem d_rs_derivative_67 : decode prog_1_method_8_code 67 = .ok (.iconst 1, 1) := by decide +kernel
theorem d_rs_derivative_68 : decode prog_1_method_8_code 68 = .ok (.iadd, 1) := by decide +kernel
theorem d_rs_derivative_69 : decode prog_1_method_8_code 69 = .ok (.laload, 1) := by decide +kernel
theorem d_rs_derivative_70 : decode prog_1_method_8_code 70 = .ok (.invokestatic 84, 3) := by decide +kernel
theorem d_rs_derivative_73 : decode prog_1_method_8_code 73 = .ok (.lastore, 1) := by decide +kernel
theorem d_rs_derivative_74 : decode prog_1_method_8_code 74 = .ok (.iinc 5 1, 3) := by decide +kernel
theorem d_rs_derivative_77 : decode prog_1_method_8_code 77 = .ok (.goto (-35), 3) := by decide +kernel
theorem d_rs_derivative_80 : decode prog_1_method_8_code 80 = .ok (.aload_n 0, 1) := by decide +kernel
theorem d_rs_derivative_81 : decode prog_1_method_8_code 81 = .ok (.iload_n 3, 1) := by decide +kernel
theorem d_rs_derivative_82 : decode prog_1_method_8_code 82 = .ok (.invokevirtual 72, 3) := by decide +kernel
theorem d_rs_derivative_85 : decode prog_1_method_8_code 85 = .ok (.ireturn, 1) := by decide +kernel
theorem d_rs_tail_0 : decode prog_1_method_9_code 0 = .ok (.aload_n 0, 1) := by decide +kernel
theorem d_rs_tail_1 : decode prog_1_method_9_code 1 = .ok (.iload_n 1, 1) := by decide +kernel
theorem d_rs_tail_2 : decode prog_1_method_9_code 2 = .ok (.invokevirtual 75, 3) := by decide +kernel
theorem d_rs_tail_5 : decode prog_1_method_9_code 5 = .ok (.ifCond .ne 5, 3) := by decide +kernel
theorem d_rs_tail_8 : decode prog_1_method_9_code 8 = .ok (.iconst (-1), 1) := by decide +kernel
theorem d_rs_tail_9 : decode prog_1_method_9_code 9 = .ok (.ireturn, 1) := by decide +kernel
theorem d_rs_tail_10 : decode prog_1_method_9_code 10 = .ok (.aload_n 0, 1) := by decide +kernel
theorem d_rs_tail_11 : decode prog_1_method_9_code 11 = .ok (.getfield 11, 3) := by decide +kernel
theorem d_rs_tail_14 : decode prog_1_method_9_code 14 = .ok (.iload_n 1, 1) := by decide +kernel
theorem d_rs_tail_15 : decode prog_1_method_9_code 15 = .ok (.aaload, 1) := by decide +kernel
theorem d_rs_tail_16 : decode prog_1_method_9_code 16 = .ok (.astore_n 2, 1) := by decide +kernel
theorem d_rs_tail_17 : decode prog_1_method_9_code 17 = .ok (.aload_n 2, 1) := by decide +kernel
theorem d_rs_tail_18 : decode prog_1_method_9_code 18 = .ok (.getfield 78, 3) := by decide +kernel
theorem d_rs_tail_21 : decode prog_1_method_9_code 21 = .ok (.istore_n 3, 1) := by decide +kernel
theorem d_rs_tail_22 : decode prog_1_method_9_code 22 = .ok (.aload_n 0, 1) := by decide +kernel
theorem d_rs_tail_23 : decode prog_1_method_9_code 23 = .ok (.iload_n 3, 1) := by decide +kernel
theorem d_rs_tail_24 : decode prog_1_method_9_code 24 = .ok (.invokevirtual 60, 3) := by decide +kernel
theorem d_rs_tail_27 : decode prog_1_method_9_code 27 = .ok (.istore 4, 2) := by decide +kernel
theorem d_rs_tail_29 : decode prog_1_method_9_code 29 = .ok (.iload 4, 2) := by decide +kernel
theorem d_rs_tail_31 : decode prog_1_method_9_code 31 = .ok (.ifCond .ge 6, 3) := by decide +kernel
theorem d_rs_tail_34 : decode prog_1_method_9_code 34 = .ok (.iload 4, 2) := by decide +kernel
theorem d_rs_tail_36 : decode prog_1_method_9_code 36 = .ok (.ireturn, 1) := by decide +kernel
theorem d_rs_tail_37 : decode prog_1_method_9_code 37 = .ok (.iconst 0, 1) := by decide +kernel
theorem d_rs_tail_38 : decode prog_1_method_9_code 38 = .ok (.istore 5, 2) := by decide +kernel
theorem d_rs_tail_40 : decode prog_1_method_9_code 40 = .ok (.iload 5, 2) := by decide +kernel
theorem d_rs_tail_42 : decode prog_1_method_9_code 42 = .ok (.iconst 2, 1) := by decide +kernel
theorem d_rs_tail_43 : decode prog_1_method_9_code 43 = .ok (.iload_n 3, 1) := by decide +kernel
theorem d_rs_tail_44 : decode prog_1_method_9_code 44 = .ok (.imul, 1) := by decide +kernel
theorem d_rs_tail_45 : decode prog_1_method_9_code 45 = .ok (.if_icmp .ge 25, 3) := by decide +kernel
theorem d_rs_tail_48 : decode prog_1_method_9_code 48 = .ok (.aload_n 0, 1) := by decide +kernel
theorem d_rs_tail_49 : decode prog_1_method_9_code 49 = .ok (.getfield 19, 3) := by decide +kernel
theorem d_rs_tail_52 : decode prog_1_method_9_code 52 = .ok (.iload 5, 2) := by decide +kernel
theorem d_rs_tail_54 : decode prog_1_method_9_code 54 = .ok (.aload_n 2, 1) := by decide +kernel
theorem d_rs_tail_55 : decode prog_1_method_9_code 55 = .ok (.getfield 81, 3) := by decide +kernel
theorem d_rs_tail_58 : decode prog_1_method_9_code 58 = .ok (.iload 5, 2) := by decide +kernel
theorem d_rs_tail_60 : decode prog_1_method_9_code 60 = .ok (.iconst 1, 1) := by decide +kernel
theorem d_rs_tail_61 : decode prog_1_method_9_code 61 = .ok (.iadd, 1) := by decide +kernel
theorem d_rs_tail_62 : decode prog_1_method_9_code 62 = .ok (.laload, 1) := by decide +kernel
theorem d_rs_tail_63 : decode prog_1_method_9_code 63 = .ok (.lastore, 1) := by decide +kernel
theorem d_rs_tail_64 : decode prog_1_method_9_code 64 = .ok (.iinc 5 1, 3) := by decide +kernel
theorem d_rs_tail_67 : decode prog_1_method_9_code 67 = .ok (.goto (-27), 3) := by decide +kernel
theorem d_rs_tail_70 : decode prog_1_method_9_code 70 = .ok (.aload_n 0, 1) := by decide +kernel
theorem d_rs_tail_71 : decode prog_1_method_9_code 71 = .ok (.iload_n 3, 1) := by decide +kernel
theorem d_rs_tail_72 : decode prog_1_method_9_code 72 = .ok (.invokevirtual 72, 3) := by decide +kernel
theorem d_rs_tail_75 : decode prog_1_method_9_code 75 = .ok (.ireturn, 1) := by decide +kernel
theorem d_rs_delay_0 : decode prog_1_method_10_code 0 = .ok (.aload_n 0, 1) := by decide +kernel
theorem d_rs_delay_1 : decode prog_1_method_10_code 1 = .ok (.iload_n 1, 1) := by decide +kernel
theorem d_rs_delay_2 : decode prog_1_method_10_code 2 = .ok (.invokevirtual 75, 3) := by decide +kernel
theorem d_rs_delay_5 : decode prog_1_method_10_code 5 = .ok (.ifCond .ne 5, 3) := by decide +kernel
theorem d_rs_delay_8 : decode prog_1_method_10_code 8 = .ok (.iconst (-1), 1) := by decide +kernel
theorem d_rs_delay_9 : decode prog_1_method_10_code 9 = .ok (.ireturn, 1) := by decide +kernel
theorem d_rs_delay_10 : decode prog_1_method_10_code 10 = .ok (.aload_n 0, 1) := by decide +kernel
theorem d_rs_delay_11 : decode prog_1_method_10_code 11 = .ok (.getfield 11, 3) := by decide +kernel
theorem d_rs_delay_14 : decode prog_1_method_10_code 14 = .ok (.iload_n 1, 1) := by decide +kernel
theorem d_rs_delay_15 : decode prog_1_method_10_code 15 = .ok (.aaload, 1) := by decide +kernel
theorem d_rs_delay_16 : decode prog_1_method_10_code 16 = .ok (.astore_n 2, 1) := by decide +kernel
theorem d_rs_delay_17 : decode prog_1_method_10_code 17 = .ok (.aload_n 2, 1) := by decide +kernel
theorem d_rs_delay_18 : decode prog_1_method_10_code 18 = .ok (.getfield 78, 3) := by decide +kernel
theorem d_rs_delay_21 : decode prog_1_method_10_code 21 = .ok (.iconst 1, 1) := by decide +kernel
theorem d_rs_delay_22 : decode prog_1_method_10_code 22 = .ok (.iadd, 1) := by decide +kernel
theorem d_rs_delay_23 : decode prog_1_method_10_code 23 = .ok (.istore_n 3, 1) := by decide +kernel
theorem d_rs_delay_24 : decode prog_1_method_10_code 24 = .ok (.aload_n 0, 1) := by decide +kernel
theorem d_rs_delay_25 : decode prog_1_method_10_code 25 = .ok (.iload_n 3, 1) := by decide +kernel
theorem d_rs_delay_26 : decode prog_1_method_10_code 26 = .ok (.invokevirtual 60, 3) := by decide +kernel
theorem d_rs_delay_29 : decode prog_1_method_10_code 29 = .ok (.istore 4, 2) := by decide +kernel
theorem d_rs_delay_31 : decode prog_1_method_10_code 31 = .ok (.iload 4, 2) := by decide +kernel
theorem d_rs_delay_33 : decode prog_1_method_10_code 33 = .ok (.ifCond .ge 6, 3) := by decide +kernel
theorem d_rs_delay_36 : decode prog_1_method_10_code 36 = .ok (.iload 4, 2) := by decide +kernel
theorem d_rs_delay_38 : decode prog_1_method_10_code 38 = .ok (.ireturn, 1) := by decide +kernel
theorem d_rs_delay_39 : decode prog_1_method_10_code 39 = .ok (.aload_n 0, 1) := by decide +kernel
theorem d_rs_delay_40 : decode prog_1_method_10_code 40 = .ok (.getfield 19, 3) := by decide +kernel
theorem d_rs_delay_43 : decode prog_1_method_10_code 43 = .ok (.iconst 0, 1) := by decide +kernel
theorem d_rs_delay_44 : decode prog_1_method_10_code 44 = .ok (.lconst 0, 1) := by decide +kernel
theorem d_rs_delay_45 : decode prog_1_method_10_code 45 = .ok (.lastore, 1) := by decide +kernel
theorem d_rs_delay_46 : decode prog_1_method_10_code 46 = .ok (.iconst 1, 1) := by decide +kernel
theorem d_rs_delay_47 : decode prog_1_method_10_code 47 = .ok (.istore 5, 2) := by decide +kernel
theorem d_rs_delay_49 : decode prog_1_method_10_code 49 = .ok (.iload 5, 2) := by decide +kernel
theorem d_rs_delay_51 : decode prog_1_method_10_code 51 = .ok (.iconst 2, 1) := by decide +kernel
theorem d_rs_delay_52 : decode prog_1_method_10_code 52 = .ok (.iload_n 3, 1) := by decide +kernel
theorem d_rs_delay_53 : decode prog_1_method_10_code 53 = .ok (.imul, 1) := by decide +kernel
theorem d_rs_delay_54 : decode prog_1_method_10_code 54 = .ok (.if_icmp .ge 25, 3) := by decide +kernel
theorem d_rs_delay_57 : decode prog_1_method_10_code 57 = .ok (.aload_n 0, 1) := by decide +kernel
theorem d_rs_delay_58 : decode prog_1_method_10_code 58 = .ok (.getfield 19, 3) := by decide +kernel
theorem d_rs_delay_61 : decode prog_1_method_10_code 61 = .ok (.iload 5, 2) := by decide +kernel
theorem d_rs_delay_63 : decode prog_1_method_10_code 63 = .ok (.aload_n 2, 1) := by decide +kernel
theorem d_rs_delay_64 : decode prog_1_method_10_code 64 = .ok (.getfield 81, 3) := by decide +kernel
theorem d_rs_delay_67 : decode prog_1_method_10_code 67 = .ok (.iload 5, 2) := by decide +kernel
theorem d_rs_delay_69 : decode prog_1_method_10_code 69 = .ok (.iconst 1, 1) := by decide +kernel
theorem d_rs_delay_70 : decode prog_1_method_10_code 70 = .ok (.isub, 1) := by decide +kernel
theorem d_rs_delay_71 : decode prog_1_method_10_code 71 = .ok (.laload, 1) := by decide +kernel
theorem d_rs_delay_72 : decode prog_1_method_10_code 72 = .ok (.lastore, 1) := by decide +kernel
theorem d_rs_delay_73 : decode prog_1_method_10_code 73 = .ok (.iinc 5 1, 3) := by decide +kernel
theorem d_rs_delay_76 : decode prog_1_method_10_code 76 = .ok (.goto (-27), 3) := by decide +kernel
theorem d_rs_delay_79 : decode prog_1_method_10_code 79 = .ok (.aload_n 0, 1) := by decide +kernel
theorem d_rs_delay_80 : decode prog_1_method_10_code 80 = .ok (.iload_n 3, 1) := by decide +kernel
theorem d_rs_delay_81 : decode prog_1_method_10_code 81 = .ok (.invokevirtual 72, 3) := by decide +kernel
theorem d_rs_delay_84 : decode prog_1_method_10_code 84 = .ok (.ireturn, 1) := by decide +kernel
theorem d_rs_sums_0 : decode prog_1_method_11_code 0 = .ok (.aload_n 0, 1) := by decide +kernel
theorem d_rs_sums_1 : decode prog_1_method_11_code 1 = .ok (.iload_n 1, 1) := by decide +kernel
theorem d_rs_sums_2 : decode prog_1_method_11_code 2 = .ok (.invokevirtual 75, 3) := by decide +kernel
theorem d_rs_sums_5 : decode prog_1_method_11_code 5 = .ok (.ifCond .ne 5, 3) := by decide +kernel
theorem d_rs_sums_8 : decode prog_1_method_11_code 8 = .ok (.iconst (-1), 1) := by decide +kernel
theorem d_rs_sums_9 : decode prog_1_method_11_code 9 = .ok (.ireturn, 1) := by decide +kernel
theorem d_rs_sums_10 : decode prog_1_method_11_code 10 = .ok (.aload_n 0, 1) := by decide +kernel
theorem d_rs_sums_11 : decode prog_1_method_11_code 11 = .ok (.getfield 11, 3) := by decide +kernel
theorem d_rs_sums_14 : decode prog_1_method_11_code 14 = .ok (.iload_n 1, 1) := by decide +kernel
theorem d_rs_sums_15 : decode prog_1_method_11_code 15 = .ok (.aaload, 1) := by decide +kernel
theorem d_rs_sums_16 : decode prog_1_method_11_code 16 = .ok (.astore_n 2, 1) := by decide +kernel
theorem d_rs_sums_17 : decode prog_1_method_11_code 17 = .ok (.aload_n 2, 1) := by decide +kernel
theorem d_rs_sums_18 : decode prog_1_method_11_code 18 = .ok (.getfield 78, 3) := by decide +kernel
theorem d_rs_sums_21 : decode prog_1_method_11_code 21 = .ok (.iconst 1, 1) := by decide +kernel
theorem d_rs_sums_22 : decode prog_1_method_11_code 22 = .ok (.iadd, 1) := by decide +kernel
theorem d_rs_sums_23 : decode prog_1_method_11_code 23 = .ok (.istore_n 3, 1) := by decide +kernel
theorem d_rs_sums_24 : decode prog_1_method_11_code 24 = .ok (.aload_n 0, 1) := by decide +kernel
theorem d_rs_sums_25 : decode prog_1_method_11_code 25 = .ok (.iload_n 3, 1) := by decide +kernel
theorem d_rs_sums_26 : decode prog_1_method_11_code 26 = .ok (.invokevirtual 60, 3) := by decide +kernel
theorem d_rs_sums_29 : decode prog_1_method_11_code 29 = .ok (.istore 4, 2) := by decide +kernel
theorem d_rs_sums_31 : decode prog_1_method_11_code 31 = .ok (.iload 4, 2) := by decide +kernel
theorem d_rs_sums_33 : decode prog_1_method_11_code 33 = .ok (.ifCond .ge 6, 3) := by decide +kernel
theorem d_rs_sums_36 : decode prog_1_method_11_code 36 = .ok (.iload 4, 2) := by decide +kernel
theorem d_rs_sums_38 : decode prog_1_method_11_code 38 = .ok (.ireturn, 1) := by decide +kernel
theorem d_rs_sums_39 : decode prog_1_method_11_code 39 = .ok (.lconst 0, 1) := by decide +kernel
theorem d_rs_sums_40 : decode prog_1_method_11_code 40 = .ok (.lstore 5, 2) := by decide +kernel
theorem d_rs_sums_42 : decode prog_1_method_11_code 42 = .ok (.iconst 0, 1) := by decide +kernel
theorem d_rs_sums_43 : decode prog_1_method_11_code 43 = .ok (.istore 7, 2) := by decide +kernel
theorem d_rs_sums_45 : decode prog_1_method_11_code 45 = .ok (.iload 7, 2) := by decide +kernel
theorem d_rs_sums_47 : decode prog_1_method_11_code 47 = .ok (.iconst 2, 1) := by decide +kernel
theorem d_rs_sums_48 : decode prog_1_method_11_code 48 = .ok (.iload_n 3, 1) := by decide +kernel
theorem d_rs_sums_49 : decode prog_1_method_11_code 49 = .ok (.imul, 1) := by decide +kernel
theorem d_rs_sums_50 : decode prog_1_method_11_code 50 = .ok (.if_icmp .ge 32, 3) := by decide +kernel
theorem d_rs_sums_53 : decode prog_1_method_11_code 53 = .ok (.lload 5, 2) := by decide +kernel
theorem d_rs_sums_55 : decode prog_1_method_11_code 55 = .ok (.aload_n 2, 1) := by decide +kernel
theorem d_rs_sums_56 : decode prog_1_method_11_code 56 = .ok (.getfield 81, 3) := by decide +kernel
theorem d_rs_sums_59 : decode prog_1_method_11_code 59 = .ok (.iload 7, 2) := by decide +kernel
theorem d_rs_sums_61 : decode prog_1_method_11_code 61 = .ok (.laload, 1) := by decide +kernel
theorem d_rs_sums_62 : decode prog_1_method_11_code 62 = .ok (.invokestatic 92, 3) := by decide +kernel
theorem d_rs_sums_65 : decode prog_1_method_11_code 65 = .ok (.lstore 5, 2) := by decide +kernel
theorem d_rs_sums_67 : decode prog_1_method_11_code 67 = .ok (.aload_n 0, 1) := by decide +kernel
theorem d_rs_sums_68 : decode prog_1_method_11_code 68 = .ok (.getfield 19, 3) := by decide +kernel
theorem d_rs_sums_71 : decode prog_1_method_11_code 71 = .ok (.iload 7, 2) := by decide +kernel
theorem d_rs_sums_73 : decode prog_1_method_11_code 73 = .ok (.lload 5, 2) := by decide +kernel
theorem d_rs_sums_75 : decode prog_1_method_11_code 75 = .ok (.lastore, 1) := by decide +kernel
theorem d_rs_sums_76 : decode prog_1_method_11_code 76 = .ok (.iinc 7 1, 3) := by decide +kernel
theorem d_rs_sums_79 : decode prog_1_method_11_code 79 = .ok (.goto (-34), 3) := by decide +kernel
theorem d_rs_sums_82 : decode prog_1_method_11_code 82 = .ok (.aload_n 0, 1) := by decide +kernel
theorem d_rs_sums_83 : decode prog_1_method_11_code 83 = .ok (.iload_n 3, 1) := by decide +kernel
theorem d_rs_sums_84 : decode prog_1_method_11_code 84 = .ok (.invokevirtual 72, 3) := by decide +kernel
theorem d_rs_sums_87 : decode prog_1_method_11_code 87 = .ok (.ireturn, 1) := by decide +kernel
theorem d_rs_section_0 : decode prog_1_method_12_code 0 = .ok (.aload_n 0, 1) := by decide +kernel
theorem d_rs_section_1 : decode prog_1_method_12_code 1 = .ok (.iload_n 1, 1) := by decide +kernel
theorem d_rs_section_2 : decode prog_1_method_12_code 2 = .ok (.invokevirtual 75, 3) := by decide +kernel
theorem d_rs_section_5 : decode prog_1_method_12_code 5 = .ok (.ifCond .eq 25, 3) := by decide +kernel
theorem d_rs_section_8 : decode prog_1_method_12_code 8 = .ok (.iload_n 2, 1) := by decide +kernel
theorem d_rs_section_9 : decode prog_1_method_12_code 9 = .ok (.iconst 1, 1) := by decide +kernel
theorem d_rs_section_10 : decode prog_1_method_12_code 10 = .ok (.if_icmp .lt 20, 3) := by decide +kernel
theorem d_rs_section_13 : decode prog_1_method_12_code 13 = .ok (.iload_n 2, 1) := by decide +kernel
theorem d_rs_section_14 : decode prog_1_method_12_code 14 = .ok (.bipush 24, 2) := by decide +kernel
theorem d_rs_section_16 : decode prog_1_method_12_code 16 = .ok (.if_icmp .gt 14, 3) := by decide +kernel
theorem d_rs_section_19 : decode prog_1_method_12_code 19 = .ok (.iload_n 3, 1) := by decide +kernel
theorem d_rs_section_20 : decode prog_1_method_12_code 20 = .ok (.ifCond .lt 10, 3) := by decide +kernel
theorem d_rs_section_23 : decode prog_1_method_12_code 23 = .ok (.iload_n 3, 1) := by decide +kernel
theorem d_rs_section_24 : decode prog_1_method_12_code 24 = .ok (.sipush 1000, 3) := by decide +kernel
theorem d_rs_section_27 : decode prog_1_method_12_code 27 = .ok (.if_icmp .le 5, 3) := by decide +kernel
theorem d_rs_section_30 : decode prog_1_method_12_code 30 = .ok (.iconst (-1), 1) := by decide +kernel
theorem d_rs_section_31 : decode prog_1_method_12_code 31 = .ok (.ireturn, 1) := by decide +kernel
theorem d_rs_section_32 : decode prog_1_method_12_code 32 = .ok (.aload_n 0, 1) := by decide +kernel
theorem d_rs_section_33 : decode prog_1_method_12_code 33 = .ok (.getfield 11, 3) := by decide +kernel
theorem d_rs_section_36 : decode prog_1_method_12_code 36 = .ok (.iload_n 1, 1) := by decide +kernel
theorem d_rs_section_37 : decode prog_1_method_12_code 37 = .ok (.aaload, 1) := by decide +kernel
theorem d_rs_section_38 : decode prog_1_method_12_code 38 = .ok (.astore 4, 2) := by decide +kernel
theorem d_rs_section_40 : decode prog_1_method_12_code 40 = .ok (.aload 4, 2) := by decide +kernel
theorem d_rs_section_42 : decode prog_1_method_12_code 42 = .ok (.getfield 78, 3) := by decide +kernel
theorem d_rs_section_45 : decode prog_1_method_12_code 45 = .ok (.istore 5, 2) := by decide +kernel
theorem d_rs_section_47 : decode prog_1_method_12_code 47 = .ok (.aload_n 0, 1) := by decide +kernel
theorem d_rs_section_48 : decode prog_1_method_12_code 48 = .ok (.iload 5, 2) := by decide +kernel
theorem d_rs_section_50 : decode prog_1_method_12_code 50 = .ok (.invokevirtual 60, 3) := by decide +kernel
theorem d_rs_section_53 : decode prog_1_method_12_code 53 = .ok (.istore 6, 2) := by decide +kernel
theorem d_rs_section_55 : decode prog_1_method_12_code 55 = .ok (.iload 6, 2) := by decide +kernel
theorem d_rs_section_57 : decode prog_1_method_12_code 57 = .ok (.ifCond .ge 6, 3) := by decide +kernel
theorem d_rs_section_60 : decode prog_1_method_12_code 60 = .ok (.iload 6, 2) := by decide +kernel
theorem d_rs_section_62 : decode prog_1_method_12_code 62 = .ok (.ireturn, 1) := by decide +kernel
theorem d_rs_section_63 : decode prog_1_method_12_code 63 = .ok (.aload 4, 2) := by decide +kernel
theorem d_rs_section_65 : decode prog_1_method_12_code 65 = .ok (.aload_n 0, 1) := by decide +kernel
theorem d_rs_section_66 : decode prog_1_method_12_code 66 = .ok (.getfield 22, 3) := by decide +kernel
theorem d_rs_section_69 : decode prog_1_method_12_code 69 = .ok (.iload_n 2, 1) := by decide +kernel
theorem d_rs_section_70 : decode prog_1_method_12_code 70 = .ok (.iconst 2, 1) := by decide +kernel
theorem d_rs_section_71 : decode prog_1_method_12_code 71 = .ok (.iload 5, 2) := by decide +kernel
theorem d_rs_section_73 : decode prog_1_method_12_code 73 = .ok (.imul, 1) := by decide +kernel
theorem d_rs_section_74 : decode prog_1_method_12_code 74 = .ok (.iconst 1, 1) := by decide +kernel
theorem d_rs_section_75 : decode prog_1_method_12_code 75 = .ok (.isub, 1) := by decide +kernel
theorem d_rs_section_76 : decode prog_1_method_12_code 76 = .ok (.imul, 1) := by decide +kernel
theorem d_rs_section_77 : decode prog_1_method_12_code 77 = .ok (.iload_n 3, 1) := by decide +kernel
theorem d_rs_section_78 : decode prog_1_method_12_code 78 = .ok (.iadd, 1) := by decide +kernel
theorem d_rs_section_79 : decode prog_1_method_12_code 79 = .ok (.iconst 1, 1) := by decide +kernel
theorem d_rs_section_80 : decode prog_1_method_12_code 80 = .ok (.iadd, 1) := by decide +kernel
theorem d_rs_section_81 : decode prog_1_method_12_code 81 = .ok (.invokevirtual 95, 3) := by decide +kernel
theorem d_rs_section_84 : decode prog_1_method_12_code 84 = .ok (.iconst 0, 1) := by decide +kernel
theorem d_rs_section_85 : decode prog_1_method_12_code 85 = .ok (.istore 7, 2) := by decide +kernel
theorem d_rs_section_87 : decode prog_1_method_12_code 87 = .ok (.iload 7, 2) := by decide +kernel
theorem d_rs_section_89 : decode prog_1_method_12_code 89 = .ok (.iconst 2, 1) := by decide +kernel
theorem d_rs_section_90 : decode prog_1_method_12_code 90 = .ok (.iload 5, 2) := by decide +kernel
theorem d_rs_section_92 : decode prog_1_method_12_code 92 = .ok (.imul, 1) := by decide +kernel
theorem d_rs_section_93 : decode prog_1_method_12_code 93 = .ok (.if_icmp .ge 27, 3) := by decide +kernel
theorem d_rs_section_96 : decode prog_1_method_12_code 96 = .ok (.aload_n 0, 1) := by decide +kernel
theorem d_rs_section_97 : decode prog_1_method_12_code 97 = .ok (.getfield 19, 3) := by decide +kernel
theorem d_rs_section_100 : decode prog_1_method_12_code 100 = .ok (.iload 7, 2) := by decide +kernel
theorem d_rs_section_102 : decode prog_1_method_12_code 102 = .ok (.aload_n 0, 1) := by decide +kernel
theorem d_rs_section_103 : decode prog_1_method_12_code 103 = .ok (.getfield 22, 3) := by decide +kernel
theorem d_rs_section_106 : decode prog_1_method_12_code 106 = .ok (.iload_n 2, 1) := by decide +kernel
theorem d_rs_section_107 : decode prog_1_method_12_code 107 = .ok (.iload 7, 2) := by decide +kernel
theorem d_rs_section_109 : decode prog_1_method_12_code 109 = .ok (.imul, 1) := by decide +kernel
theorem d_rs_section_110 : decode prog_1_method_12_code 110 = .ok (.iload_n 3, 1) := by decide +kernel
theorem d_rs_section_111 : decode prog_1_method_12_code 111 = .ok (.iadd, 1) := by decide +kernel
theorem d_rs_section_112 : decode prog_1_method_12_code 112 = .ok (.laload, 1) := by decide +kernel
theorem d_rs_section_113 : decode prog_1_method_12_code 113 = .ok (.lastore, 1) := by decide +kernel
theorem d_rs_section_114 : decode prog_1_method_12_code 114 = .ok (.iinc 7 1, 3) := by decide +kernel
theorem d_rs_section_117 : decode prog_1_method_12_code 117 = .ok (.goto (-30), 3) := by decide +kernel
theorem d_rs_section_120 : decode prog_1_method_12_code 120 = .ok (.aload_n 0, 1) := by decide +kernel
theorem d_rs_section_121 : decode prog_1_method_12_code 121 = .ok (.iload 5, 2) := by decide +kernel
theorem d_rs_section_123 : decode prog_1_method_12_code 123 = .ok (.invokevirtual 72, 3) := by decide +kernel
theorem d_rs_section_126 : decode prog_1_method_12_code 126 = .ok (.ireturn, 1) := by decide +kernel
theorem d_rs_spread_0 : decode prog_1_method_13_code 0 = .ok (.aload_n 0, 1) := by decide +kernel
theorem d_rs_spread_1 : decode prog_1_method_13_code 1 = .ok (.iload_n 1, 1) := by decide +kernel
theorem d_rs_spread_2 : decode prog_1_method_13_code 2 = .ok (.invokevirtual 75, 3) := by decide +kernel
theorem d_rs_spread_5 : decode prog_1_method_13_code 5 = .ok (.ifCond .eq 14, 3) := by decide +kernel
theorem d_rs_spread_8 : decode prog_1_method_13_code 8 = .ok (.iload_n 2, 1) := by decide +kernel
theorem d_rs_spread_9 : decode prog_1_method_13_code 9 = .ok (.iconst 1, 1) := by decide +kernel
theorem d_rs_spread_10 : decode prog_1_method_13_code 10 = .ok (.if_icmp .lt 9, 3) := by decide +kernel
theorem d_rs_spread_13 : decode prog_1_method_13_code 13 = .ok (.iload_n 2, 1) := by decide +kernel
theorem d_rs_spread_14 : decode prog_1_method_13_code 14 = .ok (.bipush 24, 2) := by decide +kernel
theorem d_rs_spread_16 : decode prog_1_method_13_code 16 = .ok (.if_icmp .le 5, 3) := by decide +kernel
theorem d_rs_spread_19 : decode prog_1_method_13_code 19 = .ok (.iconst (-1), 1) := by decide +kernel
theorem d_rs_spread_20 : decode prog_1_method_13_code 20 = .ok (.ireturn, 1) := by decide +kernel
theorem d_rs_spread_21 : decode prog_1_method_13_code 21 = .ok (.aload_n 0, 1) := by decide +kernel
theorem d_rs_spread_22 : decode prog_1_method_13_code 22 = .ok (.getfield 11, 3) := by decide +kernel
theorem d_rs_spread_25 : decode prog_1_method_13_code 25 = .ok (.iload_n 1, 1) := by decide +kernel
theorem d_rs_spread_26 : decode prog_1_method_13_code 26 = .ok (.aaload, 1) := by decide +kernel
theorem d_rs_spread_27 : decode prog_1_method_13_code 27 = .ok (.astore_n 3, 1) := by decide +kernel
theorem d_rs_spread_28 : decode prog_1_method_13_code 28 = .ok (.iload_n 2, 1) := by decide +kernel
theorem d_rs_spread_29 : decode prog_1_method_13_code 29 = .ok (.aload_n 3, 1) := by decide +kernel
theorem d_rs_spread_30 : decode prog_1_method_13_code 30 = .ok (.getfield 78, 3) := by decide +kernel
theorem d_rs_spread_33 : decode prog_1_method_13_code 33 = .ok (.imul, 1) := by decide +kernel
theorem d_rs_spread_34 : decode prog_1_method_13_code 34 = .ok (.istore 4, 2) := by decide +kernel
theorem d_rs_spread_36 : decode prog_1_method_13_code 36 = .ok (.aload_n 0, 1) := by decide +kernel
theorem d_rs_spread_37 : decode prog_1_method_13_code 37 = .ok (.iload 4, 2) := by decide +kernel
theorem d_rs_spread_39 : decode prog_1_method_13_code 39 = .ok (.invokevirtual 60, 3) := by decide +kernel
theorem d_rs_spread_42 : decode prog_1_method_13_code 42 = .ok (.istore 5, 2) := by decide +kernel
theorem d_rs_spread_44 : decode prog_1_method_13_code 44 = .ok (.iload 5, 2) := by decide +kernel
theorem d_rs_spread_46 : decode prog_1_method_13_code 46 = .ok (.ifCond .ge 6, 3) := by decide +kernel
theorem d_rs_spread_49 : decode prog_1_method_13_code 49 = .ok (.iload 5, 2) := by decide +kernel
theorem d_rs_spread_51 : decode prog_1_method_13_code 51 = .ok (.ireturn, 1) := by decide +kernel
theorem d_rs_spread_52 : decode prog_1_method_13_code 52 = .ok (.iconst 0, 1) := by decide +kernel
theorem d_rs_spread_53 : decode prog_1_method_13_code 53 = .ok (.istore 6, 2) := by decide +kernel
theorem d_rs_spread_55 : decode prog_1_method_13_code 55 = .ok (.iload 6, 2) := by decide +kernel
theorem d_rs_spread_57 : decode prog_1_method_13_code 57 = .ok (.iconst 2, 1) := by decide +kernel
theorem d_rs_spread_58 : decode prog_1_method_13_code 58 = .ok (.iload 4, 2) := by decide +kernel
theorem d_rs_spread_60 : decode prog_1_method_13_code 60 = .ok (.imul, 1) := by decide +kernel
theorem d_rs_spread_61 : decode prog_1_method_13_code 61 = .ok (.if_icmp .ge 36, 3) := by decide +kernel
theorem d_rs_spread_64 : decode prog_1_method_13_code 64 = .ok (.aload_n 0, 1) := by decide +kernel
theorem d_rs_spread_65 : decode prog_1_method_13_code 65 = .ok (.getfield 19, 3) := by decide +kernel
theorem d_rs_spread_68 : decode prog_1_method_13_code 68 = .ok (.iload 6, 2) := by decide +kernel
theorem d_rs_spread_70 : decode prog_1_method_13_code 70 = .ok (.iload 6, 2) := by decide +kernel
theorem d_rs_spread_72 : decode prog_1_method_13_code 72 = .ok (.iload_n 2, 1) := by decide +kernel
theorem d_rs_spread_73 : decode prog_1_method_13_code 73 = .ok (.irem, 1) := by decide +kernel
theorem d_rs_spread_74 : decode prog_1_method_13_code 74 = .ok (.ifCond .ne 15, 3) := by decide +kernel
theorem d_rs_spread_77 : decode prog_1_method_13_code 77 = .ok (.aload_n 3, 1) := by decide +kernel
theorem d_rs_spread_78 : decode prog_1_method_13_code 78 = .ok (.getfield 81, 3) := by decide +kernel
theorem d_rs_spread_81 : decode prog_1_method_13_code 81 = .ok (.iload 6, 2) := by decide +kernel
theorem d_rs_spread_83 : decode prog_1_method_13_code 83 = .ok (.iload_n 2, 1) := by decide +kernel
theorem d_rs_spread_84 : decode prog_1_method_13_code 84 = .ok (.idiv, 1) := by decide +kernel
theorem d_rs_spread_85 : decode prog_1_method_13_code 85 = .ok (.laload, 1) := by decide +kernel
theorem d_rs_spread_86 : decode prog_1_method_13_code 86 = .ok (.goto 4, 3) := by decide +kernel
theorem d_rs_spread_89 : decode prog_1_method_13_code 89 = .ok (.lconst 0, 1) := by decide +kernel
theorem d_rs_spread_90 : decode prog_1_method_13_code 90 = .ok (.lastore, 1) := by decide +kernel
theorem d_rs_spread_91 : decode prog_1_method_13_code 91 = .ok (.iinc 6 1, 3) := by decide +kernel
theorem d_rs_spread_94 : decode prog_1_method_13_code 94 = .ok (.goto (-39), 3) := by decide +kernel
theorem d_rs_spread_97 : decode prog_1_method_13_code 97 = .ok (.aload_n 0, 1) := by decide +kernel
theorem d_rs_spread_98 : decode prog_1_method_13_code 98 = .ok (.iload 4, 2) := by decide +kernel
theorem d_rs_spread_100 : decode prog_1_method_13_code 100 = .ok (.invokevirtual 72, 3) := by decide +kernel
theorem d_rs_spread_103 : decode prog_1_method_13_code 103 = .ok (.ireturn, 1) := by decide +kernel
theorem d_rs_forget_0 : decode prog_1_method_14_code 0 = .ok (.aload_n 0, 1) := by decide +kernel
theorem d_rs_forget_1 : decode prog_1_method_14_code 1 = .ok (.getfield 47, 3) := by decide +kernel
theorem d_rs_forget_4 : decode prog_1_method_14_code 4 = .ok (.ifCond .ne 5, 3) := by decide +kernel
theorem d_rs_forget_7 : decode prog_1_method_14_code 7 = .ok (.iconst 0, 1) := by decide +kernel
theorem d_rs_forget_8 : decode prog_1_method_14_code 8 = .ok (.ireturn, 1) := by decide +kernel
theorem d_rs_forget_9 : decode prog_1_method_14_code 9 = .ok (.aload_n 0, 1) := by decide +kernel
theorem d_rs_forget_10 : decode prog_1_method_14_code 10 = .ok (.dup, 1) := by decide +kernel
theorem d_rs_forget_11 : decode prog_1_method_14_code 11 = .ok (.getfield 47, 3) := by decide +kernel
theorem d_rs_forget_14 : decode prog_1_method_14_code 14 = .ok (.iconst 1, 1) := by decide +kernel
theorem d_rs_forget_15 : decode prog_1_method_14_code 15 = .ok (.isub, 1) := by decide +kernel
theorem d_rs_forget_16 : decode prog_1_method_14_code 16 = .ok (.putfield 47, 3) := by decide +kernel
theorem d_rs_forget_19 : decode prog_1_method_14_code 19 = .ok (.iconst 1, 1) := by decide +kernel
theorem d_rs_forget_20 : decode prog_1_method_14_code 20 = .ok (.ireturn, 1) := by decide +kernel
theorem d_rs_count_0 : decode prog_1_method_15_code 0 = .ok (.aload_n 0, 1) := by decide +kernel
theorem d_rs_count_1 : decode prog_1_method_15_code 1 = .ok (.getfield 47, 3) := by decide +kernel
theorem d_rs_count_4 : decode prog_1_method_15_code 4 = .ok (.ireturn, 1) := by decide +kernel
theorem d_rs_order_0 : decode prog_1_method_16_code 0 = .ok (.aload_n 0, 1) := by decide +kernel
theorem d_rs_order_1 : decode prog_1_method_16_code 1 = .ok (.iload_n 1, 1) := by decide +kernel
theorem d_rs_order_2 : decode prog_1_method_16_code 2 = .ok (.invokevirtual 75, 3) := by decide +kernel
theorem d_rs_order_5 : decode prog_1_method_16_code 5 = .ok (.ifCond .eq 15, 3) := by decide +kernel
theorem d_rs_order_8 : decode prog_1_method_16_code 8 = .ok (.aload_n 0, 1) := by decide +kernel
theorem d_rs_order_9 : decode prog_1_method_16_code 9 = .ok (.getfield 11, 3) := by decide +kernel
theorem d_rs_order_12 : decode prog_1_method_16_code 12 = .ok (.iload_n 1, 1) := by decide +kernel
theorem d_rs_order_13 : decode prog_1_method_16_code 13 = .ok (.aaload, 1) := by decide +kernel
theorem d_rs_order_14 : decode prog_1_method_16_code 14 = .ok (.getfield 78, 3) := by decide +kernel
theorem d_rs_order_17 : decode prog_1_method_16_code 17 = .ok (.goto 4, 3) := by decide +kernel
theorem d_rs_order_20 : decode prog_1_method_16_code 20 = .ok (.iconst (-1), 1) := by decide +kernel
theorem d_rs_order_21 : decode prog_1_method_16_code 21 = .ok (.ireturn, 1) := by decide +kernel
theorem d_rs_coefficient_0 : decode prog_1_method_17_code 0 = .ok (.aload_n 0, 1) := by decide +kernel
theorem d_rs_coefficient_1 : decode prog_1_method_17_code 1 = .ok (.iload_n 1, 1) := by decide +kernel
theorem d_rs_coefficient_2 : decode prog_1_method_17_code 2 = .ok (.invokevirtual 75, 3) := by decide +kernel
theorem d_rs_coefficient_5 : decode prog_1_method_17_code 5 = .ok (.ifCond .eq 21, 3) := by decide +kernel
theorem d_rs_coefficient_8 : decode prog_1_method_17_code 8 = .ok (.iload_n 2, 1) := by decide +kernel
theorem d_rs_coefficient_9 : decode prog_1_method_17_code 9 = .ok (.iconst 1, 1) := by decide +kernel
theorem d_rs_coefficient_10 : decode prog_1_method_17_code 10 = .ok (.if_icmp .lt 16, 3) := by decide +kernel
theorem d_rs_coefficient_13 : decode prog_1_method_17_code 13 = .ok (.iload_n 2, 1) := by decide +kernel
theorem d_rs_coefficient_14 : decode prog_1_method_17_code 14 = .ok (.aload_n 0, 1) := by decide +kernel
theorem d_rs_coefficient_15 : decode prog_1_method_17_code 15 = .ok (.getfield 11, 3) := by decide +kernel
theorem d_rs_coefficient_18 : decode prog_1_method_17_code 18 = .ok (.iload_n 1, 1) := by decide +kernel
theorem d_rs_coefficient_19 : decode prog_1_method_17_code 19 = .ok (.aaload, 1) := by decide +kernel
theorem d_rs_coefficient_20 : decode prog_1_method_17_code 20 = .ok (.getfield 78, 3) := by decide +kernel
theorem d_rs_coefficient_23 : decode prog_1_method_17_code 23 = .ok (.if_icmp .le 5, 3) := by decide +kernel
theorem d_rs_coefficient_26 : decode prog_1_method_17_code 26 = .ok (.iconst (-1), 1) := by decide +kernel
theorem d_rs_coefficient_27 : decode prog_1_method_17_code 27 = .ok (.ireturn, 1) := by decide +kernel
theorem d_rs_coefficient_28 : decode prog_1_method_17_code 28 = .ok (.aload_n 0, 1) := by decide +kernel
theorem d_rs_coefficient_29 : decode prog_1_method_17_code 29 = .ok (.getfield 11, 3) := by decide +kernel
theorem d_rs_coefficient_32 : decode prog_1_method_17_code 32 = .ok (.iload_n 1, 1) := by decide +kernel
theorem d_rs_coefficient_33 : decode prog_1_method_17_code 33 = .ok (.aaload, 1) := by decide +kernel
theorem d_rs_coefficient_34 : decode prog_1_method_17_code 34 = .ok (.getfield 99, 3) := by decide +kernel
theorem d_rs_coefficient_37 : decode prog_1_method_17_code 37 = .ok (.iload_n 2, 1) := by decide +kernel
theorem d_rs_coefficient_38 : decode prog_1_method_17_code 38 = .ok (.iconst 1, 1) := by decide +kernel
theorem d_rs_coefficient_39 : decode prog_1_method_17_code 39 = .ok (.isub, 1) := by decide +kernel
theorem d_rs_coefficient_40 : decode prog_1_method_17_code 40 = .ok (.laload, 1) := by decide +kernel
theorem d_rs_coefficient_41 : decode prog_1_method_17_code 41 = .ok (.l2i, 1) := by decide +kernel
theorem d_rs_coefficient_42 : decode prog_1_method_17_code 42 = .ok (.ireturn, 1) := by decide +kernel
theorem d_rs_term_0 : decode prog_1_method_18_code 0 = .ok (.aload_n 0, 1) := by decide +kernel
theorem d_rs_term_1 : decode prog_1_method_18_code 1 = .ok (.iload_n 1, 1) := by decide +kernel
theorem d_rs_term_2 : decode prog_1_method_18_code 2 = .ok (.invokevirtual 75, 3) := by decide +kernel
theorem d_rs_term_5 : decode prog_1_method_18_code 5 = .ok (.ifCond .eq 9, 3) := by decide +kernel
theorem d_rs_term_8 : decode prog_1_method_18_code 8 = .ok (.lload_n 2, 1) := by decide +kernel
theorem d_rs_term_9 : decode prog_1_method_18_code 9 = .ok (.lconst 0, 1) := by decide +kernel
theorem d_rs_term_10 : decode prog_1_method_18_code 10 = .ok (.lcmp, 1) := by decide +kernel
theorem d_rs_term_11 : decode prog_1_method_18_code 11 = .ok (.ifCond .ge 5, 3) := by decide +kernel
theorem d_rs_term_14 : decode prog_1_method_18_code 14 = .ok (.iconst (-1), 1) := by decide +kernel
theorem d_rs_term_15 : decode prog_1_method_18_code 15 = .ok (.ireturn, 1) := by decide +kernel
theorem d_rs_term_16 : decode prog_1_method_18_code 16 = .ok (.aload_n 0, 1) := by decide +kernel
theorem d_rs_term_17 : decode prog_1_method_18_code 17 = .ok (.getfield 35, 3) := by decide +kernel
theorem d_rs_term_20 : decode prog_1_method_18_code 20 = .ok (.aload_n 0, 1) := by decide +kernel
theorem d_rs_term_21 : decode prog_1_method_18_code 21 = .ok (.getfield 11, 3) := by decide +kernel
theorem d_rs_term_24 : decode prog_1_method_18_code 24 = .ok (.iload_n 1, 1) := by decide +kernel
theorem d_rs_term_25 : decode prog_1_method_18_code 25 = .ok (.aaload, 1) := by decide +kernel
theorem d_rs_term_26 : decode prog_1_method_18_code 26 = .ok (.lload_n 2, 1) := by decide +kernel
theorem d_rs_term_27 : decode prog_1_method_18_code 27 = .ok (.invokevirtual 102, 3) := by decide +kernel
theorem d_rs_term_30 : decode prog_1_method_18_code 30 = .ok (.l2i, 1) := by decide +kernel
theorem d_rs_term_31 : decode prog_1_method_18_code 31 = .ok (.ireturn, 1) := by decide +kernel
theorem d_rs_differ_0 : decode prog_1_method_19_code 0 = .ok (.aload_n 0, 1) := by decide +kernel
theorem d_rs_differ_1 : decode prog_1_method_19_code 1 = .ok (.iload_n 1, 1) := by decide +kernel
theorem d_rs_differ_2 : decode prog_1_method_19_code 2 = .ok (.invokevirtual 75, 3) := by decide +kernel
theorem d_rs_differ_5 : decode prog_1_method_19_code 5 = .ok (.ifCond .eq 11, 3) := by decide +kernel
theorem d_rs_differ_8 : decode prog_1_method_19_code 8 = .ok (.aload_n 0, 1) := by decide +kernel
theorem d_rs_differ_9 : decode prog_1_method_19_code 9 = .ok (.iload_n 2, 1) := by decide +kernel
theorem d_rs_differ_10 : decode prog_1_method_19_code 10 = .ok (.invokevirtual 75, 3) := by decide +kernel
theorem d_rs_differ_13 : decode prog_1_method_19_code 13 = .ok (.ifCond .ne 6, 3) := by decide +kernel
theorem d_rs_differ_16 : decode prog_1_method_19_code 16 = .ok (.bipush (-2), 2) := by decide +kernel
theorem d_rs_differ_18 : decode prog_1_method_19_code 18 = .ok (.ireturn, 1) := by decide +kernel
theorem d_rs_differ_19 : decode prog_1_method_19_code 19 = .ok (.aload_n 0, 1) := by decide +kernel
theorem d_rs_differ_20 : decode prog_1_method_19_code 20 = .ok (.getfield 11, 3) := by decide +kernel
theorem d_rs_differ_23 : decode prog_1_method_19_code 23 = .ok (.iload_n 1, 1) := by decide +kernel
theorem d_rs_differ_24 : decode prog_1_method_19_code 24 = .ok (.aaload, 1) := by decide +kernel
theorem d_rs_differ_25 : decode prog_1_method_19_code 25 = .ok (.astore_n 3, 1) := by decide +kernel
theorem d_rs_differ_26 : decode prog_1_method_19_code 26 = .ok (.aload_n 0, 1) := by decide +kernel
theorem d_rs_differ_27 : decode prog_1_method_19_code 27 = .ok (.getfield 11, 3) := by decide +kernel
theorem d_rs_differ_30 : decode prog_1_method_19_code 30 = .ok (.iload_n 2, 1) := by decide +kernel
theorem d_rs_differ_31 : decode prog_1_method_19_code 31 = .ok (.aaload, 1) := by decide +kernel
theorem d_rs_differ_32 : decode prog_1_method_19_code 32 = .ok (.astore 4, 2) := by decide +kernel
theorem d_rs_differ_34 : decode prog_1_method_19_code 34 = .ok (.iconst 0, 1) := by decide +kernel
theorem d_rs_differ_35 : decode prog_1_method_19_code 35 = .ok (.istore 5, 2) := by decide +kernel
theorem d_rs_differ_37 : decode prog_1_method_19_code 37 = .ok (.iload 5, 2) := by decide +kernel
theorem d_rs_differ_39 : decode prog_1_method_19_code 39 = .ok (.bipush 48, 2) := by decide +kernel
theorem d_rs_differ_41 : decode prog_1_method_19_code 41 = .ok (.if_icmp .ge 31, 3) := by decide +kernel
theorem d_rs_differ_44 : decode prog_1_method_19_code 44 = .ok (.aload_n 3, 1) := by decide +kernel
theorem d_rs_differ_45 : decode prog_1_method_19_code 45 = .ok (.getfield 81, 3) := by decide +kernel
theorem d_rs_differ_48 : decode prog_1_method_19_code 48 = .ok (.iload 5, 2) := by decide +kernel
theorem d_rs_differ_50 : decode prog_1_method_19_code 50 = .ok (.laload, 1) := by decide +kernel
theorem d_rs_differ_51 : decode prog_1_method_19_code 51 = .ok (.aload 4, 2) := by decide +kernel
theorem d_rs_differ_53 : decode prog_1_method_19_code 53 = .ok (.getfield 81, 3) := by decide +kernel
theorem d_rs_differ_56 : decode prog_1_method_19_code 56 = .ok (.iload 5, 2) := by decide +kernel
theorem d_rs_differ_58 : decode prog_1_method_19_code 58 = .ok (.laload, 1) := by decide +kernel
theorem d_rs_differ_59 : decode prog_1_method_19_code 59 = .ok (.lcmp, 1) := by decide +kernel
theorem d_rs_differ_60 : decode prog_1_method_19_code 60 = .ok (.ifCond .eq 6, 3) := by decide +kernel
theorem d_rs_differ_63 : decode prog_1_method_19_code 63 = .ok (.iload 5, 2) := by decide +kernel
theorem d_rs_differ_65 : decode prog_1_method_19_code 65 = .ok (.ireturn, 1) := by decide +kernel
theorem d_rs_differ_66 : decode prog_1_method_19_code 66 = .ok (.iinc 5 1, 3) := by decide +kernel
theorem d_rs_differ_69 : decode prog_1_method_19_code 69 = .ok (.goto (-32), 3) := by decide +kernel
theorem d_rs_differ_72 : decode prog_1_method_19_code 72 = .ok (.iconst (-1), 1) := by decide +kernel
theorem d_rs_differ_73 : decode prog_1_method_19_code 73 = .ok (.ireturn, 1) := by decide +kernel
theorem d_rs_obeys_0 : decode prog_1_method_20_code 0 = .ok (.aload_n 0, 1) := by decide +kernel
theorem d_rs_obeys_1 : decode prog_1_method_20_code 1 = .ok (.iload_n 1, 1) := by decide +kernel
theorem d_rs_obeys_2 : decode prog_1_method_20_code 2 = .ok (.invokevirtual 75, 3) := by decide +kernel
theorem d_rs_obeys_5 : decode prog_1_method_20_code 5 = .ok (.ifCond .ne 5, 3) := by decide +kernel
theorem d_rs_obeys_8 : decode prog_1_method_20_code 8 = .ok (.iconst 0, 1) := by decide +kernel
theorem d_rs_obeys_9 : decode prog_1_method_20_code 9 = .ok (.ireturn, 1) := by decide +kernel
theorem d_rs_obeys_10 : decode prog_1_method_20_code 10 = .ok (.aload_n 0, 1) := by decide +kernel
theorem d_rs_obeys_11 : decode prog_1_method_20_code 11 = .ok (.getfield 11, 3) := by decide +kernel
theorem d_rs_obeys_14 : decode prog_1_method_20_code 14 = .ok (.iload_n 1, 1) := by decide +kernel
theorem d_rs_obeys_15 : decode prog_1_method_20_code 15 = .ok (.aaload, 1) := by decide +kernel
theorem d_rs_obeys_16 : decode prog_1_method_20_code 16 = .ok (.astore_n 2, 1) := by decide +kernel
theorem d_rs_obeys_17 : decode prog_1_method_20_code 17 = .ok (.aload_n 0, 1) := by decide +kernel
theorem d_rs_obeys_18 : decode prog_1_method_20_code 18 = .ok (.getfield 51, 3) := by decide +kernel
theorem d_rs_obeys_21 : decode prog_1_method_20_code 21 = .ok (.istore_n 3, 1) := by decide +kernel
theorem d_rs_obeys_22 : decode prog_1_method_20_code 22 = .ok (.iload_n 3, 1) := by decide +kernel
theorem d_rs_obeys_23 : decode prog_1_method_20_code 23 = .ok (.aload_n 0, 1) := by decide +kernel
theorem d_rs_obeys_24 : decode prog_1_method_20_code 24 = .ok (.getfield 51, 3) := by decide +kernel
theorem d_rs_obeys_27 : decode prog_1_method_20_code 27 = .ok (.aload_n 2, 1) := by decide +kernel
theorem d_rs_obeys_28 : decode prog_1_method_20_code 28 = .ok (.getfield 78, 3) := by decide +kernel
theorem d_rs_obeys_31 : decode prog_1_method_20_code 31 = .ok (.iadd, 1) := by decide +kernel
theorem d_rs_obeys_32 : decode prog_1_method_20_code 32 = .ok (.if_icmp .ge 37, 3) := by decide +kernel
theorem d_rs_obeys_35 : decode prog_1_method_20_code 35 = .ok (.aload_n 2, 1) := by decide +kernel
theorem d_rs_obeys_36 : decode prog_1_method_20_code 36 = .ok (.getfield 81, 3) := by decide +kernel
theorem d_rs_obeys_39 : decode prog_1_method_20_code 39 = .ok (.iload_n 3, 1) := by decide +kernel
theorem d_rs_obeys_40 : decode prog_1_method_20_code 40 = .ok (.laload, 1) := by decide +kernel
theorem d_rs_obeys_41 : decode prog_1_method_20_code 41 = .ok (.aload_n 0, 1) := by decide +kernel
theorem d_rs_obeys_42 : decode prog_1_method_20_code 42 = .ok (.getfield 15, 3) := by decide +kernel
theorem d_rs_obeys_45 : decode prog_1_method_20_code 45 = .ok (.aload_n 0, 1) := by decide +kernel
theorem d_rs_obeys_46 : decode prog_1_method_20_code 46 = .ok (.getfield 51, 3) := by decide +kernel
theorem d_rs_obeys_49 : decode prog_1_method_20_code 49 = .ok (.aload_n 2, 1) := by decide +kernel
theorem d_rs_obeys_50 : decode prog_1_method_20_code 50 = .ok (.getfield 81, 3) := by decide +kernel
theorem d_rs_obeys_53 : decode prog_1_method_20_code 53 = .ok (.iload_n 3, 1) := by decide +kernel
theorem d_rs_obeys_54 : decode prog_1_method_20_code 54 = .ok (.invokestatic 68, 3) := by decide +kernel
theorem d_rs_obeys_57 : decode prog_1_method_20_code 57 = .ok (.lcmp, 1) := by decide +kernel
theorem d_rs_obeys_58 : decode prog_1_method_20_code 58 = .ok (.ifCond .eq 5, 3) := by decide +kernel
theorem d_rs_obeys_61 : decode prog_1_method_20_code 61 = .ok (.iconst 0, 1) := by decide +kernel
theorem d_rs_obeys_62 : decode prog_1_method_20_code 62 = .ok (.ireturn, 1) := by decide +kernel
theorem d_rs_obeys_63 : decode prog_1_method_20_code 63 = .ok (.iinc 3 1, 3) := by decide +kernel
theorem d_rs_obeys_66 : decode prog_1_method_20_code 66 = .ok (.goto (-44), 3) := by decide +kernel
theorem d_rs_obeys_69 : decode prog_1_method_20_code 69 = .ok (.iconst 1, 1) := by decide +kernel
theorem d_rs_obeys_70 : decode prog_1_method_20_code 70 = .ok (.ireturn, 1) := by decide +kernel
theorem d_rs_shared_0 : decode prog_1_method_21_code 0 = .ok (.aload_n 0, 1) := by decide +kernel
theorem d_rs_shared_1 : decode prog_1_method_21_code 1 = .ok (.iload_n 1, 1) := by decide +kernel
theorem d_rs_shared_2 : decode prog_1_method_21_code 2 = .ok (.invokevirtual 75, 3) := by decide +kernel
theorem d_rs_shared_5 : decode prog_1_method_21_code 5 = .ok (.ifCond .eq 11, 3) := by decide +kernel
theorem d_rs_shared_8 : decode prog_1_method_21_code 8 = .ok (.aload_n 0, 1) := by decide +kernel
theorem d_rs_shared_9 : decode prog_1_method_21_code 9 = .ok (.iload_n 2, 1) := by decide +kernel
theorem d_rs_shared_10 : decode prog_1_method_21_code 10 = .ok (.invokevirtual 75, 3) := by decide +kernel
theorem d_rs_shared_13 : decode prog_1_method_21_code 13 = .ok (.ifCond .ne 5, 3) := by decide +kernel
theorem d_rs_shared_16 : decode prog_1_method_21_code 16 = .ok (.iconst (-1), 1) := by decide +kernel
theorem d_rs_shared_17 : decode prog_1_method_21_code 17 = .ok (.ireturn, 1) := by decide +kernel
theorem d_rs_shared_18 : decode prog_1_method_21_code 18 = .ok (.aload_n 0, 1) := by decide +kernel
theorem d_rs_shared_19 : decode prog_1_method_21_code 19 = .ok (.getfield 11, 3) := by decide +kernel
theorem d_rs_shared_22 : decode prog_1_method_21_code 22 = .ok (.iload_n 1, 1) := by decide +kernel
theorem d_rs_shared_23 : decode prog_1_method_21_code 23 = .ok (.aaload, 1) := by decide +kernel
theorem d_rs_shared_24 : decode prog_1_method_21_code 24 = .ok (.astore_n 3, 1) := by decide +kernel
theorem d_rs_shared_25 : decode prog_1_method_21_code 25 = .ok (.aload_n 0, 1) := by decide +kernel
theorem d_rs_shared_26 : decode prog_1_method_21_code 26 = .ok (.getfield 11, 3) := by decide +kernel
theorem d_rs_shared_29 : decode prog_1_method_21_code 29 = .ok (.iload_n 2, 1) := by decide +kernel
theorem d_rs_shared_30 : decode prog_1_method_21_code 30 = .ok (.aaload, 1) := by decide +kernel
theorem d_rs_shared_31 : decode prog_1_method_21_code 31 = .ok (.astore 4, 2) := by decide +kernel
theorem d_rs_shared_33 : decode prog_1_method_21_code 33 = .ok (.aload_n 3, 1) := by decide +kernel
theorem d_rs_shared_34 : decode prog_1_method_21_code 34 = .ok (.getfield 78, 3) := by decide +kernel
theorem d_rs_shared_37 : decode prog_1_method_21_code 37 = .ok (.aload 4, 2) := by decide +kernel
theorem d_rs_shared_39 : decode prog_1_method_21_code 39 = .ok (.getfield 78, 3) := by decide +kernel
theorem d_rs_shared_42 : decode prog_1_method_21_code 42 = .ok (.iadd, 1) := by decide +kernel
theorem d_rs_shared_43 : decode prog_1_method_21_code 43 = .ok (.aload_n 0, 1) := by decide +kernel
theorem d_rs_shared_44 : decode prog_1_method_21_code 44 = .ok (.getfield 42, 3) := by decide +kernel
theorem d_rs_shared_47 : decode prog_1_method_21_code 47 = .ok (.aload_n 3, 1) := by decide +kernel
theorem d_rs_shared_48 : decode prog_1_method_21_code 48 = .ok (.aload 4, 2) := by decide +kernel
theorem d_rs_shared_50 : decode prog_1_method_21_code 50 = .ok (.invokevirtual 106, 3) := by decide +kernel
theorem d_rs_shared_53 : decode prog_1_method_21_code 53 = .ok (.isub, 1) := by decide +kernel
theorem d_rs_shared_54 : decode prog_1_method_21_code 54 = .ok (.ireturn, 1) := by decide +kernel
theorem d_rs_isListed_0 : decode prog_1_method_22_code 0 = .ok (.iload_n 1, 1) := by decide +kernel
theorem d_rs_isListed_1 : decode prog_1_method_22_code 1 = .ok (.ifCond .lt 15, 3) := by decide +kernel
theorem d_rs_isListed_4 : decode prog_1_method_22_code 4 = .ok (.iload_n 1, 1) := by decide +kernel
theorem d_rs_isListed_5 : decode prog_1_method_22_code 5 = .ok (.aload_n 0, 1) := by decide +kernel
theorem d_rs_isListed_6 : decode prog_1_method_22_code 6 = .ok (.getfield 47, 3) := by decide +kernel
theorem d_rs_isListed_9 : decode prog_1_method_22_code 9 = .ok (.if_icmp .ge 7, 3) := by decide +kernel
theorem d_rs_isListed_12 : decode prog_1_method_22_code 12 = .ok (.iconst 1, 1) := by decide +kernel
theorem d_rs_isListed_13 : decode prog_1_method_22_code 13 = .ok (.goto 4, 3) := by decide +kernel
theorem d_rs_isListed_16 : decode prog_1_method_22_code 16 = .ok (.iconst 0, 1) := by decide +kernel
theorem d_rs_isListed_17 : decode prog_1_method_22_code 17 = .ok (.ireturn, 1) := by decide +kernel
theorem d_rs_numberFor_0 : decode prog_1_method_23_code 0 = .ok (.aload_n 0, 1) := by decide +kernel
theorem d_rs_numberFor_1 : decode prog_1_method_23_code 1 = .ok (.getfield 47, 3) := by decide +kernel
theorem d_rs_numberFor_4 : decode prog_1_method_23_code 4 = .ok (.bipush 20, 2) := by decide +kernel
theorem d_rs_numberFor_6 : decode prog_1_method_23_code 6 = .ok (.if_icmp .lt 6, 3) := by decide +kernel
theorem d_rs_numberFor_9 : decode prog_1_method_23_code 9 = .ok (.bipush (-2), 2) := by decide +kernel
theorem d_rs_numberFor_11 : decode prog_1_method_23_code 11 = .ok (.ireturn, 1) := by decide +kernel
theorem d_rs_numberFor_12 : decode prog_1_method_23_code 12 = .ok (.iload_n 1, 1) := by decide +kernel
theorem d_rs_numberFor_13 : decode prog_1_method_23_code 13 = .ok (.bipush 24, 2) := by decide +kernel
theorem d_rs_numberFor_15 : decode prog_1_method_23_code 15 = .ok (.if_icmp .le 8, 3) := by decide +kernel
theorem d_rs_numberFor_18 : decode prog_1_method_23_code 18 = .ok (.bipush (-3), 2) := by decide +kernel
theorem d_rs_numberFor_20 : decode prog_1_method_23_code 20 = .ok (.goto 7, 3) := by decide +kernel
theorem d_rs_numberFor_23 : decode prog_1_method_23_code 23 = .ok (.aload_n 0, 1) := by decide +kernel
theorem d_rs_numberFor_24 : decode prog_1_method_23_code 24 = .ok (.getfield 47, 3) := by decide +kernel
theorem d_rs_numberFor_27 : decode prog_1_method_23_code 27 = .ok (.ireturn, 1) := by decide +kernel
theorem d_rs_othersFit_0 : decode prog_1_method_24_code 0 = .ok (.iconst 2, 1) := by decide +kernel
theorem d_rs_othersFit_1 : decode prog_1_method_24_code 1 = .ok (.iload_n 1, 1) := by decide +kernel
theorem d_rs_othersFit_2 : decode prog_1_method_24_code 2 = .ok (.imul, 1) := by decide +kernel
theorem d_rs_othersFit_3 : decode prog_1_method_24_code 3 = .ok (.istore_n 2, 1) := by decide +kernel
theorem d_rs_othersFit_4 : decode prog_1_method_24_code 4 = .ok (.iload_n 2, 1) := by decide +kernel
theorem d_rs_othersFit_5 : decode prog_1_method_24_code 5 = .ok (.aload_n 0, 1) := by decide +kernel
theorem d_rs_othersFit_6 : decode prog_1_method_24_code 6 = .ok (.getfield 51, 3) := by decide +kernel
theorem d_rs_othersFit_9 : decode prog_1_method_24_code 9 = .ok (.if_icmp .ge 34, 3) := by decide +kernel
theorem d_rs_othersFit_12 : decode prog_1_method_24_code 12 = .ok (.aload_n 0, 1) := by decide +kernel
theorem d_rs_othersFit_13 : decode prog_1_method_24_code 13 = .ok (.getfield 15, 3) := by decide +kernel
theorem d_rs_othersFit_16 : decode prog_1_method_24_code 16 = .ok (.iload_n 2, 1) := by decide +kernel
theorem d_rs_othersFit_17 : decode prog_1_method_24_code 17 = .ok (.laload, 1) := by decide +kernel
theorem d_rs_othersFit_18 : decode prog_1_method_24_code 18 = .ok (.aload_n 0, 1) := by decide +kernel
theorem d_rs_othersFit_19 : decode prog_1_method_24_code 19 = .ok (.getfield 15, 3) := by decide +kernel
theorem d_rs_othersFit_22 : decode prog_1_method_24_code 22 = .ok (.iload_n 1, 1) := by decide +kernel
theorem d_rs_othersFit_23 : decode prog_1_method_24_code 23 = .ok (.aload_n 0, 1) := by decide +kernel
theorem d_rs_othersFit_24 : decode prog_1_method_24_code 24 = .ok (.getfield 15, 3) := by decide +kernel
theorem d_rs_othersFit_27 : decode prog_1_method_24_code 27 = .ok (.iload_n 2, 1) := by decide +kernel
theorem d_rs_othersFit_28 : decode prog_1_method_24_code 28 = .ok (.invokestatic 68, 3) := by decide +kernel
theorem d_rs_othersFit_31 : decode prog_1_method_24_code 31 = .ok (.lcmp, 1) := by decide +kernel
theorem d_rs_othersFit_32 : decode prog_1_method_24_code 32 = .ok (.ifCond .eq 5, 3) := by decide +kernel
theorem d_rs_othersFit_35 : decode prog_1_method_24_code 35 = .ok (.iconst 0, 1) := by decide +kernel
theorem d_rs_othersFit_36 : decode prog_1_method_24_code 36 = .ok (.ireturn, 1) := by decide +kernel
theorem d_rs_othersFit_37 : decode prog_1_method_24_code 37 = .ok (.iinc 2 1, 3) := by decide +kernel
theorem d_rs_othersFit_40 : decode prog_1_method_24_code 40 = .ok (.goto (-36), 3) := by decide +kernel
theorem d_rs_othersFit_43 : decode prog_1_method_24_code 43 = .ok (.iconst 1, 1) := by decide +kernel
theorem d_rs_othersFit_44 : decode prog_1_method_24_code 44 = .ok (.ireturn, 1) := by decide +kernel
theorem d_rs_enlist_0 : decode prog_1_method_25_code 0 = .ok (.aload_n 0, 1) := by decide +kernel
theorem d_rs_enlist_1 : decode prog_1_method_25_code 1 = .ok (.getfield 11, 3) := by decide +kernel
theorem d_rs_enlist_4 : decode prog_1_method_25_code 4 = .ok (.aload_n 0, 1) := by decide +kernel
theorem d_rs_enlist_5 : decode prog_1_method_25_code 5 = .ok (.getfield 47, 3) := by decide +kernel
theorem d_rs_enlist_8 : decode prog_1_method_25_code 8 = .ok (.aaload, 1) := by decide +kernel
theorem d_rs_enlist_9 : decode prog_1_method_25_code 9 = .ok (.astore_n 2, 1) := by decide +kernel
theorem d_rs_enlist_10 : decode prog_1_method_25_code 10 = .ok (.aload_n 0, 1) := by decide +kernel
theorem d_rs_enlist_11 : decode prog_1_method_25_code 11 = .ok (.getfield 28, 3) := by decide +kernel
theorem d_rs_enlist_14 : decode prog_1_method_25_code 14 = .ok (.aload_n 0, 1) := by decide +kernel
theorem d_rs_enlist_15 : decode prog_1_method_25_code 15 = .ok (.getfield 19, 3) := by decide +kernel
theorem d_rs_enlist_18 : decode prog_1_method_25_code 18 = .ok (.iconst 2, 1) := by decide +kernel
theorem d_rs_enlist_19 : decode prog_1_method_25_code 19 = .ok (.iload_n 1, 1) := by decide +kernel
theorem d_rs_enlist_20 : decode prog_1_method_25_code 20 = .ok (.imul, 1) := by decide +kernel
theorem d_rs_enlist_21 : decode prog_1_method_25_code 21 = .ok (.aload_n 2, 1) := by decide +kernel
theorem d_rs_enlist_22 : decode prog_1_method_25_code 22 = .ok (.invokevirtual 110, 3) := by decide +kernel
theorem d_rs_enlist_25 : decode prog_1_method_25_code 25 = .ok (.iconst 0, 1) := by decide +kernel
theorem d_rs_enlist_26 : decode prog_1_method_25_code 26 = .ok (.istore_n 3, 1) := by decide +kernel
theorem d_rs_enlist_27 : decode prog_1_method_25_code 27 = .ok (.iload_n 3, 1) := by decide +kernel
theorem d_rs_enlist_28 : decode prog_1_method_25_code 28 = .ok (.aload_n 2, 1) := by decide +kernel
theorem d_rs_enlist_29 : decode prog_1_method_25_code 29 = .ok (.getfield 78, 3) := by decide +kernel
theorem d_rs_enlist_32 : decode prog_1_method_25_code 32 = .ok (.if_icmp .ge 21, 3) := by decide +kernel
theorem d_rs_enlist_35 : decode prog_1_method_25_code 35 = .ok (.aload_n 2, 1) := by decide +kernel
theorem d_rs_enlist_36 : decode prog_1_method_25_code 36 = .ok (.getfield 81, 3) := by decide +kernel
theorem d_rs_enlist_39 : decode prog_1_method_25_code 39 = .ok (.iload_n 3, 1) := by decide +kernel
theorem d_rs_enlist_40 : decode prog_1_method_25_code 40 = .ok (.aload_n 0, 1) := by decide +kernel
theorem d_rs_enlist_41 : decode prog_1_method_25_code 41 = .ok (.getfield 19, 3) := by decide +kernel
theorem d_rs_enlist_44 : decode prog_1_method_25_code 44 = .ok (.iload_n 3, 1) := by decide +kernel
theorem d_rs_enlist_45 : decode prog_1_method_25_code 45 = .ok (.laload, 1) := by decide +kernel
theorem d_rs_enlist_46 : decode prog_1_method_25_code 46 = .ok (.lastore, 1) := by decide +kernel
theorem d_rs_enlist_47 : decode prog_1_method_25_code 47 = .ok (.iinc 3 1, 3) := by decide +kernel
theorem d_rs_enlist_50 : decode prog_1_method_25_code 50 = .ok (.goto (-23), 3) := by decide +kernel
theorem d_rs_enlist_53 : decode prog_1_method_25_code 53 = .ok (.aload_n 2, 1) := by decide +kernel
theorem d_rs_enlist_54 : decode prog_1_method_25_code 54 = .ok (.aload_n 2, 1) := by decide +kernel
theorem d_rs_enlist_55 : decode prog_1_method_25_code 55 = .ok (.getfield 81, 3) := by decide +kernel
theorem d_rs_enlist_58 : decode prog_1_method_25_code 58 = .ok (.bipush 88, 2) := by decide +kernel
theorem d_rs_enlist_60 : decode prog_1_method_25_code 60 = .ok (.invokevirtual 95, 3) := by decide +kernel
theorem d_rs_enlist_63 : decode prog_1_method_25_code 63 = .ok (.aload_n 0, 1) := by decide +kernel
theorem d_rs_enlist_64 : decode prog_1_method_25_code 64 = .ok (.dup, 1) := by decide +kernel
theorem d_rs_enlist_65 : decode prog_1_method_25_code 65 = .ok (.getfield 47, 3) := by decide +kernel
theorem d_rs_enlist_68 : decode prog_1_method_25_code 68 = .ok (.iconst 1, 1) := by decide +kernel
theorem d_rs_enlist_69 : decode prog_1_method_25_code 69 = .ok (.iadd, 1) := by decide +kernel
theorem d_rs_enlist_70 : decode prog_1_method_25_code 70 = .ok (.putfield 47, 3) := by decide +kernel
theorem d_rs_enlist_73 : decode prog_1_method_25_code 73 = .ok (.aload_n 0, 1) := by decide +kernel
theorem d_rs_enlist_74 : decode prog_1_method_25_code 74 = .ok (.getfield 47, 3) := by decide +kernel
theorem d_rs_enlist_77 : decode prog_1_method_25_code 77 = .ok (.iconst 1, 1) := by decide +kernel
theorem d_rs_enlist_78 : decode prog_1_method_25_code 78 = .ok (.isub, 1) := by decide +kernel
theorem d_rs_enlist_79 : decode prog_1_method_25_code 79 = .ok (.ireturn, 1) := by decide +kernel
end
section
/-! Decode rows, by program -/
theorem d_mo_init_0 : decode prog_8_method_1_code 0 = .ok (.aload_n 0, 1) := by decide +kernel
theorem d_mo_init_1 : decode prog_8_method_1_code 1 = .ok (.invokespecial 1, 3) := by decide +kernel
theorem d_mo_init_4 : decode prog_8_method_1_code 4 = .ok (.aload_n 0, 1) := by decide +kernel
theorem d_mo_init_5 : decode prog_8_method_1_code 5 = .ok (.bipush 40, 2) := by decide +kernel
theorem d_mo_init_7 : decode prog_8_method_1_code 7 = .ok (.newarray .long, 2) := by decide +kernel
theorem d_mo_init_9 : decode prog_8_method_1_code 9 = .ok (.putfield 7, 3) := by decide +kernel
theorem d_mo_init_12 : decode prog_8_method_1_code 12 = .ok (.aload_n 0, 1) := by decide +kernel
theorem d_mo_init_13 : decode prog_8_method_1_code 13 = .ok (.bipush 20, 2) := by decide +kernel
theorem d_mo_init_15 : decode prog_8_method_1_code 15 = .ok (.newarray .int, 2) := by decide +kernel
theorem d_mo_init_17 : decode prog_8_method_1_code 17 = .ok (.putfield 13, 3) := by decide +kernel
theorem d_mo_init_20 : decode prog_8_method_1_code 20 = .ok (.aload_n 0, 1) := by decide +kernel
theorem d_mo_init_21 : decode prog_8_method_1_code 21 = .ok (.sipush 480, 3) := by decide +kernel
theorem d_mo_init_24 : decode prog_8_method_1_code 24 = .ok (.newarray .long, 2) := by decide +kernel
theorem d_mo_init_26 : decode prog_8_method_1_code 26 = .ok (.putfield 17, 3) := by decide +kernel
theorem d_mo_init_29 : decode prog_8_method_1_code 29 = .ok (.aload_n 0, 1) := by decide +kernel
theorem d_mo_init_30 : decode prog_8_method_1_code 30 = .ok (.sipush 480, 3) := by decide +kernel
theorem d_mo_init_33 : decode prog_8_method_1_code 33 = .ok (.newarray .long, 2) := by decide +kernel
theorem d_mo_init_35 : decode prog_8_method_1_code 35 = .ok (.putfield 20, 3) := by decide +kernel
theorem d_mo_init_38 : decode prog_8_method_1_code 38 = .ok (.aload_n 0, 1) := by decide +kernel
theorem d_mo_init_39 : decode prog_8_method_1_code 39 = .ok (.sipush 2400, 3) := by decide +kernel
theorem d_mo_init_42 : decode prog_8_method_1_code 42 = .ok (.newarray .long, 2) := by decide +kernel
theorem d_mo_init_44 : decode prog_8_method_1_code 44 = .ok (.putfield 23, 3) := by decide +kernel
theorem d_mo_init_47 : decode prog_8_method_1_code 47 = .ok (.aload_n 0, 1) := by decide +kernel
theorem d_mo_init_48 : decode prog_8_method_1_code 48 = .ok (.sipush 2352, 3) := by decide +kernel
theorem d_mo_init_51 : decode prog_8_method_1_code 51 = .ok (.newarray .long, 2) := by decide +kernel
theorem d_mo_init_53 : decode prog_8_method_1_code 53 = .ok (.putfield 26, 3) := by decide +kernel
theorem d_mo_init_56 : decode prog_8_method_1_code 56 = .ok (.aload_n 0, 1) := by decide +kernel
theorem d_mo_init_57 : decode prog_8_method_1_code 57 = .ok (.bipush 48, 2) := by decide +kernel
theorem d_mo_init_59 : decode prog_8_method_1_code 59 = .ok (.newarray .int, 2) := by decide +kernel
theorem d_mo_init_61 : decode prog_8_method_1_code 61 = .ok (.putfield 29, 3) := by decide +kernel
theorem d_mo_init_64 : decode prog_8_method_1_code 64 = .ok (.aload_n 0, 1) := by decide +kernel
theorem d_mo_init_65 : decode prog_8_method_1_code 65 = .ok (.sipush 576, 3) := by decide +kernel
theorem d_mo_init_68 : decode prog_8_method_1_code 68 = .ok (.newarray .long, 2) := by decide +kernel
theorem d_mo_init_70 : decode prog_8_method_1_code 70 = .ok (.putfield 32, 3) := by decide +kernel
theorem d_mo_init_73 : decode prog_8_method_1_code 73 = .ok (.aload_n 0, 1) := by decide +kernel
theorem d_mo_init_74 : decode prog_8_method_1_code 74 = .ok (.sipush 576, 3) := by decide +kernel
theorem d_mo_init_77 : decode prog_8_method_1_code 77 = .ok (.newarray .long, 2) := by decide +kernel
theorem d_mo_init_79 : decode prog_8_method_1_code 79 = .ok (.putfield 35, 3) := by decide +kernel
theorem d_mo_init_82 : decode prog_8_method_1_code 82 = .ok (.aload_n 0, 1) := by decide +kernel
theorem d_mo_init_83 : decode prog_8_method_1_code 83 = .ok (.bipush 24, 2) := by decide +kernel
theorem d_mo_init_85 : decode prog_8_method_1_code 85 = .ok (.newarray .long, 2) := by decide +kernel
theorem d_mo_init_87 : decode prog_8_method_1_code 87 = .ok (.putfield 38, 3) := by decide +kernel
theorem d_mo_init_90 : decode prog_8_method_1_code 90 = .ok (.aload_n 0, 1) := by decide +kernel
theorem d_mo_init_91 : decode prog_8_method_1_code 91 = .ok (.bipush 24, 2) := by decide +kernel
theorem d_mo_init_93 : decode prog_8_method_1_code 93 = .ok (.newarray .long, 2) := by decide +kernel
theorem d_mo_init_95 : decode prog_8_method_1_code 95 = .ok (.putfield 41, 3) := by decide +kernel
theorem d_mo_init_98 : decode prog_8_method_1_code 98 = .ok (.return_, 1) := by decide +kernel
theorem d_mo_number_0 : decode prog_8_method_2_code 0 = .ok (.iload_n 0, 1) := by decide +kernel
theorem d_mo_number_1 : decode prog_8_method_2_code 1 = .ok (.i2l, 1) := by decide +kernel
theorem d_mo_number_2 : decode prog_8_method_2_code 2 = .ok (.ldc2_w 44, 3) := by decide +kernel
theorem d_mo_number_5 : decode prog_8_method_2_code 5 = .ok (.lrem, 1) := by decide +kernel
theorem d_mo_number_6 : decode prog_8_method_2_code 6 = .ok (.lstore_n 1, 1) := by decide +kernel
theorem d_mo_number_7 : decode prog_8_method_2_code 7 = .ok (.lload_n 1, 1) := by decide +kernel
theorem d_mo_number_8 : decode prog_8_method_2_code 8 = .ok (.lconst 0, 1) := by decide +kernel
theorem d_mo_number_9 : decode prog_8_method_2_code 9 = .ok (.lcmp, 1) := by decide +kernel
theorem d_mo_number_10 : decode prog_8_method_2_code 10 = .ok (.ifCond .ge 11, 3) := by decide +kernel
theorem d_mo_number_13 : decode prog_8_method_2_code 13 = .ok (.lload_n 1, 1) := by decide +kernel
theorem d_mo_number_14 : decode prog_8_method_2_code 14 = .ok (.ldc2_w 44, 3) := by decide +kernel
theorem d_mo_number_17 : decode prog_8_method_2_code 17 = .ok (.ladd, 1) := by decide +kernel
theorem d_mo_number_18 : decode prog_8_method_2_code 18 = .ok (.goto 4, 3) := by decide +kernel
theorem d_mo_number_21 : decode prog_8_method_2_code 21 = .ok (.lload_n 1, 1) := by decide +kernel
theorem d_mo_number_22 : decode prog_8_method_2_code 22 = .ok (.lreturn, 1) := by decide +kernel
theorem d_mo_inverse_0 : decode prog_8_method_3_code 0 = .ok (.lconst 1, 1) := by decide +kernel
theorem d_mo_inverse_1 : decode prog_8_method_3_code 1 = .ok (.lstore_n 2, 1) := by decide +kernel
theorem d_mo_inverse_2 : decode prog_8_method_3_code 2 = .ok (.lload_n 0, 1) := by decide +kernel
theorem d_mo_inverse_3 : decode prog_8_method_3_code 3 = .ok (.lstore 4, 2) := by decide +kernel
theorem d_mo_inverse_5 : decode prog_8_method_3_code 5 = .ok (.ldc2_w 46, 3) := by decide +kernel
theorem d_mo_inverse_8 : decode prog_8_method_3_code 8 = .ok (.lstore 6, 2) := by decide +kernel
theorem d_mo_inverse_10 : decode prog_8_method_3_code 10 = .ok (.lload 6, 2) := by decide +kernel
theorem d_mo_inverse_12 : decode prog_8_method_3_code 12 = .ok (.lconst 0, 1) := by decide +kernel
theorem d_mo_inverse_13 : decode prog_8_method_3_code 13 = .ok (.lcmp, 1) := by decide +kernel
theorem d_mo_inverse_14 : decode prog_8_method_3_code 14 = .ok (.ifCond .le 45, 3) := by decide +kernel
theorem d_mo_inverse_17 : decode prog_8_method_3_code 17 = .ok (.lload 6, 2) := by decide +kernel
theorem d_mo_inverse_19 : decode prog_8_method_3_code 19 = .ok (.lconst 1, 1) := by decide +kernel
theorem d_mo_inverse_20 : decode prog_8_method_3_code 20 = .ok (.land, 1) := by decide +kernel
theorem d_mo_inverse_21 : decode prog_8_method_3_code 21 = .ok (.lconst 1, 1) := by decide +kernel
theorem d_mo_inverse_22 : decode prog_8_method_3_code 22 = .ok (.lcmp, 1) := by decide +kernel
theorem d_mo_inverse_23 : decode prog_8_method_3_code 23 = .ok (.ifCond .ne 14, 3) := by decide +kernel
theorem d_mo_inverse_26 : decode prog_8_method_3_code 26 = .ok (.lload_n 2, 1) := by decide +kernel
theorem d_mo_inverse_27 : decode prog_8_method_3_code 27 = .ok (.lload 4, 2) := by decide +kernel
theorem d_mo_inverse_29 : decode prog_8_method_3_code 29 = .ok (.lmul, 1) := by decide +kernel
theorem d_mo_inverse_30 : decode prog_8_method_3_code 30 = .ok (.ldc2_w 44, 3) := by decide +kernel
theorem d_mo_inverse_33 : decode prog_8_method_3_code 33 = .ok (.lrem, 1) := by decide +kernel
theorem d_mo_inverse_34 : decode prog_8_method_3_code 34 = .ok (.goto 4, 3) := by decide +kernel
theorem d_mo_inverse_37 : decode prog_8_method_3_code 37 = .ok (.lload_n 2, 1) := by decide +kernel
theorem d_mo_inverse_38 : decode prog_8_method_3_code 38 = .ok (.lstore_n 2, 1) := by decide +kernel
theorem d_mo_inverse_39 : decode prog_8_method_3_code 39 = .ok (.lload 4, 2) := by decide +kernel
theorem d_mo_inverse_41 : decode prog_8_method_3_code 41 = .ok (.lload 4, 2) := by decide +kernel
theorem d_mo_inverse_43 : decode prog_8_method_3_code 43 = .ok (.lmul, 1) := by decide +kernel
theorem d_mo_inverse_44 : decode prog_8_method_3_code 44 = .ok (.ldc2_w 44, 3) := by decide +kernel
theorem d_mo_inverse_47 : decode prog_8_method_3_code 47 = .ok (.lrem, 1) := by decide +kernel
theorem d_mo_inverse_48 : decode prog_8_method_3_code 48 = .ok (.lstore 4, 2) := by decide +kernel
theorem d_mo_inverse_50 : decode prog_8_method_3_code 50 = .ok (.lload 6, 2) := by decide +kernel
theorem d_mo_inverse_52 : decode prog_8_method_3_code 52 = .ok (.iconst 1, 1) := by decide +kernel
theorem d_mo_inverse_53 : decode prog_8_method_3_code 53 = .ok (.lshr, 1) := by decide +kernel
theorem d_mo_inverse_54 : decode prog_8_method_3_code 54 = .ok (.lstore 6, 2) := by decide +kernel
theorem d_mo_inverse_56 : decode prog_8_method_3_code 56 = .ok (.goto (-46), 3) := by decide +kernel
theorem d_mo_inverse_59 : decode prog_8_method_3_code 59 = .ok (.lload_n 2, 1) := by decide +kernel
theorem d_mo_inverse_60 : decode prog_8_method_3_code 60 = .ok (.lreturn, 1) := by decide +kernel
theorem d_mo_isIn_0 : decode prog_8_method_4_code 0 = .ok (.iload_n 1, 1) := by decide +kernel
theorem d_mo_isIn_1 : decode prog_8_method_4_code 1 = .ok (.ifCond .lt 15, 3) := by decide +kernel
theorem d_mo_isIn_4 : decode prog_8_method_4_code 4 = .ok (.iload_n 1, 1) := by decide +kernel
theorem d_mo_isIn_5 : decode prog_8_method_4_code 5 = .ok (.aload_n 0, 1) := by decide +kernel
theorem d_mo_isIn_6 : decode prog_8_method_4_code 6 = .ok (.getfield 48, 3) := by decide +kernel
theorem d_mo_isIn_9 : decode prog_8_method_4_code 9 = .ok (.if_icmp .ge 7, 3) := by decide +kernel
theorem d_mo_isIn_12 : decode prog_8_method_4_code 12 = .ok (.iconst 1, 1) := by decide +kernel
theorem d_mo_isIn_13 : decode prog_8_method_4_code 13 = .ok (.goto 4, 3) := by decide +kernel
theorem d_mo_isIn_16 : decode prog_8_method_4_code 16 = .ok (.iconst 0, 1) := by decide +kernel
theorem d_mo_isIn_17 : decode prog_8_method_4_code 17 = .ok (.ireturn, 1) := by decide +kernel
theorem d_mo_expand_0 : decode prog_8_method_5_code 0 = .ok (.aload_n 0, 1) := by decide +kernel
theorem d_mo_expand_1 : decode prog_8_method_5_code 1 = .ok (.getfield 13, 3) := by decide +kernel
theorem d_mo_expand_4 : decode prog_8_method_5_code 4 = .ok (.iload_n 2, 1) := by decide +kernel
theorem d_mo_expand_5 : decode prog_8_method_5_code 5 = .ok (.iaload, 1) := by decide +kernel
theorem d_mo_expand_6 : decode prog_8_method_5_code 6 = .ok (.istore 4, 2) := by decide +kernel
theorem d_mo_expand_8 : decode prog_8_method_5_code 8 = .ok (.iconst 0, 1) := by decide +kernel
theorem d_mo_expand_9 : decode prog_8_method_5_code 9 = .ok (.istore 5, 2) := by decide +kernel
theorem d_mo_expand_11 : decode prog_8_method_5_code 11 = .ok (.iload 5, 2) := by decide +kernel
theorem d_mo_expand_13 : decode prog_8_method_5_code 13 = .ok (.iload_n 3, 1) := by decide +kernel
theorem d_mo_expand_14 : decode prog_8_method_5_code 14 = .ok (.if_icmp .ge 104, 3) := by decide +kernel
theorem d_mo_expand_17 : decode prog_8_method_5_code 17 = .ok (.iload 5, 2) := by decide +kernel
theorem d_mo_expand_19 : decode prog_8_method_5_code 19 = .ok (.iload 4, 2) := by decide +kernel
theorem d_mo_expand_21 : decode prog_8_method_5_code 21 = .ok (.if_icmp .ge 18, 3) := by decide +kernel
theorem d_mo_expand_24 : decode prog_8_method_5_code 24 = .ok (.aload_n 0, 1) := by decide +kernel
theorem d_mo_expand_25 : decode prog_8_method_5_code 25 = .ok (.getfield 20, 3) := by decide +kernel
theorem d_mo_expand_28 : decode prog_8_method_5_code 28 = .ok (.bipush 24, 2) := by decide +kernel
theorem d_mo_expand_30 : decode prog_8_method_5_code 30 = .ok (.iload_n 2, 1) := by decide +kernel
theorem d_mo_expand_31 : decode prog_8_method_5_code 31 = .ok (.imul, 1) := by decide +kernel
theorem d_mo_expand_32 : decode prog_8_method_5_code 32 = .ok (.iload 5, 2) := by decide +kernel
theorem d_mo_expand_34 : decode prog_8_method_5_code 34 = .ok (.iadd, 1) := by decide +kernel
theorem d_mo_expand_35 : decode prog_8_method_5_code 35 = .ok (.laload, 1) := by decide +kernel
theorem d_mo_expand_36 : decode prog_8_method_5_code 36 = .ok (.goto 4, 3) := by decide +kernel
theorem d_mo_expand_39 : decode prog_8_method_5_code 39 = .ok (.lconst 0, 1) := by decide +kernel
theorem d_mo_expand_40 : decode prog_8_method_5_code 40 = .ok (.lstore 6, 2) := by decide +kernel
theorem d_mo_expand_42 : decode prog_8_method_5_code 42 = .ok (.iconst 1, 1) := by decide +kernel
theorem d_mo_expand_43 : decode prog_8_method_5_code 43 = .ok (.istore 8, 2) := by decide +kernel
theorem d_mo_expand_45 : decode prog_8_method_5_code 45 = .ok (.iload 8, 2) := by decide +kernel
theorem d_mo_expand_47 : decode prog_8_method_5_code 47 = .ok (.iload 4, 2) := by decide +kernel
theorem d_mo_expand_49 : decode prog_8_method_5_code 49 = .ok (.if_icmp .gt 52, 3) := by decide +kernel
theorem d_mo_expand_52 : decode prog_8_method_5_code 52 = .ok (.iload 5, 2) := by decide +kernel
theorem d_mo_expand_54 : decode prog_8_method_5_code 54 = .ok (.iload 4, 2) := by decide +kernel
theorem d_mo_expand_56 : decode prog_8_method_5_code 56 = .ok (.if_icmp .lt 45, 3) := by decide +kernel
theorem d_mo_expand_59 : decode prog_8_method_5_code 59 = .ok (.lload 6, 2) := by decide +kernel
theorem d_mo_expand_61 : decode prog_8_method_5_code 61 = .ok (.aload_n 0, 1) := by decide +kernel
theorem d_mo_expand_62 : decode prog_8_method_5_code 62 = .ok (.getfield 17, 3) := by decide +kernel
theorem d_mo_expand_65 : decode prog_8_method_5_code 65 = .ok (.bipush 24, 2) := by decide +kernel
theorem d_mo_expand_67 : decode prog_8_method_5_code 67 = .ok (.iload_n 2, 1) := by decide +kernel
theorem d_mo_expand_68 : decode prog_8_method_5_code 68 = .ok (.imul, 1) := by decide +kernel
theorem d_mo_expand_69 : decode prog_8_method_5_code 69 = .ok (.iload 8, 2) := by decide +kernel
theorem d_mo_expand_71 : decode prog_8_method_5_code 71 = .ok (.iadd, 1) := by decide +kernel
theorem d_mo_expand_72 : decode prog_8_method_5_code 72 = .ok (.iconst 1, 1) := by decide +kernel
theorem d_mo_expand_73 : decode prog_8_method_5_code 73 = .ok (.isub, 1) := by decide +kernel
theorem d_mo_expand_74 : decode prog_8_method_5_code 74 = .ok (.laload, 1) := by decide +kernel
theorem d_mo_expand_75 : decode prog_8_method_5_code 75 = .ok (.aload_n 0, 1) := by decide +kernel
theorem d_mo_expand_76 : decode prog_8_method_5_code 76 = .ok (.getfield 23, 3) := by decide +kernel
theorem d_mo_expand_79 : decode prog_8_method_5_code 79 = .ok (.iload_n 1, 1) := by decide +kernel
theorem d_mo_expand_80 : decode prog_8_method_5_code 80 = .ok (.iload 5, 2) := by decide +kernel
theorem d_mo_expand_82 : decode prog_8_method_5_code 82 = .ok (.iadd, 1) := by decide +kernel
theorem d_mo_expand_83 : decode prog_8_method_5_code 83 = .ok (.iload 8, 2) := by decide +kernel
theorem d_mo_expand_85 : decode prog_8_method_5_code 85 = .ok (.isub, 1) := by decide +kernel
theorem d_mo_expand_86 : decode prog_8_method_5_code 86 = .ok (.laload, 1) := by decide +kernel
theorem d_mo_expand_87 : decode prog_8_method_5_code 87 = .ok (.lmul, 1) := by decide +kernel
theorem d_mo_expand_88 : decode prog_8_method_5_code 88 = .ok (.ladd, 1) := by decide +kernel
theorem d_mo_expand_89 : decode prog_8_method_5_code 89 = .ok (.ldc2_w 44, 3) := by decide +kernel
theorem d_mo_expand_92 : decode prog_8_method_5_code 92 = .ok (.lrem, 1) := by decide +kernel
theorem d_mo_expand_93 : decode prog_8_method_5_code 93 = .ok (.lstore 6, 2) := by decide +kernel
theorem d_mo_expand_95 : decode prog_8_method_5_code 95 = .ok (.iinc 8 1, 3) := by decide +kernel
theorem d_mo_expand_98 : decode prog_8_method_5_code 98 = .ok (.goto (-53), 3) := by decide +kernel
theorem d_mo_expand_101 : decode prog_8_method_5_code 101 = .ok (.aload_n 0, 1) := by decide +kernel
theorem d_mo_expand_102 : decode prog_8_method_5_code 102 = .ok (.getfield 23, 3) := by decide +kernel
theorem d_mo_expand_105 : decode prog_8_method_5_code 105 = .ok (.iload_n 1, 1) := by decide +kernel
theorem d_mo_expand_106 : decode prog_8_method_5_code 106 = .ok (.iload 5, 2) := by decide +kernel
theorem d_mo_expand_108 : decode prog_8_method_5_code 108 = .ok (.iadd, 1) := by decide +kernel
theorem d_mo_expand_109 : decode prog_8_method_5_code 109 = .ok (.lload 6, 2) := by decide +kernel
theorem d_mo_expand_111 : decode prog_8_method_5_code 111 = .ok (.lastore, 1) := by decide +kernel
theorem d_mo_expand_112 : decode prog_8_method_5_code 112 = .ok (.iinc 5 1, 3) := by decide +kernel
theorem d_mo_expand_115 : decode prog_8_method_5_code 115 = .ok (.goto (-104), 3) := by decide +kernel
theorem d_mo_expand_118 : decode prog_8_method_5_code 118 = .ok (.return_, 1) := by decide +kernel
theorem d_mo_ask_0 : decode prog_8_method_6_code 0 = .ok (.iconst 0, 1) := by decide +kernel
theorem d_mo_ask_1 : decode prog_8_method_6_code 1 = .ok (.istore 5, 2) := by decide +kernel
theorem d_mo_ask_3 : decode prog_8_method_6_code 3 = .ok (.iload 5, 2) := by decide +kernel
theorem d_mo_ask_5 : decode prog_8_method_6_code 5 = .ok (.iload_n 3, 1) := by decide +kernel
theorem d_mo_ask_6 : decode prog_8_method_6_code 6 = .ok (.if_icmp .ge 83, 3) := by decide +kernel
theorem d_mo_ask_9 : decode prog_8_method_6_code 9 = .ok (.iload_n 1, 1) := by decide +kernel
theorem d_mo_ask_10 : decode prog_8_method_6_code 10 = .ok (.iload 5, 2) := by decide +kernel
theorem d_mo_ask_12 : decode prog_8_method_6_code 12 = .ok (.iadd, 1) := by decide +kernel
theorem d_mo_ask_13 : decode prog_8_method_6_code 13 = .ok (.bipush 49, 2) := by decide +kernel
theorem d_mo_ask_15 : decode prog_8_method_6_code 15 = .ok (.imul, 1) := by decide +kernel
theorem d_mo_ask_16 : decode prog_8_method_6_code 16 = .ok (.istore 6, 2) := by decide +kernel
theorem d_mo_ask_18 : decode prog_8_method_6_code 18 = .ok (.iconst 1, 1) := by decide +kernel
theorem d_mo_ask_19 : decode prog_8_method_6_code 19 = .ok (.istore 7, 2) := by decide +kernel
theorem d_mo_ask_21 : decode prog_8_method_6_code 21 = .ok (.iload 7, 2) := by decide +kernel
theorem d_mo_ask_23 : decode prog_8_method_6_code 23 = .ok (.iload 4, 2) := by decide +kernel
theorem d_mo_ask_25 : decode prog_8_method_6_code 25 = .ok (.if_icmp .gt 36, 3) := by decide +kernel
theorem d_mo_ask_28 : decode prog_8_method_6_code 28 = .ok (.aload_n 0, 1) := by decide +kernel
theorem d_mo_ask_29 : decode prog_8_method_6_code 29 = .ok (.getfield 26, 3) := by decide +kernel
theorem d_mo_ask_32 : decode prog_8_method_6_code 32 = .ok (.iload 6, 2) := by decide +kernel
theorem d_mo_ask_34 : decode prog_8_method_6_code 34 = .ok (.iload 7, 2) := by decide +kernel
theorem d_mo_ask_36 : decode prog_8_method_6_code 36 = .ok (.iadd, 1) := by decide +kernel
theorem d_mo_ask_37 : decode prog_8_method_6_code 37 = .ok (.iconst 1, 1) := by decide +kernel
theorem d_mo_ask_38 : decode prog_8_method_6_code 38 = .ok (.isub, 1) := by decide +kernel
theorem d_mo_ask_39 : decode prog_8_method_6_code 39 = .ok (.aload_n 0, 1) := by decide +kernel
theorem d_mo_ask_40 : decode prog_8_method_6_code 40 = .ok (.getfield 23, 3) := by decide +kernel
theorem d_mo_ask_43 : decode prog_8_method_6_code 43 = .ok (.iload_n 2, 1) := by decide +kernel
theorem d_mo_ask_44 : decode prog_8_method_6_code 44 = .ok (.iload 5, 2) := by decide +kernel
theorem d_mo_ask_46 : decode prog_8_method_6_code 46 = .ok (.iadd, 1) := by decide +kernel
theorem d_mo_ask_47 : decode prog_8_method_6_code 47 = .ok (.iload 4, 2) := by decide +kernel
theorem d_mo_ask_49 : decode prog_8_method_6_code 49 = .ok (.iadd, 1) := by decide +kernel
theorem d_mo_ask_50 : decode prog_8_method_6_code 50 = .ok (.iload 7, 2) := by decide +kernel
theorem d_mo_ask_52 : decode prog_8_method_6_code 52 = .ok (.isub, 1) := by decide +kernel
theorem d_mo_ask_53 : decode prog_8_method_6_code 53 = .ok (.laload, 1) := by decide +kernel
theorem d_mo_ask_54 : decode prog_8_method_6_code 54 = .ok (.lastore, 1) := by decide +kernel
theorem d_mo_ask_55 : decode prog_8_method_6_code 55 = .ok (.iinc 7 1, 3) := by decide +kernel
theorem d_mo_ask_58 : decode prog_8_method_6_code 58 = .ok (.goto (-37), 3) := by decide +kernel
theorem d_mo_ask_61 : decode prog_8_method_6_code 61 = .ok (.aload_n 0, 1) := by decide +kernel
theorem d_mo_ask_62 : decode prog_8_method_6_code 62 = .ok (.getfield 26, 3) := by decide +kernel
theorem d_mo_ask_65 : decode prog_8_method_6_code 65 = .ok (.iload 6, 2) := by decide +kernel
theorem d_mo_ask_67 : decode prog_8_method_6_code 67 = .ok (.iload 4, 2) := by decide +kernel
theorem d_mo_ask_69 : decode prog_8_method_6_code 69 = .ok (.iadd, 1) := by decide +kernel
theorem d_mo_ask_70 : decode prog_8_method_6_code 70 = .ok (.aload_n 0, 1) := by decide +kernel
theorem d_mo_ask_71 : decode prog_8_method_6_code 71 = .ok (.getfield 23, 3) := by decide +kernel
theorem d_mo_ask_74 : decode prog_8_method_6_code 74 = .ok (.iload_n 2, 1) := by decide +kernel
theorem d_mo_ask_75 : decode prog_8_method_6_code 75 = .ok (.iload 5, 2) := by decide +kernel
theorem d_mo_ask_77 : decode prog_8_method_6_code 77 = .ok (.iadd, 1) := by decide +kernel
theorem d_mo_ask_78 : decode prog_8_method_6_code 78 = .ok (.iload 4, 2) := by decide +kernel
theorem d_mo_ask_80 : decode prog_8_method_6_code 80 = .ok (.iadd, 1) := by decide +kernel
theorem d_mo_ask_81 : decode prog_8_method_6_code 81 = .ok (.laload, 1) := by decide +kernel
theorem d_mo_ask_82 : decode prog_8_method_6_code 82 = .ok (.lastore, 1) := by decide +kernel
theorem d_mo_ask_83 : decode prog_8_method_6_code 83 = .ok (.iinc 5 1, 3) := by decide +kernel
theorem d_mo_ask_86 : decode prog_8_method_6_code 86 = .ok (.goto (-83), 3) := by decide +kernel
theorem d_mo_ask_89 : decode prog_8_method_6_code 89 = .ok (.return_, 1) := by decide +kernel
theorem d_mo_swapRows_0 : decode prog_8_method_7_code 0 = .ok (.iconst 0, 1) := by decide +kernel
theorem d_mo_swapRows_1 : decode prog_8_method_7_code 1 = .ok (.istore 4, 2) := by decide +kernel
theorem d_mo_swapRows_3 : decode prog_8_method_7_code 3 = .ok (.iload 4, 2) := by decide +kernel
theorem d_mo_swapRows_5 : decode prog_8_method_7_code 5 = .ok (.iload_n 3, 1) := by decide +kernel
theorem d_mo_swapRows_6 : decode prog_8_method_7_code 6 = .ok (.if_icmp .gt 61, 3) := by decide +kernel
theorem d_mo_swapRows_9 : decode prog_8_method_7_code 9 = .ok (.aload_n 0, 1) := by decide +kernel
theorem d_mo_swapRows_10 : decode prog_8_method_7_code 10 = .ok (.getfield 26, 3) := by decide +kernel
theorem d_mo_swapRows_13 : decode prog_8_method_7_code 13 = .ok (.iload_n 1, 1) := by decide +kernel
theorem d_mo_swapRows_14 : decode prog_8_method_7_code 14 = .ok (.bipush 49, 2) := by decide +kernel
theorem d_mo_swapRows_16 : decode prog_8_method_7_code 16 = .ok (.imul, 1) := by decide +kernel
theorem d_mo_swapRows_17 : decode prog_8_method_7_code 17 = .ok (.iload 4, 2) := by decide +kernel
theorem d_mo_swapRows_19 : decode prog_8_method_7_code 19 = .ok (.iadd, 1) := by decide +kernel
theorem d_mo_swapRows_20 : decode prog_8_method_7_code 20 = .ok (.laload, 1) := by decide +kernel
theorem d_mo_swapRows_21 : decode prog_8_method_7_code 21 = .ok (.lstore 5, 2) := by decide +kernel
theorem d_mo_swapRows_23 : decode prog_8_method_7_code 23 = .ok (.aload_n 0, 1) := by decide +kernel
theorem d_mo_swapRows_24 : decode prog_8_method_7_code 24 = .ok (.getfield 26, 3) := by decide +kernel
theorem d_mo_swapRows_27 : decode prog_8_method_7_code 27 = .ok (.iload_n 1, 1) := by decide +kernel
theorem d_mo_swapRows_28 : decode prog_8_method_7_code 28 = .ok (.bipush 49, 2) := by decide +kernel
theorem d_mo_swapRows_30 : decode prog_8_method_7_code 30 = .ok (.imul, 1) := by decide +kernel
theorem d_mo_swapRows_31 : decode prog_8_method_7_code 31 = .ok (.iload 4, 2) := by decide +kernel
theorem d_mo_swapRows_33 : decode prog_8_method_7_code 33 = .ok (.iadd, 1) := by decide +kernel
theorem d_mo_swapRows_34 : decode prog_8_method_7_code 34 = .ok (.aload_n 0, 1) := by decide +kernel
theorem d_mo_swapRows_35 : decode prog_8_method_7_code 35 = .ok (.getfield 26, 3) := by decide +kernel
theorem d_mo_swapRows_38 : decode prog_8_method_7_code 38 = .ok (.iload_n 2, 1) := by decide +kernel
theorem d_mo_swapRows_39 : decode prog_8_method_7_code 39 = .ok (.bipush 49, 2) := by decide +kernel
theorem d_mo_swapRows_41 : decode prog_8_method_7_code 41 = .ok (.imul, 1) := by decide +kernel
theorem d_mo_swapRows_42 : decode prog_8_method_7_code 42 = .ok (.iload 4, 2) := by decide +kernel
theorem d_mo_swapRows_44 : decode prog_8_method_7_code 44 = .ok (.iadd, 1) := by decide +kernel
theorem d_mo_swapRows_45 : decode prog_8_method_7_code 45 = .ok (.laload, 1) := by decide +kernel
theorem d_mo_swapRows_46 : decode prog_8_method_7_code 46 = .ok (.lastore, 1) := by decide +kernel
theorem d_mo_swapRows_47 : decode prog_8_method_7_code 47 = .ok (.aload_n 0, 1) := by decide +kernel
theorem d_mo_swapRows_48 : decode prog_8_method_7_code 48 = .ok (.getfield 26, 3) := by decide +kernel
theorem d_mo_swapRows_51 : decode prog_8_method_7_code 51 = .ok (.iload_n 2, 1) := by decide +kernel
theorem d_mo_swapRows_52 : decode prog_8_method_7_code 52 = .ok (.bipush 49, 2) := by decide +kernel
theorem d_mo_swapRows_54 : decode prog_8_method_7_code 54 = .ok (.imul, 1) := by decide +kernel
theorem d_mo_swapRows_55 : decode prog_8_method_7_code 55 = .ok (.iload 4, 2) := by decide +kernel
theorem d_mo_swapRows_57 : decode prog_8_method_7_code 57 = .ok (.iadd, 1) := by decide +kernel
theorem d_mo_swapRows_58 : decode prog_8_method_7_code 58 = .ok (.lload 5, 2) := by decide +kernel
theorem d_mo_swapRows_60 : decode prog_8_method_7_code 60 = .ok (.lastore, 1) := by decide +kernel
theorem d_mo_swapRows_61 : decode prog_8_method_7_code 61 = .ok (.iinc 4 1, 3) := by decide +kernel
theorem d_mo_swapRows_64 : decode prog_8_method_7_code 64 = .ok (.goto (-61), 3) := by decide +kernel
theorem d_mo_swapRows_67 : decode prog_8_method_7_code 67 = .ok (.return_, 1) := by decide +kernel
theorem d_mo_clean_0 : decode prog_8_method_8_code 0 = .ok (.aload_n 0, 1) := by decide +kernel
theorem d_mo_clean_1 : decode prog_8_method_8_code 1 = .ok (.getfield 26, 3) := by decide +kernel
theorem d_mo_clean_4 : decode prog_8_method_8_code 4 = .ok (.iload_n 1, 1) := by decide +kernel
theorem d_mo_clean_5 : decode prog_8_method_8_code 5 = .ok (.bipush 49, 2) := by decide +kernel
theorem d_mo_clean_7 : decode prog_8_method_8_code 7 = .ok (.imul, 1) := by decide +kernel
theorem d_mo_clean_8 : decode prog_8_method_8_code 8 = .ok (.iload_n 2, 1) := by decide +kernel
theorem d_mo_clean_9 : decode prog_8_method_8_code 9 = .ok (.iadd, 1) := by decide +kernel
theorem d_mo_clean_10 : decode prog_8_method_8_code 10 = .ok (.laload, 1) := by decide +kernel
theorem d_mo_clean_11 : decode prog_8_method_8_code 11 = .ok (.invokestatic 52, 3) := by decide +kernel
theorem d_mo_clean_14 : decode prog_8_method_8_code 14 = .ok (.lstore 5, 2) := by decide +kernel
theorem d_mo_clean_16 : decode prog_8_method_8_code 16 = .ok (.iconst 0, 1) := by decide +kernel
theorem d_mo_clean_17 : decode prog_8_method_8_code 17 = .ok (.istore 7, 2) := by decide +kernel
theorem d_mo_clean_19 : decode prog_8_method_8_code 19 = .ok (.iload 7, 2) := by decide +kernel
theorem d_mo_clean_21 : decode prog_8_method_8_code 21 = .ok (.iload 4, 2) := by decide +kernel
theorem d_mo_clean_23 : decode prog_8_method_8_code 23 = .ok (.if_icmp .gt 40, 3) := by decide +kernel
theorem d_mo_clean_26 : decode prog_8_method_8_code 26 = .ok (.aload_n 0, 1) := by decide +kernel
theorem d_mo_clean_27 : decode prog_8_method_8_code 27 = .ok (.getfield 26, 3) := by decide +kernel
theorem d_mo_clean_30 : decode prog_8_method_8_code 30 = .ok (.iload_n 1, 1) := by decide +kernel
theorem d_mo_clean_31 : decode prog_8_method_8_code 31 = .ok (.bipush 49, 2) := by decide +kernel
theorem d_mo_clean_33 : decode prog_8_method_8_code 33 = .ok (.imul, 1) := by decide +kernel
theorem d_mo_clean_34 : decode prog_8_method_8_code 34 = .ok (.iload 7, 2) := by decide +kernel
theorem d_mo_clean_36 : decode prog_8_method_8_code 36 = .ok (.iadd, 1) := by decide +kernel
theorem d_mo_clean_37 : decode prog_8_method_8_code 37 = .ok (.aload_n 0, 1) := by decide +kernel
theorem d_mo_clean_38 : decode prog_8_method_8_code 38 = .ok (.getfield 26, 3) := by decide +kernel
theorem d_mo_clean_41 : decode prog_8_method_8_code 41 = .ok (.iload_n 1, 1) := by decide +kernel
theorem d_mo_clean_42 : decode prog_8_method_8_code 42 = .ok (.bipush 49, 2) := by decide +kernel
theorem d_mo_clean_44 : decode prog_8_method_8_code 44 = .ok (.imul, 1) := by decide +kernel
theorem d_mo_clean_45 : decode prog_8_method_8_code 45 = .ok (.iload 7, 2) := by decide +kernel
theorem d_mo_clean_47 : decode prog_8_method_8_code 47 = .ok (.iadd, 1) := by decide +kernel
theorem d_mo_clean_48 : decode prog_8_method_8_code 48 = .ok (.laload, 1) := by decide +kernel
theorem d_mo_clean_49 : decode prog_8_method_8_code 49 = .ok (.lload 5, 2) := by decide +kernel
theorem d_mo_clean_51 : decode prog_8_method_8_code 51 = .ok (.lmul, 1) := by decide +kernel
theorem d_mo_clean_52 : decode prog_8_method_8_code 52 = .ok (.ldc2_w 44, 3) := by decide +kernel
theorem d_mo_clean_55 : decode prog_8_method_8_code 55 = .ok (.lrem, 1) := by decide +kernel
theorem d_mo_clean_56 : decode prog_8_method_8_code 56 = .ok (.lastore, 1) := by decide +kernel
theorem d_mo_clean_57 : decode prog_8_method_8_code 57 = .ok (.iinc 7 1, 3) := by decide +kernel
theorem d_mo_clean_60 : decode prog_8_method_8_code 60 = .ok (.goto (-41), 3) := by decide +kernel
theorem d_mo_clean_63 : decode prog_8_method_8_code 63 = .ok (.iconst 0, 1) := by decide +kernel
theorem d_mo_clean_64 : decode prog_8_method_8_code 64 = .ok (.istore 7, 2) := by decide +kernel
theorem d_mo_clean_66 : decode prog_8_method_8_code 66 = .ok (.iload 7, 2) := by decide +kernel
theorem d_mo_clean_68 : decode prog_8_method_8_code 68 = .ok (.iload_n 3, 1) := by decide +kernel
theorem d_mo_clean_69 : decode prog_8_method_8_code 69 = .ok (.if_icmp .ge 118, 3) := by decide +kernel
theorem d_mo_clean_72 : decode prog_8_method_8_code 72 = .ok (.aload_n 0, 1) := by decide +kernel
theorem d_mo_clean_73 : decode prog_8_method_8_code 73 = .ok (.getfield 26, 3) := by decide +kernel
theorem d_mo_clean_76 : decode prog_8_method_8_code 76 = .ok (.iload 7, 2) := by decide +kernel
theorem d_mo_clean_78 : decode prog_8_method_8_code 78 = .ok (.bipush 49, 2) := by decide +kernel
theorem d_mo_clean_80 : decode prog_8_method_8_code 80 = .ok (.imul, 1) := by decide +kernel
theorem d_mo_clean_81 : decode prog_8_method_8_code 81 = .ok (.iload_n 2, 1) := by decide +kernel
theorem d_mo_clean_82 : decode prog_8_method_8_code 82 = .ok (.iadd, 1) := by decide +kernel
theorem d_mo_clean_83 : decode prog_8_method_8_code 83 = .ok (.laload, 1) := by decide +kernel
theorem d_mo_clean_84 : decode prog_8_method_8_code 84 = .ok (.lstore 8, 2) := by decide +kernel
theorem d_mo_clean_86 : decode prog_8_method_8_code 86 = .ok (.iconst 0, 1) := by decide +kernel
theorem d_mo_clean_87 : decode prog_8_method_8_code 87 = .ok (.istore 10, 2) := by decide +kernel
theorem d_mo_clean_89 : decode prog_8_method_8_code 89 = .ok (.iload 10, 2) := by decide +kernel
theorem d_mo_clean_91 : decode prog_8_method_8_code 91 = .ok (.iload 4, 2) := by decide +kernel
theorem d_mo_clean_93 : decode prog_8_method_8_code 93 = .ok (.if_icmp .gt 88, 3) := by decide +kernel
theorem d_mo_clean_96 : decode prog_8_method_8_code 96 = .ok (.iload 7, 2) := by decide +kernel
theorem d_mo_clean_98 : decode prog_8_method_8_code 98 = .ok (.iload_n 1, 1) := by decide +kernel
theorem d_mo_clean_99 : decode prog_8_method_8_code 99 = .ok (.if_icmp .eq 82, 3) := by decide +kernel
theorem d_mo_clean_102 : decode prog_8_method_8_code 102 = .ok (.lload 8, 2) := by decide +kernel
theorem d_mo_clean_104 : decode prog_8_method_8_code 104 = .ok (.lconst 0, 1) := by decide +kernel
theorem d_mo_clean_105 : decode prog_8_method_8_code 105 = .ok (.lcmp, 1) := by decide +kernel
theorem d_mo_clean_106 : decode prog_8_method_8_code 106 = .ok (.ifCond .eq 75, 3) := by decide +kernel
theorem d_mo_clean_109 : decode prog_8_method_8_code 109 = .ok (.aload_n 0, 1) := by decide +kernel
theorem d_mo_clean_110 : decode prog_8_method_8_code 110 = .ok (.getfield 26, 3) := by decide +kernel
theorem d_mo_clean_113 : decode prog_8_method_8_code 113 = .ok (.iload 7, 2) := by decide +kernel
theorem d_mo_clean_115 : decode prog_8_method_8_code 115 = .ok (.bipush 49, 2) := by decide +kernel
theorem d_mo_clean_117 : decode prog_8_method_8_code 117 = .ok (.imul, 1) := by decide +kernel
theorem d_mo_clean_118 : decode prog_8_method_8_code 118 = .ok (.iload 10, 2) := by decide +kernel
theorem d_mo_clean_120 : decode prog_8_method_8_code 120 = .ok (.iadd, 1) := by decide +kernel
theorem d_mo_clean_121 : decode prog_8_method_8_code 121 = .ok (.laload, 1) := by decide +kernel
theorem d_mo_clean_122 : decode prog_8_method_8_code 122 = .ok (.lload 8, 2) := by decide +kernel
theorem d_mo_clean_124 : decode prog_8_method_8_code 124 = .ok (.aload_n 0, 1) := by decide +kernel
theorem d_mo_clean_125 : decode prog_8_method_8_code 125 = .ok (.getfield 26, 3) := by decide +kernel
theorem d_mo_clean_128 : decode prog_8_method_8_code 128 = .ok (.iload_n 1, 1) := by decide +kernel
theorem d_mo_clean_129 : decode prog_8_method_8_code 129 = .ok (.bipush 49, 2) := by decide +kernel
theorem d_mo_clean_131 : decode prog_8_method_8_code 131 = .ok (.imul, 1) := by decide +kernel
theorem d_mo_clean_132 : decode prog_8_method_8_code 132 = .ok (.iload 10, 2) := by decide +kernel
theorem d_mo_clean_134 : decode prog_8_method_8_code 134 = .ok (.iadd, 1) := by decide +kernel
theorem d_mo_clean_135 : decode prog_8_method_8_code 135 = .ok (.laload, 1) := by decide +kernel
theorem d_mo_clean_136 : decode prog_8_method_8_code 136 = .ok (.lmul, 1) := by decide +kernel
theorem d_mo_clean_137 : decode prog_8_method_8_code 137 = .ok (.lsub, 1) := by decide +kernel
theorem d_mo_clean_138 : decode prog_8_method_8_code 138 = .ok (.ldc2_w 44, 3) := by decide +kernel
theorem d_mo_clean_141 : decode prog_8_method_8_code 141 = .ok (.lrem, 1) := by decide +kernel
theorem d_mo_clean_142 : decode prog_8_method_8_code 142 = .ok (.lstore 11, 2) := by decide +kernel
theorem d_mo_clean_144 : decode prog_8_method_8_code 144 = .ok (.aload_n 0, 1) := by decide +kernel
theorem d_mo_clean_145 : decode prog_8_method_8_code 145 = .ok (.getfield 26, 3) := by decide +kernel
theorem d_mo_clean_148 : decode prog_8_method_8_code 148 = .ok (.iload 7, 2) := by decide +kernel
theorem d_mo_clean_150 : decode prog_8_method_8_code 150 = .ok (.bipush 49, 2) := by decide +kernel
theorem d_mo_clean_152 : decode prog_8_method_8_code 152 = .ok (.imul, 1) := by decide +kernel
theorem d_mo_clean_153 : decode prog_8_method_8_code 153 = .ok (.iload 10, 2) := by decide +kernel
theorem d_mo_clean_155 : decode prog_8_method_8_code 155 = .ok (.iadd, 1) := by decide +kernel
theorem d_mo_clean_156 : decode prog_8_method_8_code 156 = .ok (.lload 11, 2) := by decide +kernel
theorem d_mo_clean_158 : decode prog_8_method_8_code 158 = .ok (.lconst 0, 1) := by decide +kernel
theorem d_mo_clean_159 : decode prog_8_method_8_code 159 = .ok (.lcmp, 1) := by decide +kernel
theorem d_mo_clean_160 : decode prog_8_method_8_code 160 = .ok (.ifCond .ge 12, 3) := by decide +kernel
theorem d_mo_clean_163 : decode prog_8_method_8_code 163 = .ok (.lload 11, 2) := by decide +kernel
theorem d_mo_clean_165 : decode prog_8_method_8_code 165 = .ok (.ldc2_w 44, 3) := by decide +kernel
theorem d_mo_clean_168 : decode prog_8_method_8_code 168 = .ok (.ladd, 1) := by decide +kernel
theorem d_mo_clean_169 : decode prog_8_method_8_code 169 = .ok (.goto 5, 3) := by decide +kernel
theorem d_mo_clean_172 : decode prog_8_method_8_code 172 = .ok (.lload 11, 2) := by decide +kernel
theorem d_mo_clean_174 : decode prog_8_method_8_code 174 = .ok (.lastore, 1) := by decide +kernel
theorem d_mo_clean_175 : decode prog_8_method_8_code 175 = .ok (.iinc 10 1, 3) := by decide +kernel
theorem d_mo_clean_178 : decode prog_8_method_8_code 178 = .ok (.goto (-89), 3) := by decide +kernel
theorem d_mo_clean_181 : decode prog_8_method_8_code 181 = .ok (.iinc 7 1, 3) := by decide +kernel
theorem d_mo_clean_184 : decode prog_8_method_8_code 184 = .ok (.goto (-118), 3) := by decide +kernel
theorem d_mo_clean_187 : decode prog_8_method_8_code 187 = .ok (.return_, 1) := by decide +kernel
theorem d_mo_solve_0 : decode prog_8_method_9_code 0 = .ok (.iconst 0, 1) := by decide +kernel
theorem d_mo_solve_1 : decode prog_8_method_9_code 1 = .ok (.istore_n 3, 1) := by decide +kernel
theorem d_mo_solve_2 : decode prog_8_method_9_code 2 = .ok (.iconst 0, 1) := by decide +kernel
theorem d_mo_solve_3 : decode prog_8_method_9_code 3 = .ok (.istore 4, 2) := by decide +kernel
theorem d_mo_solve_5 : decode prog_8_method_9_code 5 = .ok (.iload 4, 2) := by decide +kernel
theorem d_mo_solve_7 : decode prog_8_method_9_code 7 = .ok (.iload_n 2, 1) := by decide +kernel
theorem d_mo_solve_8 : decode prog_8_method_9_code 8 = .ok (.if_icmp .ge 86, 3) := by decide +kernel
theorem d_mo_solve_11 : decode prog_8_method_9_code 11 = .ok (.iload_n 3, 1) := by decide +kernel
theorem d_mo_solve_12 : decode prog_8_method_9_code 12 = .ok (.istore 5, 2) := by decide +kernel
theorem d_mo_solve_14 : decode prog_8_method_9_code 14 = .ok (.iload 5, 2) := by decide +kernel
theorem d_mo_solve_16 : decode prog_8_method_9_code 16 = .ok (.iload_n 1, 1) := by decide +kernel
theorem d_mo_solve_17 : decode prog_8_method_9_code 17 = .ok (.if_icmp .ge 27, 3) := by decide +kernel
theorem d_mo_solve_20 : decode prog_8_method_9_code 20 = .ok (.aload_n 0, 1) := by decide +kernel
theorem d_mo_solve_21 : decode prog_8_method_9_code 21 = .ok (.getfield 26, 3) := by decide +kernel
theorem d_mo_solve_24 : decode prog_8_method_9_code 24 = .ok (.iload 5, 2) := by decide +kernel
theorem d_mo_solve_26 : decode prog_8_method_9_code 26 = .ok (.bipush 49, 2) := by decide +kernel
theorem d_mo_solve_28 : decode prog_8_method_9_code 28 = .ok (.imul, 1) := by decide +kernel
theorem d_mo_solve_29 : decode prog_8_method_9_code 29 = .ok (.iload 4, 2) := by decide +kernel
theorem d_mo_solve_31 : decode prog_8_method_9_code 31 = .ok (.iadd, 1) := by decide +kernel
theorem d_mo_solve_32 : decode prog_8_method_9_code 32 = .ok (.laload, 1) := by decide +kernel
theorem d_mo_solve_33 : decode prog_8_method_9_code 33 = .ok (.lconst 0, 1) := by decide +kernel
theorem d_mo_solve_34 : decode prog_8_method_9_code 34 = .ok (.lcmp, 1) := by decide +kernel
theorem d_mo_solve_35 : decode prog_8_method_9_code 35 = .ok (.ifCond .ne 9, 3) := by decide +kernel
theorem d_mo_solve_38 : decode prog_8_method_9_code 38 = .ok (.iinc 5 1, 3) := by decide +kernel
theorem d_mo_solve_41 : decode prog_8_method_9_code 41 = .ok (.goto (-27), 3) := by decide +kernel
theorem d_mo_solve_44 : decode prog_8_method_9_code 44 = .ok (.aload_n 0, 1) := by decide +kernel
theorem d_mo_solve_45 : decode prog_8_method_9_code 45 = .ok (.getfield 29, 3) := by decide +kernel
theorem d_mo_solve_48 : decode prog_8_method_9_code 48 = .ok (.iload 4, 2) := by decide +kernel
theorem d_mo_solve_50 : decode prog_8_method_9_code 50 = .ok (.iload 5, 2) := by decide +kernel
theorem d_mo_solve_52 : decode prog_8_method_9_code 52 = .ok (.iload_n 1, 1) := by decide +kernel
theorem d_mo_solve_53 : decode prog_8_method_9_code 53 = .ok (.if_icmp .ge 7, 3) := by decide +kernel
theorem d_mo_solve_56 : decode prog_8_method_9_code 56 = .ok (.iload_n 3, 1) := by decide +kernel
theorem d_mo_solve_57 : decode prog_8_method_9_code 57 = .ok (.goto 4, 3) := by decide +kernel
theorem d_mo_solve_60 : decode prog_8_method_9_code 60 = .ok (.iconst (-1), 1) := by decide +kernel
theorem d_mo_solve_61 : decode prog_8_method_9_code 61 = .ok (.iastore, 1) := by decide +kernel
theorem d_mo_solve_62 : decode prog_8_method_9_code 62 = .ok (.iload 5, 2) := by decide +kernel
theorem d_mo_solve_64 : decode prog_8_method_9_code 64 = .ok (.iload_n 1, 1) := by decide +kernel
theorem d_mo_solve_65 : decode prog_8_method_9_code 65 = .ok (.if_icmp .ge 23, 3) := by decide +kernel
theorem d_mo_solve_68 : decode prog_8_method_9_code 68 = .ok (.aload_n 0, 1) := by decide +kernel
theorem d_mo_solve_69 : decode prog_8_method_9_code 69 = .ok (.iload 5, 2) := by decide +kernel
theorem d_mo_solve_71 : decode prog_8_method_9_code 71 = .ok (.iload_n 3, 1) := by decide +kernel
theorem d_mo_solve_72 : decode prog_8_method_9_code 72 = .ok (.iload_n 2, 1) := by decide +kernel
theorem d_mo_solve_73 : decode prog_8_method_9_code 73 = .ok (.invokevirtual 56, 3) := by decide +kernel
theorem d_mo_solve_76 : decode prog_8_method_9_code 76 = .ok (.aload_n 0, 1) := by decide +kernel
theorem d_mo_solve_77 : decode prog_8_method_9_code 77 = .ok (.iload_n 3, 1) := by decide +kernel
theorem d_mo_solve_78 : decode prog_8_method_9_code 78 = .ok (.iload 4, 2) := by decide +kernel
theorem d_mo_solve_80 : decode prog_8_method_9_code 80 = .ok (.iload_n 1, 1) := by decide +kernel
theorem d_mo_solve_81 : decode prog_8_method_9_code 81 = .ok (.iload_n 2, 1) := by decide +kernel
theorem d_mo_solve_82 : decode prog_8_method_9_code 82 = .ok (.invokevirtual 60, 3) := by decide +kernel
theorem d_mo_solve_85 : decode prog_8_method_9_code 85 = .ok (.iinc 3 1, 3) := by decide +kernel
theorem d_mo_solve_88 : decode prog_8_method_9_code 88 = .ok (.iinc 4 1, 3) := by decide +kernel
theorem d_mo_solve_91 : decode prog_8_method_9_code 91 = .ok (.goto (-86), 3) := by decide +kernel
theorem d_mo_solve_94 : decode prog_8_method_9_code 94 = .ok (.iload_n 3, 1) := by decide +kernel
theorem d_mo_solve_95 : decode prog_8_method_9_code 95 = .ok (.istore 4, 2) := by decide +kernel
theorem d_mo_solve_97 : decode prog_8_method_9_code 97 = .ok (.iload 4, 2) := by decide +kernel
theorem d_mo_solve_99 : decode prog_8_method_9_code 99 = .ok (.iload_n 1, 1) := by decide +kernel
theorem d_mo_solve_100 : decode prog_8_method_9_code 100 = .ok (.if_icmp .ge 28, 3) := by decide +kernel
theorem d_mo_solve_103 : decode prog_8_method_9_code 103 = .ok (.aload_n 0, 1) := by decide +kernel
theorem d_mo_solve_104 : decode prog_8_method_9_code 104 = .ok (.getfield 26, 3) := by decide +kernel
theorem d_mo_solve_107 : decode prog_8_method_9_code 107 = .ok (.iload 4, 2) := by decide +kernel
theorem d_mo_solve_109 : decode prog_8_method_9_code 109 = .ok (.bipush 49, 2) := by decide +kernel
theorem d_mo_solve_111 : decode prog_8_method_9_code 111 = .ok (.imul, 1) := by decide +kernel
theorem d_mo_solve_112 : decode prog_8_method_9_code 112 = .ok (.iload_n 2, 1) := by decide +kernel
theorem d_mo_solve_113 : decode prog_8_method_9_code 113 = .ok (.iadd, 1) := by decide +kernel
theorem d_mo_solve_114 : decode prog_8_method_9_code 114 = .ok (.laload, 1) := by decide +kernel
theorem d_mo_solve_115 : decode prog_8_method_9_code 115 = .ok (.lconst 0, 1) := by decide +kernel
theorem d_mo_solve_116 : decode prog_8_method_9_code 116 = .ok (.lcmp, 1) := by decide +kernel
theorem d_mo_solve_117 : decode prog_8_method_9_code 117 = .ok (.ifCond .eq 5, 3) := by decide +kernel
theorem d_mo_solve_120 : decode prog_8_method_9_code 120 = .ok (.iconst 0, 1) := by decide +kernel
theorem d_mo_solve_121 : decode prog_8_method_9_code 121 = .ok (.ireturn, 1) := by decide +kernel
theorem d_mo_solve_122 : decode prog_8_method_9_code 122 = .ok (.iinc 4 1, 3) := by decide +kernel
theorem d_mo_solve_125 : decode prog_8_method_9_code 125 = .ok (.goto (-28), 3) := by decide +kernel
theorem d_mo_solve_128 : decode prog_8_method_9_code 128 = .ok (.iconst 1, 1) := by decide +kernel
theorem d_mo_solve_129 : decode prog_8_method_9_code 129 = .ok (.ireturn, 1) := by decide +kernel
theorem d_mo_settle_0 : decode prog_8_method_10_code 0 = .ok (.iconst 0, 1) := by decide +kernel
theorem d_mo_settle_1 : decode prog_8_method_10_code 1 = .ok (.istore_n 2, 1) := by decide +kernel
theorem d_mo_settle_2 : decode prog_8_method_10_code 2 = .ok (.aload_n 0, 1) := by decide +kernel
theorem d_mo_settle_3 : decode prog_8_method_10_code 3 = .ok (.iconst 0, 1) := by decide +kernel
theorem d_mo_settle_4 : decode prog_8_method_10_code 4 = .ok (.sipush 2300, 3) := by decide +kernel
theorem d_mo_settle_7 : decode prog_8_method_10_code 7 = .ok (.iload_n 1, 1) := by decide +kernel
theorem d_mo_settle_8 : decode prog_8_method_10_code 8 = .ok (.iconst 0, 1) := by decide +kernel
theorem d_mo_settle_9 : decode prog_8_method_10_code 9 = .ok (.invokevirtual 64, 3) := by decide +kernel
theorem d_mo_settle_12 : decode prog_8_method_10_code 12 = .ok (.iload_n 2, 1) := by decide +kernel
theorem d_mo_settle_13 : decode prog_8_method_10_code 13 = .ok (.iload_n 1, 1) := by decide +kernel
theorem d_mo_settle_14 : decode prog_8_method_10_code 14 = .ok (.if_icmp .ge 28, 3) := by decide +kernel
theorem d_mo_settle_17 : decode prog_8_method_10_code 17 = .ok (.aload_n 0, 1) := by decide +kernel
theorem d_mo_settle_18 : decode prog_8_method_10_code 18 = .ok (.iload_n 1, 1) := by decide +kernel
theorem d_mo_settle_19 : decode prog_8_method_10_code 19 = .ok (.iload_n 2, 1) := by decide +kernel
theorem d_mo_settle_20 : decode prog_8_method_10_code 20 = .ok (.invokevirtual 67, 3) := by decide +kernel
theorem d_mo_settle_23 : decode prog_8_method_10_code 23 = .ok (.ifCond .ne 19, 3) := by decide +kernel
theorem d_mo_settle_26 : decode prog_8_method_10_code 26 = .ok (.iinc 2 1, 3) := by decide +kernel
theorem d_mo_settle_29 : decode prog_8_method_10_code 29 = .ok (.aload_n 0, 1) := by decide +kernel
theorem d_mo_settle_30 : decode prog_8_method_10_code 30 = .ok (.iconst 0, 1) := by decide +kernel
theorem d_mo_settle_31 : decode prog_8_method_10_code 31 = .ok (.sipush 2300, 3) := by decide +kernel
theorem d_mo_settle_34 : decode prog_8_method_10_code 34 = .ok (.iload_n 1, 1) := by decide +kernel
theorem d_mo_settle_35 : decode prog_8_method_10_code 35 = .ok (.iload_n 2, 1) := by decide +kernel
theorem d_mo_settle_36 : decode prog_8_method_10_code 36 = .ok (.invokevirtual 64, 3) := by decide +kernel
theorem d_mo_settle_39 : decode prog_8_method_10_code 39 = .ok (.goto (-27), 3) := by decide +kernel
theorem d_mo_settle_42 : decode prog_8_method_10_code 42 = .ok (.iload_n 2, 1) := by decide +kernel
theorem d_mo_settle_43 : decode prog_8_method_10_code 43 = .ok (.iload_n 1, 1) := by decide +kernel
theorem d_mo_settle_44 : decode prog_8_method_10_code 44 = .ok (.if_icmp .ne 10, 3) := by decide +kernel
theorem d_mo_settle_47 : decode prog_8_method_10_code 47 = .ok (.aload_n 0, 1) := by decide +kernel
theorem d_mo_settle_48 : decode prog_8_method_10_code 48 = .ok (.iload_n 1, 1) := by decide +kernel
theorem d_mo_settle_49 : decode prog_8_method_10_code 49 = .ok (.iload_n 2, 1) := by decide +kernel
theorem d_mo_settle_50 : decode prog_8_method_10_code 50 = .ok (.invokevirtual 67, 3) := by decide +kernel
theorem d_mo_settle_53 : decode prog_8_method_10_code 53 = .ok (.pop, 1) := by decide +kernel
theorem d_mo_settle_54 : decode prog_8_method_10_code 54 = .ok (.aload_n 0, 1) := by decide +kernel
theorem d_mo_settle_55 : decode prog_8_method_10_code 55 = .ok (.getfield 13, 3) := by decide +kernel
theorem d_mo_settle_58 : decode prog_8_method_10_code 58 = .ok (.aload_n 0, 1) := by decide +kernel
theorem d_mo_settle_59 : decode prog_8_method_10_code 59 = .ok (.getfield 48, 3) := by decide +kernel
theorem d_mo_settle_62 : decode prog_8_method_10_code 62 = .ok (.iload_n 2, 1) := by decide +kernel
theorem d_mo_settle_63 : decode prog_8_method_10_code 63 = .ok (.iastore, 1) := by decide +kernel
theorem d_mo_settle_64 : decode prog_8_method_10_code 64 = .ok (.iconst 0, 1) := by decide +kernel
theorem d_mo_settle_65 : decode prog_8_method_10_code 65 = .ok (.istore_n 3, 1) := by decide +kernel
theorem d_mo_settle_66 : decode prog_8_method_10_code 66 = .ok (.iload_n 3, 1) := by decide +kernel
theorem d_mo_settle_67 : decode prog_8_method_10_code 67 = .ok (.iload_n 2, 1) := by decide +kernel
theorem d_mo_settle_68 : decode prog_8_method_10_code 68 = .ok (.if_icmp .ge 76, 3) := by decide +kernel
theorem d_mo_settle_71 : decode prog_8_method_10_code 71 = .ok (.aload_n 0, 1) := by decide +kernel
theorem d_mo_settle_72 : decode prog_8_method_10_code 72 = .ok (.getfield 17, 3) := by decide +kernel
theorem d_mo_settle_75 : decode prog_8_method_10_code 75 = .ok (.bipush 24, 2) := by decide +kernel
theorem d_mo_settle_77 : decode prog_8_method_10_code 77 = .ok (.aload_n 0, 1) := by decide +kernel
theorem d_mo_settle_78 : decode prog_8_method_10_code 78 = .ok (.getfield 48, 3) := by decide +kernel
theorem d_mo_settle_81 : decode prog_8_method_10_code 81 = .ok (.imul, 1) := by decide +kernel
theorem d_mo_settle_82 : decode prog_8_method_10_code 82 = .ok (.iload_n 3, 1) := by decide +kernel
theorem d_mo_settle_83 : decode prog_8_method_10_code 83 = .ok (.iadd, 1) := by decide +kernel
theorem d_mo_settle_84 : decode prog_8_method_10_code 84 = .ok (.aload_n 0, 1) := by decide +kernel
theorem d_mo_settle_85 : decode prog_8_method_10_code 85 = .ok (.getfield 29, 3) := by decide +kernel
theorem d_mo_settle_88 : decode prog_8_method_10_code 88 = .ok (.iload_n 3, 1) := by decide +kernel
theorem d_mo_settle_89 : decode prog_8_method_10_code 89 = .ok (.iaload, 1) := by decide +kernel
theorem d_mo_settle_90 : decode prog_8_method_10_code 90 = .ok (.ifCond .ge 7, 3) := by decide +kernel
theorem d_mo_settle_93 : decode prog_8_method_10_code 93 = .ok (.lconst 0, 1) := by decide +kernel
theorem d_mo_settle_94 : decode prog_8_method_10_code 94 = .ok (.goto 19, 3) := by decide +kernel
theorem d_mo_settle_97 : decode prog_8_method_10_code 97 = .ok (.aload_n 0, 1) := by decide +kernel
theorem d_mo_settle_98 : decode prog_8_method_10_code 98 = .ok (.getfield 26, 3) := by decide +kernel
theorem d_mo_settle_101 : decode prog_8_method_10_code 101 = .ok (.aload_n 0, 1) := by decide +kernel
theorem d_mo_settle_102 : decode prog_8_method_10_code 102 = .ok (.getfield 29, 3) := by decide +kernel
theorem d_mo_settle_105 : decode prog_8_method_10_code 105 = .ok (.iload_n 3, 1) := by decide +kernel
theorem d_mo_settle_106 : decode prog_8_method_10_code 106 = .ok (.iaload, 1) := by decide +kernel
theorem d_mo_settle_107 : decode prog_8_method_10_code 107 = .ok (.bipush 49, 2) := by decide +kernel
theorem d_mo_settle_109 : decode prog_8_method_10_code 109 = .ok (.imul, 1) := by decide +kernel
theorem d_mo_settle_110 : decode prog_8_method_10_code 110 = .ok (.iload_n 2, 1) := by decide +kernel
theorem d_mo_settle_111 : decode prog_8_method_10_code 111 = .ok (.iadd, 1) := by decide +kernel
theorem d_mo_settle_112 : decode prog_8_method_10_code 112 = .ok (.laload, 1) := by decide +kernel
theorem d_mo_settle_113 : decode prog_8_method_10_code 113 = .ok (.lastore, 1) := by decide +kernel
theorem d_mo_settle_114 : decode prog_8_method_10_code 114 = .ok (.aload_n 0, 1) := by decide +kernel
theorem d_mo_settle_115 : decode prog_8_method_10_code 115 = .ok (.getfield 20, 3) := by decide +kernel
theorem d_mo_settle_118 : decode prog_8_method_10_code 118 = .ok (.bipush 24, 2) := by decide +kernel
theorem d_mo_settle_120 : decode prog_8_method_10_code 120 = .ok (.aload_n 0, 1) := by decide +kernel
theorem d_mo_settle_121 : decode prog_8_method_10_code 121 = .ok (.getfield 48, 3) := by decide +kernel
theorem d_mo_settle_124 : decode prog_8_method_10_code 124 = .ok (.imul, 1) := by decide +kernel
theorem d_mo_settle_125 : decode prog_8_method_10_code 125 = .ok (.iload_n 3, 1) := by decide +kernel
theorem d_mo_settle_126 : decode prog_8_method_10_code 126 = .ok (.iadd, 1) := by decide +kernel
theorem d_mo_settle_127 : decode prog_8_method_10_code 127 = .ok (.aload_n 0, 1) := by decide +kernel
theorem d_mo_settle_128 : decode prog_8_method_10_code 128 = .ok (.getfield 23, 3) := by decide +kernel
theorem d_mo_settle_131 : decode prog_8_method_10_code 131 = .ok (.sipush 2300, 3) := by decide +kernel
theorem d_mo_settle_134 : decode prog_8_method_10_code 134 = .ok (.iload_n 3, 1) := by decide +kernel
theorem d_mo_settle_135 : decode prog_8_method_10_code 135 = .ok (.iadd, 1) := by decide +kernel
theorem d_mo_settle_136 : decode prog_8_method_10_code 136 = .ok (.laload, 1) := by decide +kernel
theorem d_mo_settle_137 : decode prog_8_method_10_code 137 = .ok (.lastore, 1) := by decide +kernel
theorem d_mo_settle_138 : decode prog_8_method_10_code 138 = .ok (.iinc 3 1, 3) := by decide +kernel
theorem d_mo_settle_141 : decode prog_8_method_10_code 141 = .ok (.goto (-75), 3) := by decide +kernel
theorem d_mo_settle_144 : decode prog_8_method_10_code 144 = .ok (.aload_n 0, 1) := by decide +kernel
theorem d_mo_settle_145 : decode prog_8_method_10_code 145 = .ok (.dup, 1) := by decide +kernel
theorem d_mo_settle_146 : decode prog_8_method_10_code 146 = .ok (.getfield 48, 3) := by decide +kernel
theorem d_mo_settle_149 : decode prog_8_method_10_code 149 = .ok (.iconst 1, 1) := by decide +kernel
theorem d_mo_settle_150 : decode prog_8_method_10_code 150 = .ok (.iadd, 1) := by decide +kernel
theorem d_mo_settle_151 : decode prog_8_method_10_code 151 = .ok (.putfield 48, 3) := by decide +kernel
theorem d_mo_settle_154 : decode prog_8_method_10_code 154 = .ok (.aload_n 0, 1) := by decide +kernel
theorem d_mo_settle_155 : decode prog_8_method_10_code 155 = .ok (.getfield 48, 3) := by decide +kernel
theorem d_mo_settle_158 : decode prog_8_method_10_code 158 = .ok (.iconst 1, 1) := by decide +kernel
theorem d_mo_settle_159 : decode prog_8_method_10_code 159 = .ok (.isub, 1) := by decide +kernel
theorem d_mo_settle_160 : decode prog_8_method_10_code 160 = .ok (.ireturn, 1) := by decide +kernel
theorem d_mo_give_0 : decode prog_8_method_11_code 0 = .ok (.aload_n 0, 1) := by decide +kernel
theorem d_mo_give_1 : decode prog_8_method_11_code 1 = .ok (.getfield 71, 3) := by decide +kernel
theorem d_mo_give_4 : decode prog_8_method_11_code 4 = .ok (.bipush 40, 2) := by decide +kernel
theorem d_mo_give_6 : decode prog_8_method_11_code 6 = .ok (.if_icmp .lt 5, 3) := by decide +kernel
theorem d_mo_give_9 : decode prog_8_method_11_code 9 = .ok (.iconst 0, 1) := by decide +kernel
theorem d_mo_give_10 : decode prog_8_method_11_code 10 = .ok (.ireturn, 1) := by decide +kernel
theorem d_mo_give_11 : decode prog_8_method_11_code 11 = .ok (.aload_n 0, 1) := by decide +kernel
theorem d_mo_give_12 : decode prog_8_method_11_code 12 = .ok (.getfield 7, 3) := by decide +kernel
theorem d_mo_give_15 : decode prog_8_method_11_code 15 = .ok (.aload_n 0, 1) := by decide +kernel
theorem d_mo_give_16 : decode prog_8_method_11_code 16 = .ok (.getfield 71, 3) := by decide +kernel
theorem d_mo_give_19 : decode prog_8_method_11_code 19 = .ok (.iload_n 1, 1) := by decide +kernel
theorem d_mo_give_20 : decode prog_8_method_11_code 20 = .ok (.invokestatic 74, 3) := by decide +kernel
theorem d_mo_give_23 : decode prog_8_method_11_code 23 = .ok (.lastore, 1) := by decide +kernel
theorem d_mo_give_24 : decode prog_8_method_11_code 24 = .ok (.aload_n 0, 1) := by decide +kernel
theorem d_mo_give_25 : decode prog_8_method_11_code 25 = .ok (.dup, 1) := by decide +kernel
theorem d_mo_give_26 : decode prog_8_method_11_code 26 = .ok (.getfield 71, 3) := by decide +kernel
theorem d_mo_give_29 : decode prog_8_method_11_code 29 = .ok (.iconst 1, 1) := by decide +kernel
theorem d_mo_give_30 : decode prog_8_method_11_code 30 = .ok (.iadd, 1) := by decide +kernel
theorem d_mo_give_31 : decode prog_8_method_11_code 31 = .ok (.putfield 71, 3) := by decide +kernel
theorem d_mo_give_34 : decode prog_8_method_11_code 34 = .ok (.iconst 1, 1) := by decide +kernel
theorem d_mo_give_35 : decode prog_8_method_11_code 35 = .ok (.ireturn, 1) := by decide +kernel
theorem d_mo_clear_0 : decode prog_8_method_12_code 0 = .ok (.aload_n 0, 1) := by decide +kernel
theorem d_mo_clear_1 : decode prog_8_method_12_code 1 = .ok (.getfield 71, 3) := by decide +kernel
theorem d_mo_clear_4 : decode prog_8_method_12_code 4 = .ok (.istore_n 1, 1) := by decide +kernel
theorem d_mo_clear_5 : decode prog_8_method_12_code 5 = .ok (.aload_n 0, 1) := by decide +kernel
theorem d_mo_clear_6 : decode prog_8_method_12_code 6 = .ok (.iconst 0, 1) := by decide +kernel
theorem d_mo_clear_7 : decode prog_8_method_12_code 7 = .ok (.putfield 71, 3) := by decide +kernel
theorem d_mo_clear_10 : decode prog_8_method_12_code 10 = .ok (.iload_n 1, 1) := by decide +kernel
theorem d_mo_clear_11 : decode prog_8_method_12_code 11 = .ok (.ireturn, 1) := by decide +kernel
theorem d_mo_leaf_0 : decode prog_8_method_13_code 0 = .ok (.iload_n 1, 1) := by decide +kernel
theorem d_mo_leaf_1 : decode prog_8_method_13_code 1 = .ok (.ifCond .lt 19, 3) := by decide +kernel
theorem d_mo_leaf_4 : decode prog_8_method_13_code 4 = .ok (.iload_n 1, 1) := by decide +kernel
theorem d_mo_leaf_5 : decode prog_8_method_13_code 5 = .ok (.bipush 12, 2) := by decide +kernel
theorem d_mo_leaf_7 : decode prog_8_method_13_code 7 = .ok (.if_icmp .gt 13, 3) := by decide +kernel
theorem d_mo_leaf_10 : decode prog_8_method_13_code 10 = .ok (.aload_n 0, 1) := by decide +kernel
theorem d_mo_leaf_11 : decode prog_8_method_13_code 11 = .ok (.getfield 71, 3) := by decide +kernel
theorem d_mo_leaf_14 : decode prog_8_method_13_code 14 = .ok (.iconst 2, 1) := by decide +kernel
theorem d_mo_leaf_15 : decode prog_8_method_13_code 15 = .ok (.iload_n 1, 1) := by decide +kernel
theorem d_mo_leaf_16 : decode prog_8_method_13_code 16 = .ok (.imul, 1) := by decide +kernel
theorem d_mo_leaf_17 : decode prog_8_method_13_code 17 = .ok (.if_icmp .ge 5, 3) := by decide +kernel
theorem d_mo_leaf_20 : decode prog_8_method_13_code 20 = .ok (.iconst (-1), 1) := by decide +kernel
theorem d_mo_leaf_21 : decode prog_8_method_13_code 21 = .ok (.ireturn, 1) := by decide +kernel
theorem d_mo_leaf_22 : decode prog_8_method_13_code 22 = .ok (.aload_n 0, 1) := by decide +kernel
theorem d_mo_leaf_23 : decode prog_8_method_13_code 23 = .ok (.getfield 48, 3) := by decide +kernel
theorem d_mo_leaf_26 : decode prog_8_method_13_code 26 = .ok (.bipush 20, 2) := by decide +kernel
theorem d_mo_leaf_28 : decode prog_8_method_13_code 28 = .ok (.if_icmp .lt 6, 3) := by decide +kernel
theorem d_mo_leaf_31 : decode prog_8_method_13_code 31 = .ok (.bipush (-2), 2) := by decide +kernel
theorem d_mo_leaf_33 : decode prog_8_method_13_code 33 = .ok (.ireturn, 1) := by decide +kernel
theorem d_mo_leaf_34 : decode prog_8_method_13_code 34 = .ok (.iconst 0, 1) := by decide +kernel
theorem d_mo_leaf_35 : decode prog_8_method_13_code 35 = .ok (.istore_n 2, 1) := by decide +kernel
theorem d_mo_leaf_36 : decode prog_8_method_13_code 36 = .ok (.iload_n 2, 1) := by decide +kernel
theorem d_mo_leaf_37 : decode prog_8_method_13_code 37 = .ok (.iconst 2, 1) := by decide +kernel
theorem d_mo_leaf_38 : decode prog_8_method_13_code 38 = .ok (.iload_n 1, 1) := by decide +kernel
theorem d_mo_leaf_39 : decode prog_8_method_13_code 39 = .ok (.imul, 1) := by decide +kernel
theorem d_mo_leaf_40 : decode prog_8_method_13_code 40 = .ok (.if_icmp .lt 13, 3) := by decide +kernel
theorem d_mo_leaf_43 : decode prog_8_method_13_code 43 = .ok (.iload_n 2, 1) := by decide +kernel
theorem d_mo_leaf_44 : decode prog_8_method_13_code 44 = .ok (.aload_n 0, 1) := by decide +kernel
theorem d_mo_leaf_45 : decode prog_8_method_13_code 45 = .ok (.getfield 71, 3) := by decide +kernel
theorem d_mo_leaf_48 : decode prog_8_method_13_code 48 = .ok (.iload_n 1, 1) := by decide +kernel
theorem d_mo_leaf_49 : decode prog_8_method_13_code 49 = .ok (.isub, 1) := by decide +kernel
theorem d_mo_leaf_50 : decode prog_8_method_13_code 50 = .ok (.if_icmp .ge 116, 3) := by decide +kernel
theorem d_mo_leaf_53 : decode prog_8_method_13_code 53 = .ok (.lconst 0, 1) := by decide +kernel
theorem d_mo_leaf_54 : decode prog_8_method_13_code 54 = .ok (.lstore_n 3, 1) := by decide +kernel
theorem d_mo_leaf_55 : decode prog_8_method_13_code 55 = .ok (.iconst 1, 1) := by decide +kernel
theorem d_mo_leaf_56 : decode prog_8_method_13_code 56 = .ok (.istore 5, 2) := by decide +kernel
theorem d_mo_leaf_58 : decode prog_8_method_13_code 58 = .ok (.iload 5, 2) := by decide +kernel
theorem d_mo_leaf_60 : decode prog_8_method_13_code 60 = .ok (.iload_n 1, 1) := by decide +kernel
theorem d_mo_leaf_61 : decode prog_8_method_13_code 61 = .ok (.if_icmp .gt 44, 3) := by decide +kernel
theorem d_mo_leaf_64 : decode prog_8_method_13_code 64 = .ok (.iload_n 2, 1) := by decide +kernel
theorem d_mo_leaf_65 : decode prog_8_method_13_code 65 = .ok (.iload_n 1, 1) := by decide +kernel
theorem d_mo_leaf_66 : decode prog_8_method_13_code 66 = .ok (.if_icmp .lt 39, 3) := by decide +kernel
theorem d_mo_leaf_69 : decode prog_8_method_13_code 69 = .ok (.lload_n 3, 1) := by decide +kernel
theorem d_mo_leaf_70 : decode prog_8_method_13_code 70 = .ok (.aload_n 0, 1) := by decide +kernel
theorem d_mo_leaf_71 : decode prog_8_method_13_code 71 = .ok (.getfield 7, 3) := by decide +kernel
theorem d_mo_leaf_74 : decode prog_8_method_13_code 74 = .ok (.iload 5, 2) := by decide +kernel
theorem d_mo_leaf_76 : decode prog_8_method_13_code 76 = .ok (.iconst 1, 1) := by decide +kernel
theorem d_mo_leaf_77 : decode prog_8_method_13_code 77 = .ok (.isub, 1) := by decide +kernel
theorem d_mo_leaf_78 : decode prog_8_method_13_code 78 = .ok (.laload, 1) := by decide +kernel
theorem d_mo_leaf_79 : decode prog_8_method_13_code 79 = .ok (.aload_n 0, 1) := by decide +kernel
theorem d_mo_leaf_80 : decode prog_8_method_13_code 80 = .ok (.getfield 23, 3) := by decide +kernel
theorem d_mo_leaf_83 : decode prog_8_method_13_code 83 = .ok (.sipush 2300, 3) := by decide +kernel
theorem d_mo_leaf_86 : decode prog_8_method_13_code 86 = .ok (.iload_n 2, 1) := by decide +kernel
theorem d_mo_leaf_87 : decode prog_8_method_13_code 87 = .ok (.iadd, 1) := by decide +kernel
theorem d_mo_leaf_88 : decode prog_8_method_13_code 88 = .ok (.iload 5, 2) := by decide +kernel
theorem d_mo_leaf_90 : decode prog_8_method_13_code 90 = .ok (.isub, 1) := by decide +kernel
theorem d_mo_leaf_91 : decode prog_8_method_13_code 91 = .ok (.laload, 1) := by decide +kernel
theorem d_mo_leaf_92 : decode prog_8_method_13_code 92 = .ok (.lmul, 1) := by decide +kernel
theorem d_mo_leaf_93 : decode prog_8_method_13_code 93 = .ok (.ladd, 1) := by decide +kernel
theorem d_mo_leaf_94 : decode prog_8_method_13_code 94 = .ok (.ldc2_w 44, 3) := by decide +kernel
theorem d_mo_leaf_97 : decode prog_8_method_13_code 97 = .ok (.lrem, 1) := by decide +kernel
theorem d_mo_leaf_98 : decode prog_8_method_13_code 98 = .ok (.lstore_n 3, 1) := by decide +kernel
theorem d_mo_leaf_99 : decode prog_8_method_13_code 99 = .ok (.iinc 5 1, 3) := by decide +kernel
theorem d_mo_leaf_102 : decode prog_8_method_13_code 102 = .ok (.goto (-44), 3) := by decide +kernel
theorem d_mo_leaf_105 : decode prog_8_method_13_code 105 = .ok (.iload_n 2, 1) := by decide +kernel
theorem d_mo_leaf_106 : decode prog_8_method_13_code 106 = .ok (.iload_n 1, 1) := by decide +kernel
theorem d_mo_leaf_107 : decode prog_8_method_13_code 107 = .ok (.if_icmp .ge 14, 3) := by decide +kernel
theorem d_mo_leaf_110 : decode prog_8_method_13_code 110 = .ok (.aload_n 0, 1) := by decide +kernel
theorem d_mo_leaf_111 : decode prog_8_method_13_code 111 = .ok (.getfield 7, 3) := by decide +kernel
theorem d_mo_leaf_114 : decode prog_8_method_13_code 114 = .ok (.iload_n 1, 1) := by decide +kernel
theorem d_mo_leaf_115 : decode prog_8_method_13_code 115 = .ok (.iload_n 2, 1) := by decide +kernel
theorem d_mo_leaf_116 : decode prog_8_method_13_code 116 = .ok (.iadd, 1) := by decide +kernel
theorem d_mo_leaf_117 : decode prog_8_method_13_code 117 = .ok (.laload, 1) := by decide +kernel
theorem d_mo_leaf_118 : decode prog_8_method_13_code 118 = .ok (.goto 4, 3) := by decide +kernel
theorem d_mo_leaf_121 : decode prog_8_method_13_code 121 = .ok (.lload_n 3, 1) := by decide +kernel
theorem d_mo_leaf_122 : decode prog_8_method_13_code 122 = .ok (.lstore_n 3, 1) := by decide +kernel
theorem d_mo_leaf_123 : decode prog_8_method_13_code 123 = .ok (.iload_n 2, 1) := by decide +kernel
theorem d_mo_leaf_124 : decode prog_8_method_13_code 124 = .ok (.aload_n 0, 1) := by decide +kernel
theorem d_mo_leaf_125 : decode prog_8_method_13_code 125 = .ok (.getfield 71, 3) := by decide +kernel
theorem d_mo_leaf_128 : decode prog_8_method_13_code 128 = .ok (.iload_n 1, 1) := by decide +kernel
theorem d_mo_leaf_129 : decode prog_8_method_13_code 129 = .ok (.isub, 1) := by decide +kernel
theorem d_mo_leaf_130 : decode prog_8_method_13_code 130 = .ok (.if_icmp .ge 19, 3) := by decide +kernel
theorem d_mo_leaf_133 : decode prog_8_method_13_code 133 = .ok (.aload_n 0, 1) := by decide +kernel
theorem d_mo_leaf_134 : decode prog_8_method_13_code 134 = .ok (.getfield 7, 3) := by decide +kernel
theorem d_mo_leaf_137 : decode prog_8_method_13_code 137 = .ok (.iload_n 1, 1) := by decide +kernel
theorem d_mo_leaf_138 : decode prog_8_method_13_code 138 = .ok (.iload_n 2, 1) := by decide +kernel
theorem d_mo_leaf_139 : decode prog_8_method_13_code 139 = .ok (.iadd, 1) := by decide +kernel
theorem d_mo_leaf_140 : decode prog_8_method_13_code 140 = .ok (.laload, 1) := by decide +kernel
theorem d_mo_leaf_141 : decode prog_8_method_13_code 141 = .ok (.lload_n 3, 1) := by decide +kernel
theorem d_mo_leaf_142 : decode prog_8_method_13_code 142 = .ok (.lcmp, 1) := by decide +kernel
theorem d_mo_leaf_143 : decode prog_8_method_13_code 143 = .ok (.ifCond .eq 6, 3) := by decide +kernel
theorem d_mo_leaf_146 : decode prog_8_method_13_code 146 = .ok (.bipush (-4), 2) := by decide +kernel
theorem d_mo_leaf_148 : decode prog_8_method_13_code 148 = .ok (.ireturn, 1) := by decide +kernel
theorem d_mo_leaf_149 : decode prog_8_method_13_code 149 = .ok (.aload_n 0, 1) := by decide +kernel
theorem d_mo_leaf_150 : decode prog_8_method_13_code 150 = .ok (.getfield 23, 3) := by decide +kernel
theorem d_mo_leaf_153 : decode prog_8_method_13_code 153 = .ok (.sipush 2300, 3) := by decide +kernel
theorem d_mo_leaf_156 : decode prog_8_method_13_code 156 = .ok (.iload_n 2, 1) := by decide +kernel
theorem d_mo_leaf_157 : decode prog_8_method_13_code 157 = .ok (.iadd, 1) := by decide +kernel
theorem d_mo_leaf_158 : decode prog_8_method_13_code 158 = .ok (.lload_n 3, 1) := by decide +kernel
theorem d_mo_leaf_159 : decode prog_8_method_13_code 159 = .ok (.lastore, 1) := by decide +kernel
theorem d_mo_leaf_160 : decode prog_8_method_13_code 160 = .ok (.iinc 2 1, 3) := by decide +kernel
theorem d_mo_leaf_163 : decode prog_8_method_13_code 163 = .ok (.goto (-127), 3) := by decide +kernel
theorem d_mo_leaf_166 : decode prog_8_method_13_code 166 = .ok (.aload_n 0, 1) := by decide +kernel
theorem d_mo_leaf_167 : decode prog_8_method_13_code 167 = .ok (.iconst 0, 1) := by decide +kernel
theorem d_mo_leaf_168 : decode prog_8_method_13_code 168 = .ok (.putfield 71, 3) := by decide +kernel
theorem d_mo_leaf_171 : decode prog_8_method_13_code 171 = .ok (.aload_n 0, 1) := by decide +kernel
theorem d_mo_leaf_172 : decode prog_8_method_13_code 172 = .ok (.iload_n 1, 1) := by decide +kernel
theorem d_mo_leaf_173 : decode prog_8_method_13_code 173 = .ok (.invokevirtual 78, 3) := by decide +kernel
theorem d_mo_leaf_176 : decode prog_8_method_13_code 176 = .ok (.ireturn, 1) := by decide +kernel
theorem d_mo_refusal_0 : decode prog_8_method_14_code 0 = .ok (.iload_n 1, 1) := by decide +kernel
theorem d_mo_refusal_1 : decode prog_8_method_14_code 1 = .ok (.ifCond .ne 7, 3) := by decide +kernel
theorem d_mo_refusal_4 : decode prog_8_method_14_code 4 = .ok (.iconst (-1), 1) := by decide +kernel
theorem d_mo_refusal_5 : decode prog_8_method_14_code 5 = .ok (.goto 29, 3) := by decide +kernel
theorem d_mo_refusal_8 : decode prog_8_method_14_code 8 = .ok (.aload_n 0, 1) := by decide +kernel
theorem d_mo_refusal_9 : decode prog_8_method_14_code 9 = .ok (.getfield 48, 3) := by decide +kernel
theorem d_mo_refusal_12 : decode prog_8_method_14_code 12 = .ok (.bipush 20, 2) := by decide +kernel
theorem d_mo_refusal_14 : decode prog_8_method_14_code 14 = .ok (.if_icmp .lt 8, 3) := by decide +kernel
theorem d_mo_refusal_17 : decode prog_8_method_14_code 17 = .ok (.bipush (-2), 2) := by decide +kernel
theorem d_mo_refusal_19 : decode prog_8_method_14_code 19 = .ok (.goto 15, 3) := by decide +kernel
theorem d_mo_refusal_22 : decode prog_8_method_14_code 22 = .ok (.iload_n 2, 1) := by decide +kernel
theorem d_mo_refusal_23 : decode prog_8_method_14_code 23 = .ok (.bipush 24, 2) := by decide +kernel
theorem d_mo_refusal_25 : decode prog_8_method_14_code 25 = .ok (.if_icmp .le 8, 3) := by decide +kernel
theorem d_mo_refusal_28 : decode prog_8_method_14_code 28 = .ok (.bipush (-3), 2) := by decide +kernel
theorem d_mo_refusal_30 : decode prog_8_method_14_code 30 = .ok (.goto 4, 3) := by decide +kernel
theorem d_mo_refusal_33 : decode prog_8_method_14_code 33 = .ok (.iconst 0, 1) := by decide +kernel
theorem d_mo_refusal_34 : decode prog_8_method_14_code 34 = .ok (.ireturn, 1) := by decide +kernel
theorem d_mo_orderOf_0 : decode prog_8_method_15_code 0 = .ok (.aload_n 0, 1) := by decide +kernel
theorem d_mo_orderOf_1 : decode prog_8_method_15_code 1 = .ok (.iload_n 1, 1) := by decide +kernel
theorem d_mo_orderOf_2 : decode prog_8_method_15_code 2 = .ok (.invokevirtual 82, 3) := by decide +kernel
theorem d_mo_orderOf_5 : decode prog_8_method_15_code 5 = .ok (.ifCond .eq 12, 3) := by decide +kernel
theorem d_mo_orderOf_8 : decode prog_8_method_15_code 8 = .ok (.aload_n 0, 1) := by decide +kernel
theorem d_mo_orderOf_9 : decode prog_8_method_15_code 9 = .ok (.getfield 13, 3) := by decide +kernel
theorem d_mo_orderOf_12 : decode prog_8_method_15_code 12 = .ok (.iload_n 1, 1) := by decide +kernel
theorem d_mo_orderOf_13 : decode prog_8_method_15_code 13 = .ok (.iaload, 1) := by decide +kernel
theorem d_mo_orderOf_14 : decode prog_8_method_15_code 14 = .ok (.goto 4, 3) := by decide +kernel
theorem d_mo_orderOf_17 : decode prog_8_method_15_code 17 = .ok (.iconst 0, 1) := by decide +kernel
theorem d_mo_orderOf_18 : decode prog_8_method_15_code 18 = .ok (.ireturn, 1) := by decide +kernel
theorem d_mo_combine_0 : decode prog_8_method_16_code 0 = .ok (.aload_n 0, 1) := by decide +kernel
theorem d_mo_combine_1 : decode prog_8_method_16_code 1 = .ok (.iload_n 1, 1) := by decide +kernel
theorem d_mo_combine_2 : decode prog_8_method_16_code 2 = .ok (.invokevirtual 86, 3) := by decide +kernel
theorem d_mo_combine_5 : decode prog_8_method_16_code 5 = .ok (.aload_n 0, 1) := by decide +kernel
theorem d_mo_combine_6 : decode prog_8_method_16_code 6 = .ok (.iload_n 2, 1) := by decide +kernel
theorem d_mo_combine_7 : decode prog_8_method_16_code 7 = .ok (.invokevirtual 86, 3) := by decide +kernel
theorem d_mo_combine_10 : decode prog_8_method_16_code 10 = .ok (.iadd, 1) := by decide +kernel
theorem d_mo_combine_11 : decode prog_8_method_16_code 11 = .ok (.istore 5, 2) := by decide +kernel
theorem d_mo_combine_13 : decode prog_8_method_16_code 13 = .ok (.aload_n 0, 1) := by decide +kernel
theorem d_mo_combine_14 : decode prog_8_method_16_code 14 = .ok (.aload_n 0, 1) := by decide +kernel
theorem d_mo_combine_15 : decode prog_8_method_16_code 15 = .ok (.iload_n 1, 1) := by decide +kernel
theorem d_mo_combine_16 : decode prog_8_method_16_code 16 = .ok (.invokevirtual 82, 3) := by decide +kernel
theorem d_mo_combine_19 : decode prog_8_method_16_code 19 = .ok (.ifCond .eq 15, 3) := by decide +kernel
theorem d_mo_combine_22 : decode prog_8_method_16_code 22 = .ok (.aload_n 0, 1) := by decide +kernel
theorem d_mo_combine_23 : decode prog_8_method_16_code 23 = .ok (.iload_n 2, 1) := by decide +kernel
theorem d_mo_combine_24 : decode prog_8_method_16_code 24 = .ok (.invokevirtual 82, 3) := by decide +kernel
theorem d_mo_combine_27 : decode prog_8_method_16_code 27 = .ok (.ifCond .eq 7, 3) := by decide +kernel
theorem d_mo_combine_30 : decode prog_8_method_16_code 30 = .ok (.iconst 1, 1) := by decide +kernel
theorem d_mo_combine_31 : decode prog_8_method_16_code 31 = .ok (.goto 4, 3) := by decide +kernel
theorem d_mo_combine_34 : decode prog_8_method_16_code 34 = .ok (.iconst 0, 1) := by decide +kernel
theorem d_mo_combine_35 : decode prog_8_method_16_code 35 = .ok (.iload 5, 2) := by decide +kernel
theorem d_mo_combine_37 : decode prog_8_method_16_code 37 = .ok (.invokevirtual 89, 3) := by decide +kernel
theorem d_mo_combine_40 : decode prog_8_method_16_code 40 = .ok (.istore 6, 2) := by decide +kernel
theorem d_mo_combine_42 : decode prog_8_method_16_code 42 = .ok (.iload 6, 2) := by decide +kernel
theorem d_mo_combine_44 : decode prog_8_method_16_code 44 = .ok (.ifCond .ge 6, 3) := by decide +kernel
theorem d_mo_combine_47 : decode prog_8_method_16_code 47 = .ok (.iload 6, 2) := by decide +kernel
theorem d_mo_combine_49 : decode prog_8_method_16_code 49 = .ok (.ireturn, 1) := by decide +kernel
theorem d_mo_combine_50 : decode prog_8_method_16_code 50 = .ok (.aload_n 0, 1) := by decide +kernel
theorem d_mo_combine_51 : decode prog_8_method_16_code 51 = .ok (.iconst 0, 1) := by decide +kernel
theorem d_mo_combine_52 : decode prog_8_method_16_code 52 = .ok (.iload_n 1, 1) := by decide +kernel
theorem d_mo_combine_53 : decode prog_8_method_16_code 53 = .ok (.iconst 2, 1) := by decide +kernel
theorem d_mo_combine_54 : decode prog_8_method_16_code 54 = .ok (.iload 5, 2) := by decide +kernel
theorem d_mo_combine_56 : decode prog_8_method_16_code 56 = .ok (.imul, 1) := by decide +kernel
theorem d_mo_combine_57 : decode prog_8_method_16_code 57 = .ok (.invokevirtual 93, 3) := by decide +kernel
theorem d_mo_combine_60 : decode prog_8_method_16_code 60 = .ok (.aload_n 0, 1) := by decide +kernel
theorem d_mo_combine_61 : decode prog_8_method_16_code 61 = .ok (.sipush 2200, 3) := by decide +kernel
theorem d_mo_combine_64 : decode prog_8_method_16_code 64 = .ok (.iload_n 2, 1) := by decide +kernel
theorem d_mo_combine_65 : decode prog_8_method_16_code 65 = .ok (.iconst 2, 1) := by decide +kernel
theorem d_mo_combine_66 : decode prog_8_method_16_code 66 = .ok (.iload 5, 2) := by decide +kernel
theorem d_mo_combine_68 : decode prog_8_method_16_code 68 = .ok (.imul, 1) := by decide +kernel
theorem d_mo_combine_69 : decode prog_8_method_16_code 69 = .ok (.invokevirtual 93, 3) := by decide +kernel
theorem d_mo_combine_72 : decode prog_8_method_16_code 72 = .ok (.iload_n 3, 1) := by decide +kernel
theorem d_mo_combine_73 : decode prog_8_method_16_code 73 = .ok (.invokestatic 74, 3) := by decide +kernel
theorem d_mo_combine_76 : decode prog_8_method_16_code 76 = .ok (.lstore 7, 2) := by decide +kernel
theorem d_mo_combine_78 : decode prog_8_method_16_code 78 = .ok (.iload 4, 2) := by decide +kernel
theorem d_mo_combine_80 : decode prog_8_method_16_code 80 = .ok (.invokestatic 74, 3) := by decide +kernel
theorem d_mo_combine_83 : decode prog_8_method_16_code 83 = .ok (.lstore 9, 2) := by decide +kernel
theorem d_mo_combine_85 : decode prog_8_method_16_code 85 = .ok (.iconst 0, 1) := by decide +kernel
theorem d_mo_combine_86 : decode prog_8_method_16_code 86 = .ok (.istore 11, 2) := by decide +kernel
theorem d_mo_combine_88 : decode prog_8_method_16_code 88 = .ok (.iload 11, 2) := by decide +kernel
theorem d_mo_combine_90 : decode prog_8_method_16_code 90 = .ok (.iconst 2, 1) := by decide +kernel
theorem d_mo_combine_91 : decode prog_8_method_16_code 91 = .ok (.iload 5, 2) := by decide +kernel
theorem d_mo_combine_93 : decode prog_8_method_16_code 93 = .ok (.imul, 1) := by decide +kernel
theorem d_mo_combine_94 : decode prog_8_method_16_code 94 = .ok (.if_icmp .ge 59, 3) := by decide +kernel
theorem d_mo_combine_97 : decode prog_8_method_16_code 97 = .ok (.aload_n 0, 1) := by decide +kernel
theorem d_mo_combine_98 : decode prog_8_method_16_code 98 = .ok (.getfield 23, 3) := by decide +kernel
theorem d_mo_combine_101 : decode prog_8_method_16_code 101 = .ok (.sipush 2300, 3) := by decide +kernel
theorem d_mo_combine_104 : decode prog_8_method_16_code 104 = .ok (.iload 11, 2) := by decide +kernel
theorem d_mo_combine_106 : decode prog_8_method_16_code 106 = .ok (.iadd, 1) := by decide +kernel
theorem d_mo_combine_107 : decode prog_8_method_16_code 107 = .ok (.lload 7, 2) := by decide +kernel
theorem d_mo_combine_109 : decode prog_8_method_16_code 109 = .ok (.aload_n 0, 1) := by decide +kernel
theorem d_mo_combine_110 : decode prog_8_method_16_code 110 = .ok (.getfield 23, 3) := by decide +kernel
theorem d_mo_combine_113 : decode prog_8_method_16_code 113 = .ok (.iconst 0, 1) := by decide +kernel
theorem d_mo_combine_114 : decode prog_8_method_16_code 114 = .ok (.iload 11, 2) := by decide +kernel
theorem d_mo_combine_116 : decode prog_8_method_16_code 116 = .ok (.iadd, 1) := by decide +kernel
theorem d_mo_combine_117 : decode prog_8_method_16_code 117 = .ok (.laload, 1) := by decide +kernel
theorem d_mo_combine_118 : decode prog_8_method_16_code 118 = .ok (.lmul, 1) := by decide +kernel
theorem d_mo_combine_119 : decode prog_8_method_16_code 119 = .ok (.ldc2_w 44, 3) := by decide +kernel
theorem d_mo_combine_122 : decode prog_8_method_16_code 122 = .ok (.lrem, 1) := by decide +kernel
theorem d_mo_combine_123 : decode prog_8_method_16_code 123 = .ok (.lload 9, 2) := by decide +kernel
theorem d_mo_combine_125 : decode prog_8_method_16_code 125 = .ok (.aload_n 0, 1) := by decide +kernel
theorem d_mo_combine_126 : decode prog_8_method_16_code 126 = .ok (.getfield 23, 3) := by decide +kernel
theorem d_mo_combine_129 : decode prog_8_method_16_code 129 = .ok (.sipush 2200, 3) := by decide +kernel
theorem d_mo_combine_132 : decode prog_8_method_16_code 132 = .ok (.iload 11, 2) := by decide +kernel
theorem d_mo_combine_134 : decode prog_8_method_16_code 134 = .ok (.iadd, 1) := by decide +kernel
theorem d_mo_combine_135 : decode prog_8_method_16_code 135 = .ok (.laload, 1) := by decide +kernel
theorem d_mo_combine_136 : decode prog_8_method_16_code 136 = .ok (.lmul, 1) := by decide +kernel
theorem d_mo_combine_137 : decode prog_8_method_16_code 137 = .ok (.ldc2_w 44, 3) := by decide +kernel
theorem d_mo_combine_140 : decode prog_8_method_16_code 140 = .ok (.lrem, 1) := by decide +kernel
theorem d_mo_combine_141 : decode prog_8_method_16_code 141 = .ok (.ladd, 1) := by decide +kernel
theorem d_mo_combine_142 : decode prog_8_method_16_code 142 = .ok (.ldc2_w 44, 3) := by decide +kernel
theorem d_mo_combine_145 : decode prog_8_method_16_code 145 = .ok (.lrem, 1) := by decide +kernel
theorem d_mo_combine_146 : decode prog_8_method_16_code 146 = .ok (.lastore, 1) := by decide +kernel
theorem d_mo_combine_147 : decode prog_8_method_16_code 147 = .ok (.iinc 11 1, 3) := by decide +kernel
theorem d_mo_combine_150 : decode prog_8_method_16_code 150 = .ok (.goto (-62), 3) := by decide +kernel
theorem d_mo_combine_153 : decode prog_8_method_16_code 153 = .ok (.aload_n 0, 1) := by decide +kernel
theorem d_mo_combine_154 : decode prog_8_method_16_code 154 = .ok (.iload 5, 2) := by decide +kernel
theorem d_mo_combine_156 : decode prog_8_method_16_code 156 = .ok (.invokevirtual 78, 3) := by decide +kernel
theorem d_mo_combine_159 : decode prog_8_method_16_code 159 = .ok (.ireturn, 1) := by decide +kernel
theorem d_mo_product_0 : decode prog_8_method_17_code 0 = .ok (.aload_n 0, 1) := by decide +kernel
theorem d_mo_product_1 : decode prog_8_method_17_code 1 = .ok (.iload_n 1, 1) := by decide +kernel
theorem d_mo_product_2 : decode prog_8_method_17_code 2 = .ok (.invokevirtual 86, 3) := by decide +kernel
theorem d_mo_product_5 : decode prog_8_method_17_code 5 = .ok (.aload_n 0, 1) := by decide +kernel
theorem d_mo_product_6 : decode prog_8_method_17_code 6 = .ok (.iload_n 2, 1) := by decide +kernel
theorem d_mo_product_7 : decode prog_8_method_17_code 7 = .ok (.invokevirtual 86, 3) := by decide +kernel
theorem d_mo_product_10 : decode prog_8_method_17_code 10 = .ok (.iadd, 1) := by decide +kernel
theorem d_mo_product_11 : decode prog_8_method_17_code 11 = .ok (.istore_n 3, 1) := by decide +kernel
theorem d_mo_product_12 : decode prog_8_method_17_code 12 = .ok (.aload_n 0, 1) := by decide +kernel
theorem d_mo_product_13 : decode prog_8_method_17_code 13 = .ok (.aload_n 0, 1) := by decide +kernel
theorem d_mo_product_14 : decode prog_8_method_17_code 14 = .ok (.iload_n 1, 1) := by decide +kernel
theorem d_mo_product_15 : decode prog_8_method_17_code 15 = .ok (.invokevirtual 82, 3) := by decide +kernel
theorem d_mo_product_18 : decode prog_8_method_17_code 18 = .ok (.ifCond .eq 15, 3) := by decide +kernel
theorem d_mo_product_21 : decode prog_8_method_17_code 21 = .ok (.aload_n 0, 1) := by decide +kernel
theorem d_mo_product_22 : decode prog_8_method_17_code 22 = .ok (.iload_n 2, 1) := by decide +kernel
theorem d_mo_product_23 : decode prog_8_method_17_code 23 = .ok (.invokevirtual 82, 3) := by decide +kernel
theorem d_mo_product_26 : decode prog_8_method_17_code 26 = .ok (.ifCond .eq 7, 3) := by decide +kernel
theorem d_mo_product_29 : decode prog_8_method_17_code 29 = .ok (.iconst 1, 1) := by decide +kernel
theorem d_mo_product_30 : decode prog_8_method_17_code 30 = .ok (.goto 4, 3) := by decide +kernel
theorem d_mo_product_33 : decode prog_8_method_17_code 33 = .ok (.iconst 0, 1) := by decide +kernel
theorem d_mo_product_34 : decode prog_8_method_17_code 34 = .ok (.iload_n 3, 1) := by decide +kernel
theorem d_mo_product_35 : decode prog_8_method_17_code 35 = .ok (.invokevirtual 89, 3) := by decide +kernel
theorem d_mo_product_38 : decode prog_8_method_17_code 38 = .ok (.istore 4, 2) := by decide +kernel
theorem d_mo_product_40 : decode prog_8_method_17_code 40 = .ok (.iload 4, 2) := by decide +kernel
theorem d_mo_product_42 : decode prog_8_method_17_code 42 = .ok (.ifCond .ge 6, 3) := by decide +kernel
theorem d_mo_product_45 : decode prog_8_method_17_code 45 = .ok (.iload 4, 2) := by decide +kernel
theorem d_mo_product_47 : decode prog_8_method_17_code 47 = .ok (.ireturn, 1) := by decide +kernel
theorem d_mo_product_48 : decode prog_8_method_17_code 48 = .ok (.aload_n 0, 1) := by decide +kernel
theorem d_mo_product_49 : decode prog_8_method_17_code 49 = .ok (.iconst 0, 1) := by decide +kernel
theorem d_mo_product_50 : decode prog_8_method_17_code 50 = .ok (.iload_n 1, 1) := by decide +kernel
theorem d_mo_product_51 : decode prog_8_method_17_code 51 = .ok (.iconst 2, 1) := by decide +kernel
theorem d_mo_product_52 : decode prog_8_method_17_code 52 = .ok (.iload_n 3, 1) := by decide +kernel
theorem d_mo_product_53 : decode prog_8_method_17_code 53 = .ok (.imul, 1) := by decide +kernel
theorem d_mo_product_54 : decode prog_8_method_17_code 54 = .ok (.invokevirtual 93, 3) := by decide +kernel
theorem d_mo_product_57 : decode prog_8_method_17_code 57 = .ok (.aload_n 0, 1) := by decide +kernel
theorem d_mo_product_58 : decode prog_8_method_17_code 58 = .ok (.sipush 2200, 3) := by decide +kernel
theorem d_mo_product_61 : decode prog_8_method_17_code 61 = .ok (.iload_n 2, 1) := by decide +kernel
theorem d_mo_product_62 : decode prog_8_method_17_code 62 = .ok (.iconst 2, 1) := by decide +kernel
theorem d_mo_product_63 : decode prog_8_method_17_code 63 = .ok (.iload_n 3, 1) := by decide +kernel
theorem d_mo_product_64 : decode prog_8_method_17_code 64 = .ok (.imul, 1) := by decide +kernel
theorem d_mo_product_65 : decode prog_8_method_17_code 65 = .ok (.invokevirtual 93, 3) := by decide +kernel
theorem d_mo_product_68 : decode prog_8_method_17_code 68 = .ok (.iconst 0, 1) := by decide +kernel
theorem d_mo_product_69 : decode prog_8_method_17_code 69 = .ok (.istore 5, 2) := by decide +kernel
theorem d_mo_product_71 : decode prog_8_method_17_code 71 = .ok (.iload 5, 2) := by decide +kernel
theorem d_mo_product_73 : decode prog_8_method_17_code 73 = .ok (.iconst 2, 1) := by decide +kernel
theorem d_mo_product_74 : decode prog_8_method_17_code 74 = .ok (.iload_n 3, 1) := by decide +kernel
theorem d_mo_product_75 : decode prog_8_method_17_code 75 = .ok (.imul, 1) := by decide +kernel
theorem d_mo_product_76 : decode prog_8_method_17_code 76 = .ok (.if_icmp .ge 74, 3) := by decide +kernel
theorem d_mo_product_79 : decode prog_8_method_17_code 79 = .ok (.lconst 0, 1) := by decide +kernel
theorem d_mo_product_80 : decode prog_8_method_17_code 80 = .ok (.lstore 6, 2) := by decide +kernel
theorem d_mo_product_82 : decode prog_8_method_17_code 82 = .ok (.iconst 0, 1) := by decide +kernel
theorem d_mo_product_83 : decode prog_8_method_17_code 83 = .ok (.istore 8, 2) := by decide +kernel
theorem d_mo_product_85 : decode prog_8_method_17_code 85 = .ok (.iload 8, 2) := by decide +kernel
theorem d_mo_product_87 : decode prog_8_method_17_code 87 = .ok (.iload 5, 2) := by decide +kernel
theorem d_mo_product_89 : decode prog_8_method_17_code 89 = .ok (.if_icmp .gt 42, 3) := by decide +kernel
theorem d_mo_product_92 : decode prog_8_method_17_code 92 = .ok (.lload 6, 2) := by decide +kernel
theorem d_mo_product_94 : decode prog_8_method_17_code 94 = .ok (.aload_n 0, 1) := by decide +kernel
theorem d_mo_product_95 : decode prog_8_method_17_code 95 = .ok (.getfield 23, 3) := by decide +kernel
theorem d_mo_product_98 : decode prog_8_method_17_code 98 = .ok (.iconst 0, 1) := by decide +kernel
theorem d_mo_product_99 : decode prog_8_method_17_code 99 = .ok (.iload 8, 2) := by decide +kernel
theorem d_mo_product_101 : decode prog_8_method_17_code 101 = .ok (.iadd, 1) := by decide +kernel
theorem d_mo_product_102 : decode prog_8_method_17_code 102 = .ok (.laload, 1) := by decide +kernel
theorem d_mo_product_103 : decode prog_8_method_17_code 103 = .ok (.aload_n 0, 1) := by decide +kernel
theorem d_mo_product_104 : decode prog_8_method_17_code 104 = .ok (.getfield 23, 3) := by decide +kernel
theorem d_mo_product_107 : decode prog_8_method_17_code 107 = .ok (.sipush 2200, 3) := by decide +kernel
theorem d_mo_product_110 : decode prog_8_method_17_code 110 = .ok (.iload 5, 2) := by decide +kernel
theorem d_mo_product_112 : decode prog_8_method_17_code 112 = .ok (.iadd, 1) := by decide +kernel
theorem d_mo_product_113 : decode prog_8_method_17_code 113 = .ok (.iload 8, 2) := by decide +kernel
theorem d_mo_product_115 : decode prog_8_method_17_code 115 = .ok (.isub, 1) := by decide +kernel
theorem d_mo_product_116 : decode prog_8_method_17_code 116 = .ok (.laload, 1) := by decide +kernel
theorem d_mo_product_117 : decode prog_8_method_17_code 117 = .ok (.lmul, 1) := by decide +kernel
theorem d_mo_product_118 : decode prog_8_method_17_code 118 = .ok (.ladd, 1) := by decide +kernel
theorem d_mo_product_119 : decode prog_8_method_17_code 119 = .ok (.ldc2_w 44, 3) := by decide +kernel
theorem d_mo_product_122 : decode prog_8_method_17_code 122 = .ok (.lrem, 1) := by decide +kernel
theorem d_mo_product_123 : decode prog_8_method_17_code 123 = .ok (.lstore 6, 2) := by decide +kernel
theorem d_mo_product_125 : decode prog_8_method_17_code 125 = .ok (.iinc 8 1, 3) := by decide +kernel
theorem d_mo_product_128 : decode prog_8_method_17_code 128 = .ok (.goto (-43), 3) := by decide +kernel
theorem d_mo_product_131 : decode prog_8_method_17_code 131 = .ok (.aload_n 0, 1) := by decide +kernel
theorem d_mo_product_132 : decode prog_8_method_17_code 132 = .ok (.getfield 23, 3) := by decide +kernel
theorem d_mo_product_135 : decode prog_8_method_17_code 135 = .ok (.sipush 2300, 3) := by decide +kernel
theorem d_mo_product_138 : decode prog_8_method_17_code 138 = .ok (.iload 5, 2) := by decide +kernel
theorem d_mo_product_140 : decode prog_8_method_17_code 140 = .ok (.iadd, 1) := by decide +kernel
theorem d_mo_product_141 : decode prog_8_method_17_code 141 = .ok (.lload 6, 2) := by decide +kernel
theorem d_mo_product_143 : decode prog_8_method_17_code 143 = .ok (.lastore, 1) := by decide +kernel
theorem d_mo_product_144 : decode prog_8_method_17_code 144 = .ok (.iinc 5 1, 3) := by decide +kernel
theorem d_mo_product_147 : decode prog_8_method_17_code 147 = .ok (.goto (-76), 3) := by decide +kernel
theorem d_mo_product_150 : decode prog_8_method_17_code 150 = .ok (.aload_n 0, 1) := by decide +kernel
theorem d_mo_product_151 : decode prog_8_method_17_code 151 = .ok (.iload_n 3, 1) := by decide +kernel
theorem d_mo_product_152 : decode prog_8_method_17_code 152 = .ok (.invokevirtual 78, 3) := by decide +kernel
theorem d_mo_product_155 : decode prog_8_method_17_code 155 = .ok (.ireturn, 1) := by decide +kernel
theorem d_mo_pairwise_0 : decode prog_8_method_18_code 0 = .ok (.aload_n 0, 1) := by decide +kernel
theorem d_mo_pairwise_1 : decode prog_8_method_18_code 1 = .ok (.iload_n 1, 1) := by decide +kernel
theorem d_mo_pairwise_2 : decode prog_8_method_18_code 2 = .ok (.invokevirtual 86, 3) := by decide +kernel
theorem d_mo_pairwise_5 : decode prog_8_method_18_code 5 = .ok (.aload_n 0, 1) := by decide +kernel
theorem d_mo_pairwise_6 : decode prog_8_method_18_code 6 = .ok (.iload_n 2, 1) := by decide +kernel
theorem d_mo_pairwise_7 : decode prog_8_method_18_code 7 = .ok (.invokevirtual 86, 3) := by decide +kernel
theorem d_mo_pairwise_10 : decode prog_8_method_18_code 10 = .ok (.imul, 1) := by decide +kernel
theorem d_mo_pairwise_11 : decode prog_8_method_18_code 11 = .ok (.istore_n 3, 1) := by decide +kernel
theorem d_mo_pairwise_12 : decode prog_8_method_18_code 12 = .ok (.aload_n 0, 1) := by decide +kernel
theorem d_mo_pairwise_13 : decode prog_8_method_18_code 13 = .ok (.aload_n 0, 1) := by decide +kernel
theorem d_mo_pairwise_14 : decode prog_8_method_18_code 14 = .ok (.iload_n 1, 1) := by decide +kernel
theorem d_mo_pairwise_15 : decode prog_8_method_18_code 15 = .ok (.invokevirtual 82, 3) := by decide +kernel
theorem d_mo_pairwise_18 : decode prog_8_method_18_code 18 = .ok (.ifCond .eq 15, 3) := by decide +kernel
theorem d_mo_pairwise_21 : decode prog_8_method_18_code 21 = .ok (.aload_n 0, 1) := by decide +kernel
theorem d_mo_pairwise_22 : decode prog_8_method_18_code 22 = .ok (.iload_n 2, 1) := by decide +kernel
theorem d_mo_pairwise_23 : decode prog_8_method_18_code 23 = .ok (.invokevirtual 82, 3) := by decide +kernel
theorem d_mo_pairwise_26 : decode prog_8_method_18_code 26 = .ok (.ifCond .eq 7, 3) := by decide +kernel
theorem d_mo_pairwise_29 : decode prog_8_method_18_code 29 = .ok (.iconst 1, 1) := by decide +kernel
theorem d_mo_pairwise_30 : decode prog_8_method_18_code 30 = .ok (.goto 4, 3) := by decide +kernel
theorem d_mo_pairwise_33 : decode prog_8_method_18_code 33 = .ok (.iconst 0, 1) := by decide +kernel
theorem d_mo_pairwise_34 : decode prog_8_method_18_code 34 = .ok (.iload_n 3, 1) := by decide +kernel
theorem d_mo_pairwise_35 : decode prog_8_method_18_code 35 = .ok (.invokevirtual 89, 3) := by decide +kernel
theorem d_mo_pairwise_38 : decode prog_8_method_18_code 38 = .ok (.istore 4, 2) := by decide +kernel
theorem d_mo_pairwise_40 : decode prog_8_method_18_code 40 = .ok (.iload 4, 2) := by decide +kernel
theorem d_mo_pairwise_42 : decode prog_8_method_18_code 42 = .ok (.ifCond .ge 6, 3) := by decide +kernel
theorem d_mo_pairwise_45 : decode prog_8_method_18_code 45 = .ok (.iload 4, 2) := by decide +kernel
theorem d_mo_pairwise_47 : decode prog_8_method_18_code 47 = .ok (.ireturn, 1) := by decide +kernel
theorem d_mo_pairwise_48 : decode prog_8_method_18_code 48 = .ok (.aload_n 0, 1) := by decide +kernel
theorem d_mo_pairwise_49 : decode prog_8_method_18_code 49 = .ok (.iconst 0, 1) := by decide +kernel
theorem d_mo_pairwise_50 : decode prog_8_method_18_code 50 = .ok (.iload_n 1, 1) := by decide +kernel
theorem d_mo_pairwise_51 : decode prog_8_method_18_code 51 = .ok (.iconst 2, 1) := by decide +kernel
theorem d_mo_pairwise_52 : decode prog_8_method_18_code 52 = .ok (.iload_n 3, 1) := by decide +kernel
theorem d_mo_pairwise_53 : decode prog_8_method_18_code 53 = .ok (.imul, 1) := by decide +kernel
theorem d_mo_pairwise_54 : decode prog_8_method_18_code 54 = .ok (.invokevirtual 93, 3) := by decide +kernel
theorem d_mo_pairwise_57 : decode prog_8_method_18_code 57 = .ok (.aload_n 0, 1) := by decide +kernel
theorem d_mo_pairwise_58 : decode prog_8_method_18_code 58 = .ok (.sipush 2200, 3) := by decide +kernel
theorem d_mo_pairwise_61 : decode prog_8_method_18_code 61 = .ok (.iload_n 2, 1) := by decide +kernel
theorem d_mo_pairwise_62 : decode prog_8_method_18_code 62 = .ok (.iconst 2, 1) := by decide +kernel
theorem d_mo_pairwise_63 : decode prog_8_method_18_code 63 = .ok (.iload_n 3, 1) := by decide +kernel
theorem d_mo_pairwise_64 : decode prog_8_method_18_code 64 = .ok (.imul, 1) := by decide +kernel
theorem d_mo_pairwise_65 : decode prog_8_method_18_code 65 = .ok (.invokevirtual 93, 3) := by decide +kernel
theorem d_mo_pairwise_68 : decode prog_8_method_18_code 68 = .ok (.iconst 0, 1) := by decide +kernel
theorem d_mo_pairwise_69 : decode prog_8_method_18_code 69 = .ok (.istore 5, 2) := by decide +kernel
theorem d_mo_pairwise_71 : decode prog_8_method_18_code 71 = .ok (.iload 5, 2) := by decide +kernel
theorem d_mo_pairwise_73 : decode prog_8_method_18_code 73 = .ok (.iconst 2, 1) := by decide +kernel
theorem d_mo_pairwise_74 : decode prog_8_method_18_code 74 = .ok (.iload_n 3, 1) := by decide +kernel
theorem d_mo_pairwise_75 : decode prog_8_method_18_code 75 = .ok (.imul, 1) := by decide +kernel
theorem d_mo_pairwise_76 : decode prog_8_method_18_code 76 = .ok (.if_icmp .ge 45, 3) := by decide +kernel
theorem d_mo_pairwise_79 : decode prog_8_method_18_code 79 = .ok (.aload_n 0, 1) := by decide +kernel
theorem d_mo_pairwise_80 : decode prog_8_method_18_code 80 = .ok (.getfield 23, 3) := by decide +kernel
theorem d_mo_pairwise_83 : decode prog_8_method_18_code 83 = .ok (.sipush 2300, 3) := by decide +kernel
theorem d_mo_pairwise_86 : decode prog_8_method_18_code 86 = .ok (.iload 5, 2) := by decide +kernel
theorem d_mo_pairwise_88 : decode prog_8_method_18_code 88 = .ok (.iadd, 1) := by decide +kernel
theorem d_mo_pairwise_89 : decode prog_8_method_18_code 89 = .ok (.aload_n 0, 1) := by decide +kernel
theorem d_mo_pairwise_90 : decode prog_8_method_18_code 90 = .ok (.getfield 23, 3) := by decide +kernel
theorem d_mo_pairwise_93 : decode prog_8_method_18_code 93 = .ok (.iconst 0, 1) := by decide +kernel
theorem d_mo_pairwise_94 : decode prog_8_method_18_code 94 = .ok (.iload 5, 2) := by decide +kernel
theorem d_mo_pairwise_96 : decode prog_8_method_18_code 96 = .ok (.iadd, 1) := by decide +kernel
theorem d_mo_pairwise_97 : decode prog_8_method_18_code 97 = .ok (.laload, 1) := by decide +kernel
theorem d_mo_pairwise_98 : decode prog_8_method_18_code 98 = .ok (.aload_n 0, 1) := by decide +kernel
theorem d_mo_pairwise_99 : decode prog_8_method_18_code 99 = .ok (.getfield 23, 3) := by decide +kernel
theorem d_mo_pairwise_102 : decode prog_8_method_18_code 102 = .ok (.sipush 2200, 3) := by decide +kernel
theorem d_mo_pairwise_105 : decode prog_8_method_18_code 105 = .ok (.iload 5, 2) := by decide +kernel
theorem d_mo_pairwise_107 : decode prog_8_method_18_code 107 = .ok (.iadd, 1) := by decide +kernel
theorem d_mo_pairwise_108 : decode prog_8_method_18_code 108 = .ok (.laload, 1) := by decide +kernel
theorem d_mo_pairwise_109 : decode prog_8_method_18_code 109 = .ok (.lmul, 1) := by decide +kernel
theorem d_mo_pairwise_110 : decode prog_8_method_18_code 110 = .ok (.ldc2_w 44, 3) := by decide +kernel
theorem d_mo_pairwise_113 : decode prog_8_method_18_code 113 = .ok (.lrem, 1) := by decide +kernel
theorem d_mo_pairwise_114 : decode prog_8_method_18_code 114 = .ok (.lastore, 1) := by decide +kernel
theorem d_mo_pairwise_115 : decode prog_8_method_18_code 115 = .ok (.iinc 5 1, 3) := by decide +kernel
theorem d_mo_pairwise_118 : decode prog_8_method_18_code 118 = .ok (.goto (-47), 3) := by decide +kernel
theorem d_mo_pairwise_121 : decode prog_8_method_18_code 121 = .ok (.aload_n 0, 1) := by decide +kernel
theorem d_mo_pairwise_122 : decode prog_8_method_18_code 122 = .ok (.iload_n 3, 1) := by decide +kernel
theorem d_mo_pairwise_123 : decode prog_8_method_18_code 123 = .ok (.invokevirtual 78, 3) := by decide +kernel
theorem d_mo_pairwise_126 : decode prog_8_method_18_code 126 = .ok (.ireturn, 1) := by decide +kernel
theorem d_mo_derivative_0 : decode prog_8_method_19_code 0 = .ok (.iconst 2, 1) := by decide +kernel
theorem d_mo_derivative_1 : decode prog_8_method_19_code 1 = .ok (.aload_n 0, 1) := by decide +kernel
theorem d_mo_derivative_2 : decode prog_8_method_19_code 2 = .ok (.iload_n 1, 1) := by decide +kernel
theorem d_mo_derivative_3 : decode prog_8_method_19_code 3 = .ok (.invokevirtual 86, 3) := by decide +kernel
theorem d_mo_derivative_6 : decode prog_8_method_19_code 6 = .ok (.imul, 1) := by decide +kernel
theorem d_mo_derivative_7 : decode prog_8_method_19_code 7 = .ok (.istore_n 2, 1) := by decide +kernel
theorem d_mo_derivative_8 : decode prog_8_method_19_code 8 = .ok (.aload_n 0, 1) := by decide +kernel
theorem d_mo_derivative_9 : decode prog_8_method_19_code 9 = .ok (.aload_n 0, 1) := by decide +kernel
theorem d_mo_derivative_10 : decode prog_8_method_19_code 10 = .ok (.iload_n 1, 1) := by decide +kernel
theorem d_mo_derivative_11 : decode prog_8_method_19_code 11 = .ok (.invokevirtual 82, 3) := by decide +kernel
theorem d_mo_derivative_14 : decode prog_8_method_19_code 14 = .ok (.iload_n 2, 1) := by decide +kernel
theorem d_mo_derivative_15 : decode prog_8_method_19_code 15 = .ok (.invokevirtual 89, 3) := by decide +kernel
theorem d_mo_derivative_18 : decode prog_8_method_19_code 18 = .ok (.istore_n 3, 1) := by decide +kernel
theorem d_mo_derivative_19 : decode prog_8_method_19_code 19 = .ok (.iload_n 3, 1) := by decide +kernel
theorem d_mo_derivative_20 : decode prog_8_method_19_code 20 = .ok (.ifCond .ge 5, 3) := by decide +kernel
theorem d_mo_derivative_23 : decode prog_8_method_19_code 23 = .ok (.iload_n 3, 1) := by decide +kernel
theorem d_mo_derivative_24 : decode prog_8_method_19_code 24 = .ok (.ireturn, 1) := by decide +kernel
theorem d_mo_derivative_25 : decode prog_8_method_19_code 25 = .ok (.aload_n 0, 1) := by decide +kernel
theorem d_mo_derivative_26 : decode prog_8_method_19_code 26 = .ok (.iconst 0, 1) := by decide +kernel
theorem d_mo_derivative_27 : decode prog_8_method_19_code 27 = .ok (.iload_n 1, 1) := by decide +kernel
theorem d_mo_derivative_28 : decode prog_8_method_19_code 28 = .ok (.iconst 2, 1) := by decide +kernel
theorem d_mo_derivative_29 : decode prog_8_method_19_code 29 = .ok (.iload_n 2, 1) := by decide +kernel
theorem d_mo_derivative_30 : decode prog_8_method_19_code 30 = .ok (.imul, 1) := by decide +kernel
theorem d_mo_derivative_31 : decode prog_8_method_19_code 31 = .ok (.iconst 1, 1) := by decide +kernel
theorem d_mo_derivative_32 : decode prog_8_method_19_code 32 = .ok (.iadd, 1) := by decide +kernel
theorem d_mo_derivative_33 : decode prog_8_method_19_code 33 = .ok (.invokevirtual 93, 3) := by decide +kernel
theorem d_mo_derivative_36 : decode prog_8_method_19_code 36 = .ok (.iconst 0, 1) := by decide +kernel
theorem d_mo_derivative_37 : decode prog_8_method_19_code 37 = .ok (.istore 4, 2) := by decide +kernel
theorem d_mo_derivative_39 : decode prog_8_method_19_code 39 = .ok (.iload 4, 2) := by decide +kernel
theorem d_mo_derivative_41 : decode prog_8_method_19_code 41 = .ok (.iconst 2, 1) := by decide +kernel
theorem d_mo_derivative_42 : decode prog_8_method_19_code 42 = .ok (.iload_n 2, 1) := by decide +kernel
theorem d_mo_derivative_43 : decode prog_8_method_19_code 43 = .ok (.imul, 1) := by decide +kernel
theorem d_mo_derivative_44 : decode prog_8_method_19_code 44 = .ok (.if_icmp .ge 41, 3) := by decide +kernel
theorem d_mo_derivative_47 : decode prog_8_method_19_code 47 = .ok (.aload_n 0, 1) := by decide +kernel
theorem d_mo_derivative_48 : decode prog_8_method_19_code 48 = .ok (.getfield 23, 3) := by decide +kernel
theorem d_mo_derivative_51 : decode prog_8_method_19_code 51 = .ok (.sipush 2300, 3) := by decide +kernel
theorem d_mo_derivative_54 : decode prog_8_method_19_code 54 = .ok (.iload 4, 2) := by decide +kernel
theorem d_mo_derivative_56 : decode prog_8_method_19_code 56 = .ok (.iadd, 1) := by decide +kernel
theorem d_mo_derivative_57 : decode prog_8_method_19_code 57 = .ok (.iload 4, 2) := by decide +kernel
theorem d_mo_derivative_59 : decode prog_8_method_19_code 59 = .ok (.iconst 1, 1) := by decide +kernel
theorem d_mo_derivative_60 : decode prog_8_method_19_code 60 = .ok (.iadd, 1) := by decide +kernel
theorem d_mo_derivative_61 : decode prog_8_method_19_code 61 = .ok (.i2l, 1) := by decide +kernel
theorem d_mo_derivative_62 : decode prog_8_method_19_code 62 = .ok (.aload_n 0, 1) := by decide +kernel
theorem d_mo_derivative_63 : decode prog_8_method_19_code 63 = .ok (.getfield 23, 3) := by decide +kernel
theorem d_mo_derivative_66 : decode prog_8_method_19_code 66 = .ok (.iconst 0, 1) := by decide +kernel
theorem d_mo_derivative_67 : decode prog_8_method_19_code 67 = .ok (.iload 4, 2) := by decide +kernel
theorem d_mo_derivative_69 : decode prog_8_method_19_code 69 = .ok (.iadd, 1) := by decide +kernel
theorem d_mo_derivative_70 : decode prog_8_method_19_code 70 = .ok (.iconst 1, 1) := by decide +kernel
theorem d_mo_derivative_71 : decode prog_8_method_19_code 71 = .ok (.iadd, 1) := by decide +kernel
theorem d_mo_derivative_72 : decode prog_8_method_19_code 72 = .ok (.laload, 1) := by decide +kernel
theorem d_mo_derivative_73 : decode prog_8_method_19_code 73 = .ok (.lmul, 1) := by decide +kernel
theorem d_mo_derivative_74 : decode prog_8_method_19_code 74 = .ok (.ldc2_w 44, 3) := by decide +kernel
theorem d_mo_derivative_77 : decode prog_8_method_19_code 77 = .ok (.lrem, 1) := by decide +kernel
theorem d_mo_derivative_78 : decode prog_8_method_19_code 78 = .ok (.lastore, 1) := by decide +kernel
theorem d_mo_derivative_79 : decode prog_8_method_19_code 79 = .ok (.iinc 4 1, 3) := by decide +kernel
theorem d_mo_derivative_82 : decode prog_8_method_19_code 82 = .ok (.goto (-43), 3) := by decide +kernel
theorem d_mo_derivative_85 : decode prog_8_method_19_code 85 = .ok (.aload_n 0, 1) := by decide +kernel
theorem d_mo_derivative_86 : decode prog_8_method_19_code 86 = .ok (.iload_n 2, 1) := by decide +kernel
theorem d_mo_derivative_87 : decode prog_8_method_19_code 87 = .ok (.invokevirtual 78, 3) := by decide +kernel
theorem d_mo_derivative_90 : decode prog_8_method_19_code 90 = .ok (.ireturn, 1) := by decide +kernel
theorem d_mo_tail_0 : decode prog_8_method_20_code 0 = .ok (.aload_n 0, 1) := by decide +kernel
theorem d_mo_tail_1 : decode prog_8_method_20_code 1 = .ok (.iload_n 1, 1) := by decide +kernel
theorem d_mo_tail_2 : decode prog_8_method_20_code 2 = .ok (.iconst 1, 1) := by decide +kernel
theorem d_mo_tail_3 : decode prog_8_method_20_code 3 = .ok (.iconst 1, 1) := by decide +kernel
theorem d_mo_tail_4 : decode prog_8_method_20_code 4 = .ok (.invokevirtual 96, 3) := by decide +kernel
theorem d_mo_tail_7 : decode prog_8_method_20_code 7 = .ok (.ireturn, 1) := by decide +kernel
theorem d_mo_delay_0 : decode prog_8_method_21_code 0 = .ok (.aload_n 0, 1) := by decide +kernel
theorem d_mo_delay_1 : decode prog_8_method_21_code 1 = .ok (.iload_n 1, 1) := by decide +kernel
theorem d_mo_delay_2 : decode prog_8_method_21_code 2 = .ok (.invokevirtual 86, 3) := by decide +kernel
theorem d_mo_delay_5 : decode prog_8_method_21_code 5 = .ok (.iconst 1, 1) := by decide +kernel
theorem d_mo_delay_6 : decode prog_8_method_21_code 6 = .ok (.iadd, 1) := by decide +kernel
theorem d_mo_delay_7 : decode prog_8_method_21_code 7 = .ok (.istore_n 2, 1) := by decide +kernel
theorem d_mo_delay_8 : decode prog_8_method_21_code 8 = .ok (.aload_n 0, 1) := by decide +kernel
theorem d_mo_delay_9 : decode prog_8_method_21_code 9 = .ok (.aload_n 0, 1) := by decide +kernel
theorem d_mo_delay_10 : decode prog_8_method_21_code 10 = .ok (.iload_n 1, 1) := by decide +kernel
theorem d_mo_delay_11 : decode prog_8_method_21_code 11 = .ok (.invokevirtual 82, 3) := by decide +kernel
theorem d_mo_delay_14 : decode prog_8_method_21_code 14 = .ok (.iload_n 2, 1) := by decide +kernel
theorem d_mo_delay_15 : decode prog_8_method_21_code 15 = .ok (.invokevirtual 89, 3) := by decide +kernel
theorem d_mo_delay_18 : decode prog_8_method_21_code 18 = .ok (.istore_n 3, 1) := by decide +kernel
theorem d_mo_delay_19 : decode prog_8_method_21_code 19 = .ok (.iload_n 3, 1) := by decide +kernel
theorem d_mo_delay_20 : decode prog_8_method_21_code 20 = .ok (.ifCond .ge 5, 3) := by decide +kernel
theorem d_mo_delay_23 : decode prog_8_method_21_code 23 = .ok (.iload_n 3, 1) := by decide +kernel
theorem d_mo_delay_24 : decode prog_8_method_21_code 24 = .ok (.ireturn, 1) := by decide +kernel
theorem d_mo_delay_25 : decode prog_8_method_21_code 25 = .ok (.aload_n 0, 1) := by decide +kernel
theorem d_mo_delay_26 : decode prog_8_method_21_code 26 = .ok (.iconst 0, 1) := by decide +kernel
theorem d_mo_delay_27 : decode prog_8_method_21_code 27 = .ok (.iload_n 1, 1) := by decide +kernel
theorem d_mo_delay_28 : decode prog_8_method_21_code 28 = .ok (.iconst 2, 1) := by decide +kernel
theorem d_mo_delay_29 : decode prog_8_method_21_code 29 = .ok (.iload_n 2, 1) := by decide +kernel
theorem d_mo_delay_30 : decode prog_8_method_21_code 30 = .ok (.imul, 1) := by decide +kernel
theorem d_mo_delay_31 : decode prog_8_method_21_code 31 = .ok (.invokevirtual 93, 3) := by decide +kernel
theorem d_mo_delay_34 : decode prog_8_method_21_code 34 = .ok (.aload_n 0, 1) := by decide +kernel
theorem d_mo_delay_35 : decode prog_8_method_21_code 35 = .ok (.getfield 23, 3) := by decide +kernel
theorem d_mo_delay_38 : decode prog_8_method_21_code 38 = .ok (.sipush 2300, 3) := by decide +kernel
theorem d_mo_delay_41 : decode prog_8_method_21_code 41 = .ok (.lconst 0, 1) := by decide +kernel
theorem d_mo_delay_42 : decode prog_8_method_21_code 42 = .ok (.lastore, 1) := by decide +kernel
theorem d_mo_delay_43 : decode prog_8_method_21_code 43 = .ok (.iconst 1, 1) := by decide +kernel
theorem d_mo_delay_44 : decode prog_8_method_21_code 44 = .ok (.istore 4, 2) := by decide +kernel
theorem d_mo_delay_46 : decode prog_8_method_21_code 46 = .ok (.iload 4, 2) := by decide +kernel
theorem d_mo_delay_48 : decode prog_8_method_21_code 48 = .ok (.iconst 2, 1) := by decide +kernel
theorem d_mo_delay_49 : decode prog_8_method_21_code 49 = .ok (.iload_n 2, 1) := by decide +kernel
theorem d_mo_delay_50 : decode prog_8_method_21_code 50 = .ok (.imul, 1) := by decide +kernel
theorem d_mo_delay_51 : decode prog_8_method_21_code 51 = .ok (.if_icmp .ge 31, 3) := by decide +kernel
theorem d_mo_delay_54 : decode prog_8_method_21_code 54 = .ok (.aload_n 0, 1) := by decide +kernel
theorem d_mo_delay_55 : decode prog_8_method_21_code 55 = .ok (.getfield 23, 3) := by decide +kernel
theorem d_mo_delay_58 : decode prog_8_method_21_code 58 = .ok (.sipush 2300, 3) := by decide +kernel
theorem d_mo_delay_61 : decode prog_8_method_21_code 61 = .ok (.iload 4, 2) := by decide +kernel
theorem d_mo_delay_63 : decode prog_8_method_21_code 63 = .ok (.iadd, 1) := by decide +kernel
theorem d_mo_delay_64 : decode prog_8_method_21_code 64 = .ok (.aload_n 0, 1) := by decide +kernel
theorem d_mo_delay_65 : decode prog_8_method_21_code 65 = .ok (.getfield 23, 3) := by decide +kernel
theorem d_mo_delay_68 : decode prog_8_method_21_code 68 = .ok (.iconst 0, 1) := by decide +kernel
theorem d_mo_delay_69 : decode prog_8_method_21_code 69 = .ok (.iload 4, 2) := by decide +kernel
theorem d_mo_delay_71 : decode prog_8_method_21_code 71 = .ok (.iadd, 1) := by decide +kernel
theorem d_mo_delay_72 : decode prog_8_method_21_code 72 = .ok (.iconst 1, 1) := by decide +kernel
theorem d_mo_delay_73 : decode prog_8_method_21_code 73 = .ok (.isub, 1) := by decide +kernel
theorem d_mo_delay_74 : decode prog_8_method_21_code 74 = .ok (.laload, 1) := by decide +kernel
theorem d_mo_delay_75 : decode prog_8_method_21_code 75 = .ok (.lastore, 1) := by decide +kernel
theorem d_mo_delay_76 : decode prog_8_method_21_code 76 = .ok (.iinc 4 1, 3) := by decide +kernel
theorem d_mo_delay_79 : decode prog_8_method_21_code 79 = .ok (.goto (-33), 3) := by decide +kernel
theorem d_mo_delay_82 : decode prog_8_method_21_code 82 = .ok (.aload_n 0, 1) := by decide +kernel
theorem d_mo_delay_83 : decode prog_8_method_21_code 83 = .ok (.iload_n 2, 1) := by decide +kernel
theorem d_mo_delay_84 : decode prog_8_method_21_code 84 = .ok (.invokevirtual 78, 3) := by decide +kernel
theorem d_mo_delay_87 : decode prog_8_method_21_code 87 = .ok (.ireturn, 1) := by decide +kernel
theorem d_mo_sums_0 : decode prog_8_method_22_code 0 = .ok (.aload_n 0, 1) := by decide +kernel
theorem d_mo_sums_1 : decode prog_8_method_22_code 1 = .ok (.iload_n 1, 1) := by decide +kernel
theorem d_mo_sums_2 : decode prog_8_method_22_code 2 = .ok (.invokevirtual 86, 3) := by decide +kernel
theorem d_mo_sums_5 : decode prog_8_method_22_code 5 = .ok (.iconst 1, 1) := by decide +kernel
theorem d_mo_sums_6 : decode prog_8_method_22_code 6 = .ok (.iadd, 1) := by decide +kernel
theorem d_mo_sums_7 : decode prog_8_method_22_code 7 = .ok (.istore_n 2, 1) := by decide +kernel
theorem d_mo_sums_8 : decode prog_8_method_22_code 8 = .ok (.aload_n 0, 1) := by decide +kernel
theorem d_mo_sums_9 : decode prog_8_method_22_code 9 = .ok (.aload_n 0, 1) := by decide +kernel
theorem d_mo_sums_10 : decode prog_8_method_22_code 10 = .ok (.iload_n 1, 1) := by decide +kernel
theorem d_mo_sums_11 : decode prog_8_method_22_code 11 = .ok (.invokevirtual 82, 3) := by decide +kernel
theorem d_mo_sums_14 : decode prog_8_method_22_code 14 = .ok (.iload_n 2, 1) := by decide +kernel
theorem d_mo_sums_15 : decode prog_8_method_22_code 15 = .ok (.invokevirtual 89, 3) := by decide +kernel
theorem d_mo_sums_18 : decode prog_8_method_22_code 18 = .ok (.istore_n 3, 1) := by decide +kernel
theorem d_mo_sums_19 : decode prog_8_method_22_code 19 = .ok (.iload_n 3, 1) := by decide +kernel
theorem d_mo_sums_20 : decode prog_8_method_22_code 20 = .ok (.ifCond .ge 5, 3) := by decide +kernel
theorem d_mo_sums_23 : decode prog_8_method_22_code 23 = .ok (.iload_n 3, 1) := by decide +kernel
theorem d_mo_sums_24 : decode prog_8_method_22_code 24 = .ok (.ireturn, 1) := by decide +kernel
theorem d_mo_sums_25 : decode prog_8_method_22_code 25 = .ok (.aload_n 0, 1) := by decide +kernel
theorem d_mo_sums_26 : decode prog_8_method_22_code 26 = .ok (.iconst 0, 1) := by decide +kernel
theorem d_mo_sums_27 : decode prog_8_method_22_code 27 = .ok (.iload_n 1, 1) := by decide +kernel
theorem d_mo_sums_28 : decode prog_8_method_22_code 28 = .ok (.iconst 2, 1) := by decide +kernel
theorem d_mo_sums_29 : decode prog_8_method_22_code 29 = .ok (.iload_n 2, 1) := by decide +kernel
theorem d_mo_sums_30 : decode prog_8_method_22_code 30 = .ok (.imul, 1) := by decide +kernel
theorem d_mo_sums_31 : decode prog_8_method_22_code 31 = .ok (.invokevirtual 93, 3) := by decide +kernel
theorem d_mo_sums_34 : decode prog_8_method_22_code 34 = .ok (.lconst 0, 1) := by decide +kernel
theorem d_mo_sums_35 : decode prog_8_method_22_code 35 = .ok (.lstore 4, 2) := by decide +kernel
theorem d_mo_sums_37 : decode prog_8_method_22_code 37 = .ok (.iconst 0, 1) := by decide +kernel
theorem d_mo_sums_38 : decode prog_8_method_22_code 38 = .ok (.istore 6, 2) := by decide +kernel
theorem d_mo_sums_40 : decode prog_8_method_22_code 40 = .ok (.iload 6, 2) := by decide +kernel
theorem d_mo_sums_42 : decode prog_8_method_22_code 42 = .ok (.iconst 2, 1) := by decide +kernel
theorem d_mo_sums_43 : decode prog_8_method_22_code 43 = .ok (.iload_n 2, 1) := by decide +kernel
theorem d_mo_sums_44 : decode prog_8_method_22_code 44 = .ok (.imul, 1) := by decide +kernel
theorem d_mo_sums_45 : decode prog_8_method_22_code 45 = .ok (.if_icmp .ge 40, 3) := by decide +kernel
theorem d_mo_sums_48 : decode prog_8_method_22_code 48 = .ok (.lload 4, 2) := by decide +kernel
theorem d_mo_sums_50 : decode prog_8_method_22_code 50 = .ok (.aload_n 0, 1) := by decide +kernel
theorem d_mo_sums_51 : decode prog_8_method_22_code 51 = .ok (.getfield 23, 3) := by decide +kernel
theorem d_mo_sums_54 : decode prog_8_method_22_code 54 = .ok (.iconst 0, 1) := by decide +kernel
theorem d_mo_sums_55 : decode prog_8_method_22_code 55 = .ok (.iload 6, 2) := by decide +kernel
theorem d_mo_sums_57 : decode prog_8_method_22_code 57 = .ok (.iadd, 1) := by decide +kernel
theorem d_mo_sums_58 : decode prog_8_method_22_code 58 = .ok (.laload, 1) := by decide +kernel
theorem d_mo_sums_59 : decode prog_8_method_22_code 59 = .ok (.ladd, 1) := by decide +kernel
theorem d_mo_sums_60 : decode prog_8_method_22_code 60 = .ok (.ldc2_w 44, 3) := by decide +kernel
theorem d_mo_sums_63 : decode prog_8_method_22_code 63 = .ok (.lrem, 1) := by decide +kernel
theorem d_mo_sums_64 : decode prog_8_method_22_code 64 = .ok (.lstore 4, 2) := by decide +kernel
theorem d_mo_sums_66 : decode prog_8_method_22_code 66 = .ok (.aload_n 0, 1) := by decide +kernel
theorem d_mo_sums_67 : decode prog_8_method_22_code 67 = .ok (.getfield 23, 3) := by decide +kernel
theorem d_mo_sums_70 : decode prog_8_method_22_code 70 = .ok (.sipush 2300, 3) := by decide +kernel
theorem d_mo_sums_73 : decode prog_8_method_22_code 73 = .ok (.iload 6, 2) := by decide +kernel
theorem d_mo_sums_75 : decode prog_8_method_22_code 75 = .ok (.iadd, 1) := by decide +kernel
theorem d_mo_sums_76 : decode prog_8_method_22_code 76 = .ok (.lload 4, 2) := by decide +kernel
theorem d_mo_sums_78 : decode prog_8_method_22_code 78 = .ok (.lastore, 1) := by decide +kernel
theorem d_mo_sums_79 : decode prog_8_method_22_code 79 = .ok (.iinc 6 1, 3) := by decide +kernel
theorem d_mo_sums_82 : decode prog_8_method_22_code 82 = .ok (.goto (-42), 3) := by decide +kernel
theorem d_mo_sums_85 : decode prog_8_method_22_code 85 = .ok (.aload_n 0, 1) := by decide +kernel
theorem d_mo_sums_86 : decode prog_8_method_22_code 86 = .ok (.iload_n 2, 1) := by decide +kernel
theorem d_mo_sums_87 : decode prog_8_method_22_code 87 = .ok (.invokevirtual 78, 3) := by decide +kernel
theorem d_mo_sums_90 : decode prog_8_method_22_code 90 = .ok (.ireturn, 1) := by decide +kernel
theorem d_mo_section_0 : decode prog_8_method_23_code 0 = .ok (.aload_n 0, 1) := by decide +kernel
theorem d_mo_section_1 : decode prog_8_method_23_code 1 = .ok (.iload_n 1, 1) := by decide +kernel
theorem d_mo_section_2 : decode prog_8_method_23_code 2 = .ok (.invokevirtual 86, 3) := by decide +kernel
theorem d_mo_section_5 : decode prog_8_method_23_code 5 = .ok (.istore 4, 2) := by decide +kernel
theorem d_mo_section_7 : decode prog_8_method_23_code 7 = .ok (.aload_n 0, 1) := by decide +kernel
theorem d_mo_section_8 : decode prog_8_method_23_code 8 = .ok (.aload_n 0, 1) := by decide +kernel
theorem d_mo_section_9 : decode prog_8_method_23_code 9 = .ok (.iload_n 1, 1) := by decide +kernel
theorem d_mo_section_10 : decode prog_8_method_23_code 10 = .ok (.invokevirtual 82, 3) := by decide +kernel
theorem d_mo_section_13 : decode prog_8_method_23_code 13 = .ok (.ifCond .eq 29, 3) := by decide +kernel
theorem d_mo_section_16 : decode prog_8_method_23_code 16 = .ok (.iload_n 2, 1) := by decide +kernel
theorem d_mo_section_17 : decode prog_8_method_23_code 17 = .ok (.iconst 1, 1) := by decide +kernel
theorem d_mo_section_18 : decode prog_8_method_23_code 18 = .ok (.if_icmp .lt 24, 3) := by decide +kernel
theorem d_mo_section_21 : decode prog_8_method_23_code 21 = .ok (.iload_n 2, 1) := by decide +kernel
theorem d_mo_section_22 : decode prog_8_method_23_code 22 = .ok (.bipush 24, 2) := by decide +kernel
theorem d_mo_section_24 : decode prog_8_method_23_code 24 = .ok (.if_icmp .gt 18, 3) := by decide +kernel
theorem d_mo_section_27 : decode prog_8_method_23_code 27 = .ok (.iload_n 3, 1) := by decide +kernel
theorem d_mo_section_28 : decode prog_8_method_23_code 28 = .ok (.ifCond .lt 14, 3) := by decide +kernel
theorem d_mo_section_31 : decode prog_8_method_23_code 31 = .ok (.iload_n 3, 1) := by decide +kernel
theorem d_mo_section_32 : decode prog_8_method_23_code 32 = .ok (.sipush 1000, 3) := by decide +kernel
theorem d_mo_section_35 : decode prog_8_method_23_code 35 = .ok (.if_icmp .gt 7, 3) := by decide +kernel
theorem d_mo_section_38 : decode prog_8_method_23_code 38 = .ok (.iconst 1, 1) := by decide +kernel
theorem d_mo_section_39 : decode prog_8_method_23_code 39 = .ok (.goto 4, 3) := by decide +kernel
theorem d_mo_section_42 : decode prog_8_method_23_code 42 = .ok (.iconst 0, 1) := by decide +kernel
theorem d_mo_section_43 : decode prog_8_method_23_code 43 = .ok (.iload 4, 2) := by decide +kernel
theorem d_mo_section_45 : decode prog_8_method_23_code 45 = .ok (.invokevirtual 89, 3) := by decide +kernel
theorem d_mo_section_48 : decode prog_8_method_23_code 48 = .ok (.istore 5, 2) := by decide +kernel
theorem d_mo_section_50 : decode prog_8_method_23_code 50 = .ok (.iload 5, 2) := by decide +kernel
theorem d_mo_section_52 : decode prog_8_method_23_code 52 = .ok (.ifCond .ge 6, 3) := by decide +kernel
theorem d_mo_section_55 : decode prog_8_method_23_code 55 = .ok (.iload 5, 2) := by decide +kernel
theorem d_mo_section_57 : decode prog_8_method_23_code 57 = .ok (.ireturn, 1) := by decide +kernel
theorem d_mo_section_58 : decode prog_8_method_23_code 58 = .ok (.aload_n 0, 1) := by decide +kernel
theorem d_mo_section_59 : decode prog_8_method_23_code 59 = .ok (.iconst 0, 1) := by decide +kernel
theorem d_mo_section_60 : decode prog_8_method_23_code 60 = .ok (.iload_n 1, 1) := by decide +kernel
theorem d_mo_section_61 : decode prog_8_method_23_code 61 = .ok (.iload_n 2, 1) := by decide +kernel
theorem d_mo_section_62 : decode prog_8_method_23_code 62 = .ok (.iconst 2, 1) := by decide +kernel
theorem d_mo_section_63 : decode prog_8_method_23_code 63 = .ok (.imul, 1) := by decide +kernel
theorem d_mo_section_64 : decode prog_8_method_23_code 64 = .ok (.iload 4, 2) := by decide +kernel
theorem d_mo_section_66 : decode prog_8_method_23_code 66 = .ok (.imul, 1) := by decide +kernel
theorem d_mo_section_67 : decode prog_8_method_23_code 67 = .ok (.iload_n 3, 1) := by decide +kernel
theorem d_mo_section_68 : decode prog_8_method_23_code 68 = .ok (.iadd, 1) := by decide +kernel
theorem d_mo_section_69 : decode prog_8_method_23_code 69 = .ok (.invokevirtual 93, 3) := by decide +kernel
theorem d_mo_section_72 : decode prog_8_method_23_code 72 = .ok (.iconst 0, 1) := by decide +kernel
theorem d_mo_section_73 : decode prog_8_method_23_code 73 = .ok (.istore 6, 2) := by decide +kernel
theorem d_mo_section_75 : decode prog_8_method_23_code 75 = .ok (.iload 6, 2) := by decide +kernel
theorem d_mo_section_77 : decode prog_8_method_23_code 77 = .ok (.iconst 2, 1) := by decide +kernel
theorem d_mo_section_78 : decode prog_8_method_23_code 78 = .ok (.iload 4, 2) := by decide +kernel
theorem d_mo_section_80 : decode prog_8_method_23_code 80 = .ok (.imul, 1) := by decide +kernel
theorem d_mo_section_81 : decode prog_8_method_23_code 81 = .ok (.if_icmp .ge 33, 3) := by decide +kernel
theorem d_mo_section_84 : decode prog_8_method_23_code 84 = .ok (.aload_n 0, 1) := by decide +kernel
theorem d_mo_section_85 : decode prog_8_method_23_code 85 = .ok (.getfield 23, 3) := by decide +kernel
theorem d_mo_section_88 : decode prog_8_method_23_code 88 = .ok (.sipush 2300, 3) := by decide +kernel
theorem d_mo_section_91 : decode prog_8_method_23_code 91 = .ok (.iload 6, 2) := by decide +kernel
theorem d_mo_section_93 : decode prog_8_method_23_code 93 = .ok (.iadd, 1) := by decide +kernel
theorem d_mo_section_94 : decode prog_8_method_23_code 94 = .ok (.aload_n 0, 1) := by decide +kernel
theorem d_mo_section_95 : decode prog_8_method_23_code 95 = .ok (.getfield 23, 3) := by decide +kernel
theorem d_mo_section_98 : decode prog_8_method_23_code 98 = .ok (.iconst 0, 1) := by decide +kernel
theorem d_mo_section_99 : decode prog_8_method_23_code 99 = .ok (.iload_n 2, 1) := by decide +kernel
theorem d_mo_section_100 : decode prog_8_method_23_code 100 = .ok (.iload 6, 2) := by decide +kernel
theorem d_mo_section_102 : decode prog_8_method_23_code 102 = .ok (.imul, 1) := by decide +kernel
theorem d_mo_section_103 : decode prog_8_method_23_code 103 = .ok (.iadd, 1) := by decide +kernel
theorem d_mo_section_104 : decode prog_8_method_23_code 104 = .ok (.iload_n 3, 1) := by decide +kernel
theorem d_mo_section_105 : decode prog_8_method_23_code 105 = .ok (.iadd, 1) := by decide +kernel
theorem d_mo_section_106 : decode prog_8_method_23_code 106 = .ok (.laload, 1) := by decide +kernel
theorem d_mo_section_107 : decode prog_8_method_23_code 107 = .ok (.lastore, 1) := by decide +kernel
theorem d_mo_section_108 : decode prog_8_method_23_code 108 = .ok (.iinc 6 1, 3) := by decide +kernel
theorem d_mo_section_111 : decode prog_8_method_23_code 111 = .ok (.goto (-36), 3) := by decide +kernel
theorem d_mo_section_114 : decode prog_8_method_23_code 114 = .ok (.aload_n 0, 1) := by decide +kernel
theorem d_mo_section_115 : decode prog_8_method_23_code 115 = .ok (.iload 4, 2) := by decide +kernel
theorem d_mo_section_117 : decode prog_8_method_23_code 117 = .ok (.invokevirtual 78, 3) := by decide +kernel
theorem d_mo_section_120 : decode prog_8_method_23_code 120 = .ok (.ireturn, 1) := by decide +kernel
theorem d_mo_spread_0 : decode prog_8_method_24_code 0 = .ok (.aload_n 0, 1) := by decide +kernel
theorem d_mo_spread_1 : decode prog_8_method_24_code 1 = .ok (.iload_n 1, 1) := by decide +kernel
theorem d_mo_spread_2 : decode prog_8_method_24_code 2 = .ok (.invokevirtual 82, 3) := by decide +kernel
theorem d_mo_spread_5 : decode prog_8_method_24_code 5 = .ok (.ifCond .eq 18, 3) := by decide +kernel
theorem d_mo_spread_8 : decode prog_8_method_24_code 8 = .ok (.iload_n 2, 1) := by decide +kernel
theorem d_mo_spread_9 : decode prog_8_method_24_code 9 = .ok (.iconst 1, 1) := by decide +kernel
theorem d_mo_spread_10 : decode prog_8_method_24_code 10 = .ok (.if_icmp .lt 13, 3) := by decide +kernel
theorem d_mo_spread_13 : decode prog_8_method_24_code 13 = .ok (.iload_n 2, 1) := by decide +kernel
theorem d_mo_spread_14 : decode prog_8_method_24_code 14 = .ok (.bipush 24, 2) := by decide +kernel
theorem d_mo_spread_16 : decode prog_8_method_24_code 16 = .ok (.if_icmp .gt 7, 3) := by decide +kernel
theorem d_mo_spread_19 : decode prog_8_method_24_code 19 = .ok (.iconst 1, 1) := by decide +kernel
theorem d_mo_spread_20 : decode prog_8_method_24_code 20 = .ok (.goto 4, 3) := by decide +kernel
theorem d_mo_spread_23 : decode prog_8_method_24_code 23 = .ok (.iconst 0, 1) := by decide +kernel
theorem d_mo_spread_24 : decode prog_8_method_24_code 24 = .ok (.istore_n 3, 1) := by decide +kernel
theorem d_mo_spread_25 : decode prog_8_method_24_code 25 = .ok (.iload_n 3, 1) := by decide +kernel
theorem d_mo_spread_26 : decode prog_8_method_24_code 26 = .ok (.ifCond .eq 13, 3) := by decide +kernel
theorem d_mo_spread_29 : decode prog_8_method_24_code 29 = .ok (.iload_n 2, 1) := by decide +kernel
theorem d_mo_spread_30 : decode prog_8_method_24_code 30 = .ok (.aload_n 0, 1) := by decide +kernel
theorem d_mo_spread_31 : decode prog_8_method_24_code 31 = .ok (.iload_n 1, 1) := by decide +kernel
theorem d_mo_spread_32 : decode prog_8_method_24_code 32 = .ok (.invokevirtual 86, 3) := by decide +kernel
theorem d_mo_spread_35 : decode prog_8_method_24_code 35 = .ok (.imul, 1) := by decide +kernel
theorem d_mo_spread_36 : decode prog_8_method_24_code 36 = .ok (.goto 4, 3) := by decide +kernel
theorem d_mo_spread_39 : decode prog_8_method_24_code 39 = .ok (.iconst 0, 1) := by decide +kernel
theorem d_mo_spread_40 : decode prog_8_method_24_code 40 = .ok (.istore 4, 2) := by decide +kernel
theorem d_mo_spread_42 : decode prog_8_method_24_code 42 = .ok (.aload_n 0, 1) := by decide +kernel
theorem d_mo_spread_43 : decode prog_8_method_24_code 43 = .ok (.iload_n 3, 1) := by decide +kernel
theorem d_mo_spread_44 : decode prog_8_method_24_code 44 = .ok (.iload 4, 2) := by decide +kernel
theorem d_mo_spread_46 : decode prog_8_method_24_code 46 = .ok (.invokevirtual 89, 3) := by decide +kernel
theorem d_mo_spread_49 : decode prog_8_method_24_code 49 = .ok (.istore 5, 2) := by decide +kernel
theorem d_mo_spread_51 : decode prog_8_method_24_code 51 = .ok (.iload 5, 2) := by decide +kernel
theorem d_mo_spread_53 : decode prog_8_method_24_code 53 = .ok (.ifCond .ge 6, 3) := by decide +kernel
theorem d_mo_spread_56 : decode prog_8_method_24_code 56 = .ok (.iload 5, 2) := by decide +kernel
theorem d_mo_spread_58 : decode prog_8_method_24_code 58 = .ok (.ireturn, 1) := by decide +kernel
theorem d_mo_spread_59 : decode prog_8_method_24_code 59 = .ok (.aload_n 0, 1) := by decide +kernel
theorem d_mo_spread_60 : decode prog_8_method_24_code 60 = .ok (.iconst 0, 1) := by decide +kernel
theorem d_mo_spread_61 : decode prog_8_method_24_code 61 = .ok (.iload_n 1, 1) := by decide +kernel
theorem d_mo_spread_62 : decode prog_8_method_24_code 62 = .ok (.iconst 2, 1) := by decide +kernel
theorem d_mo_spread_63 : decode prog_8_method_24_code 63 = .ok (.iload 4, 2) := by decide +kernel
theorem d_mo_spread_65 : decode prog_8_method_24_code 65 = .ok (.imul, 1) := by decide +kernel
theorem d_mo_spread_66 : decode prog_8_method_24_code 66 = .ok (.invokevirtual 93, 3) := by decide +kernel
theorem d_mo_spread_69 : decode prog_8_method_24_code 69 = .ok (.iconst 0, 1) := by decide +kernel
theorem d_mo_spread_70 : decode prog_8_method_24_code 70 = .ok (.istore 6, 2) := by decide +kernel
theorem d_mo_spread_72 : decode prog_8_method_24_code 72 = .ok (.iload 6, 2) := by decide +kernel
theorem d_mo_spread_74 : decode prog_8_method_24_code 74 = .ok (.iconst 2, 1) := by decide +kernel
theorem d_mo_spread_75 : decode prog_8_method_24_code 75 = .ok (.iload 4, 2) := by decide +kernel
theorem d_mo_spread_77 : decode prog_8_method_24_code 77 = .ok (.imul, 1) := by decide +kernel
theorem d_mo_spread_78 : decode prog_8_method_24_code 78 = .ok (.if_icmp .ge 42, 3) := by decide +kernel
theorem d_mo_spread_81 : decode prog_8_method_24_code 81 = .ok (.aload_n 0, 1) := by decide +kernel
theorem d_mo_spread_82 : decode prog_8_method_24_code 82 = .ok (.getfield 23, 3) := by decide +kernel
theorem d_mo_spread_85 : decode prog_8_method_24_code 85 = .ok (.sipush 2300, 3) := by decide +kernel
theorem d_mo_spread_88 : decode prog_8_method_24_code 88 = .ok (.iload 6, 2) := by decide +kernel
theorem d_mo_spread_90 : decode prog_8_method_24_code 90 = .ok (.iadd, 1) := by decide +kernel
theorem d_mo_spread_91 : decode prog_8_method_24_code 91 = .ok (.iload 6, 2) := by decide +kernel
theorem d_mo_spread_93 : decode prog_8_method_24_code 93 = .ok (.iload_n 2, 1) := by decide +kernel
theorem d_mo_spread_94 : decode prog_8_method_24_code 94 = .ok (.irem, 1) := by decide +kernel
theorem d_mo_spread_95 : decode prog_8_method_24_code 95 = .ok (.ifCond .ne 17, 3) := by decide +kernel
theorem d_mo_spread_98 : decode prog_8_method_24_code 98 = .ok (.aload_n 0, 1) := by decide +kernel
theorem d_mo_spread_99 : decode prog_8_method_24_code 99 = .ok (.getfield 23, 3) := by decide +kernel
theorem d_mo_spread_102 : decode prog_8_method_24_code 102 = .ok (.iconst 0, 1) := by decide +kernel
theorem d_mo_spread_103 : decode prog_8_method_24_code 103 = .ok (.iload 6, 2) := by decide +kernel
theorem d_mo_spread_105 : decode prog_8_method_24_code 105 = .ok (.iload_n 2, 1) := by decide +kernel
theorem d_mo_spread_106 : decode prog_8_method_24_code 106 = .ok (.idiv, 1) := by decide +kernel
theorem d_mo_spread_107 : decode prog_8_method_24_code 107 = .ok (.iadd, 1) := by decide +kernel
theorem d_mo_spread_108 : decode prog_8_method_24_code 108 = .ok (.laload, 1) := by decide +kernel
theorem d_mo_spread_109 : decode prog_8_method_24_code 109 = .ok (.goto 4, 3) := by decide +kernel
theorem d_mo_spread_112 : decode prog_8_method_24_code 112 = .ok (.lconst 0, 1) := by decide +kernel
theorem d_mo_spread_113 : decode prog_8_method_24_code 113 = .ok (.lastore, 1) := by decide +kernel
theorem d_mo_spread_114 : decode prog_8_method_24_code 114 = .ok (.iinc 6 1, 3) := by decide +kernel
theorem d_mo_spread_117 : decode prog_8_method_24_code 117 = .ok (.goto (-45), 3) := by decide +kernel
theorem d_mo_spread_120 : decode prog_8_method_24_code 120 = .ok (.aload_n 0, 1) := by decide +kernel
theorem d_mo_spread_121 : decode prog_8_method_24_code 121 = .ok (.iload 4, 2) := by decide +kernel
theorem d_mo_spread_123 : decode prog_8_method_24_code 123 = .ok (.invokevirtual 78, 3) := by decide +kernel
theorem d_mo_spread_126 : decode prog_8_method_24_code 126 = .ok (.ireturn, 1) := by decide +kernel
theorem d_mo_forget_0 : decode prog_8_method_25_code 0 = .ok (.aload_n 0, 1) := by decide +kernel
theorem d_mo_forget_1 : decode prog_8_method_25_code 1 = .ok (.getfield 48, 3) := by decide +kernel
theorem d_mo_forget_4 : decode prog_8_method_25_code 4 = .ok (.ifCond .ne 5, 3) := by decide +kernel
theorem d_mo_forget_7 : decode prog_8_method_25_code 7 = .ok (.iconst 0, 1) := by decide +kernel
theorem d_mo_forget_8 : decode prog_8_method_25_code 8 = .ok (.ireturn, 1) := by decide +kernel
theorem d_mo_forget_9 : decode prog_8_method_25_code 9 = .ok (.aload_n 0, 1) := by decide +kernel
theorem d_mo_forget_10 : decode prog_8_method_25_code 10 = .ok (.dup, 1) := by decide +kernel
theorem d_mo_forget_11 : decode prog_8_method_25_code 11 = .ok (.getfield 48, 3) := by decide +kernel
theorem d_mo_forget_14 : decode prog_8_method_25_code 14 = .ok (.iconst 1, 1) := by decide +kernel
theorem d_mo_forget_15 : decode prog_8_method_25_code 15 = .ok (.isub, 1) := by decide +kernel
theorem d_mo_forget_16 : decode prog_8_method_25_code 16 = .ok (.putfield 48, 3) := by decide +kernel
theorem d_mo_forget_19 : decode prog_8_method_25_code 19 = .ok (.iconst 1, 1) := by decide +kernel
theorem d_mo_forget_20 : decode prog_8_method_25_code 20 = .ok (.ireturn, 1) := by decide +kernel
theorem d_mo_count_0 : decode prog_8_method_26_code 0 = .ok (.aload_n 0, 1) := by decide +kernel
theorem d_mo_count_1 : decode prog_8_method_26_code 1 = .ok (.getfield 48, 3) := by decide +kernel
theorem d_mo_count_4 : decode prog_8_method_26_code 4 = .ok (.ireturn, 1) := by decide +kernel
theorem d_mo_order_0 : decode prog_8_method_27_code 0 = .ok (.aload_n 0, 1) := by decide +kernel
theorem d_mo_order_1 : decode prog_8_method_27_code 1 = .ok (.iload_n 1, 1) := by decide +kernel
theorem d_mo_order_2 : decode prog_8_method_27_code 2 = .ok (.invokevirtual 82, 3) := by decide +kernel
theorem d_mo_order_5 : decode prog_8_method_27_code 5 = .ok (.ifCond .eq 12, 3) := by decide +kernel
theorem d_mo_order_8 : decode prog_8_method_27_code 8 = .ok (.aload_n 0, 1) := by decide +kernel
theorem d_mo_order_9 : decode prog_8_method_27_code 9 = .ok (.getfield 13, 3) := by decide +kernel
theorem d_mo_order_12 : decode prog_8_method_27_code 12 = .ok (.iload_n 1, 1) := by decide +kernel
theorem d_mo_order_13 : decode prog_8_method_27_code 13 = .ok (.iaload, 1) := by decide +kernel
theorem d_mo_order_14 : decode prog_8_method_27_code 14 = .ok (.goto 4, 3) := by decide +kernel
theorem d_mo_order_17 : decode prog_8_method_27_code 17 = .ok (.iconst (-1), 1) := by decide +kernel
theorem d_mo_order_18 : decode prog_8_method_27_code 18 = .ok (.ireturn, 1) := by decide +kernel
theorem d_mo_coefficient_0 : decode prog_8_method_28_code 0 = .ok (.iload_n 2, 1) := by decide +kernel
theorem d_mo_coefficient_1 : decode prog_8_method_28_code 1 = .ok (.iconst 1, 1) := by decide +kernel
theorem d_mo_coefficient_2 : decode prog_8_method_28_code 2 = .ok (.if_icmp .lt 29, 3) := by decide +kernel
theorem d_mo_coefficient_5 : decode prog_8_method_28_code 5 = .ok (.iload_n 2, 1) := by decide +kernel
theorem d_mo_coefficient_6 : decode prog_8_method_28_code 6 = .ok (.aload_n 0, 1) := by decide +kernel
theorem d_mo_coefficient_7 : decode prog_8_method_28_code 7 = .ok (.iload_n 1, 1) := by decide +kernel
theorem d_mo_coefficient_8 : decode prog_8_method_28_code 8 = .ok (.invokevirtual 86, 3) := by decide +kernel
theorem d_mo_coefficient_11 : decode prog_8_method_28_code 11 = .ok (.if_icmp .gt 20, 3) := by decide +kernel
theorem d_mo_coefficient_14 : decode prog_8_method_28_code 14 = .ok (.aload_n 0, 1) := by decide +kernel
theorem d_mo_coefficient_15 : decode prog_8_method_28_code 15 = .ok (.getfield 17, 3) := by decide +kernel
theorem d_mo_coefficient_18 : decode prog_8_method_28_code 18 = .ok (.bipush 24, 2) := by decide +kernel
theorem d_mo_coefficient_20 : decode prog_8_method_28_code 20 = .ok (.iload_n 1, 1) := by decide +kernel
theorem d_mo_coefficient_21 : decode prog_8_method_28_code 21 = .ok (.imul, 1) := by decide +kernel
theorem d_mo_coefficient_22 : decode prog_8_method_28_code 22 = .ok (.iload_n 2, 1) := by decide +kernel
theorem d_mo_coefficient_23 : decode prog_8_method_28_code 23 = .ok (.iadd, 1) := by decide +kernel
theorem d_mo_coefficient_24 : decode prog_8_method_28_code 24 = .ok (.iconst 1, 1) := by decide +kernel
theorem d_mo_coefficient_25 : decode prog_8_method_28_code 25 = .ok (.isub, 1) := by decide +kernel
theorem d_mo_coefficient_26 : decode prog_8_method_28_code 26 = .ok (.laload, 1) := by decide +kernel
theorem d_mo_coefficient_27 : decode prog_8_method_28_code 27 = .ok (.l2i, 1) := by decide +kernel
theorem d_mo_coefficient_28 : decode prog_8_method_28_code 28 = .ok (.goto 4, 3) := by decide +kernel
theorem d_mo_coefficient_31 : decode prog_8_method_28_code 31 = .ok (.iconst (-1), 1) := by decide +kernel
theorem d_mo_coefficient_32 : decode prog_8_method_28_code 32 = .ok (.ireturn, 1) := by decide +kernel
theorem d_mo_makeStep_0 : decode prog_8_method_29_code 0 = .ok (.iconst 0, 1) := by decide +kernel
theorem d_mo_makeStep_1 : decode prog_8_method_29_code 1 = .ok (.istore_n 3, 1) := by decide +kernel
theorem d_mo_makeStep_2 : decode prog_8_method_29_code 2 = .ok (.iload_n 3, 1) := by decide +kernel
theorem d_mo_makeStep_3 : decode prog_8_method_29_code 3 = .ok (.iload_n 2, 1) := by decide +kernel
theorem d_mo_makeStep_4 : decode prog_8_method_29_code 4 = .ok (.if_icmp .ge 75, 3) := by decide +kernel
theorem d_mo_makeStep_7 : decode prog_8_method_29_code 7 = .ok (.iconst 0, 1) := by decide +kernel
theorem d_mo_makeStep_8 : decode prog_8_method_29_code 8 = .ok (.istore 4, 2) := by decide +kernel
theorem d_mo_makeStep_10 : decode prog_8_method_29_code 10 = .ok (.iload 4, 2) := by decide +kernel
theorem d_mo_makeStep_12 : decode prog_8_method_29_code 12 = .ok (.iload_n 2, 1) := by decide +kernel
theorem d_mo_makeStep_13 : decode prog_8_method_29_code 13 = .ok (.if_icmp .ge 60, 3) := by decide +kernel
theorem d_mo_makeStep_16 : decode prog_8_method_29_code 16 = .ok (.aload_n 0, 1) := by decide +kernel
theorem d_mo_makeStep_17 : decode prog_8_method_29_code 17 = .ok (.getfield 32, 3) := by decide +kernel
theorem d_mo_makeStep_20 : decode prog_8_method_29_code 20 = .ok (.bipush 24, 2) := by decide +kernel
theorem d_mo_makeStep_22 : decode prog_8_method_29_code 22 = .ok (.iload_n 3, 1) := by decide +kernel
theorem d_mo_makeStep_23 : decode prog_8_method_29_code 23 = .ok (.imul, 1) := by decide +kernel
theorem d_mo_makeStep_24 : decode prog_8_method_29_code 24 = .ok (.iload 4, 2) := by decide +kernel
theorem d_mo_makeStep_26 : decode prog_8_method_29_code 26 = .ok (.iadd, 1) := by decide +kernel
theorem d_mo_makeStep_27 : decode prog_8_method_29_code 27 = .ok (.iload_n 3, 1) := by decide +kernel
theorem d_mo_makeStep_28 : decode prog_8_method_29_code 28 = .ok (.iload_n 2, 1) := by decide +kernel
theorem d_mo_makeStep_29 : decode prog_8_method_29_code 29 = .ok (.iconst 1, 1) := by decide +kernel
theorem d_mo_makeStep_30 : decode prog_8_method_29_code 30 = .ok (.isub, 1) := by decide +kernel
theorem d_mo_makeStep_31 : decode prog_8_method_29_code 31 = .ok (.if_icmp .ne 22, 3) := by decide +kernel
theorem d_mo_makeStep_34 : decode prog_8_method_29_code 34 = .ok (.aload_n 0, 1) := by decide +kernel
theorem d_mo_makeStep_35 : decode prog_8_method_29_code 35 = .ok (.getfield 17, 3) := by decide +kernel
theorem d_mo_makeStep_38 : decode prog_8_method_29_code 38 = .ok (.bipush 24, 2) := by decide +kernel
theorem d_mo_makeStep_40 : decode prog_8_method_29_code 40 = .ok (.iload_n 1, 1) := by decide +kernel
theorem d_mo_makeStep_41 : decode prog_8_method_29_code 41 = .ok (.imul, 1) := by decide +kernel
theorem d_mo_makeStep_42 : decode prog_8_method_29_code 42 = .ok (.iload_n 2, 1) := by decide +kernel
theorem d_mo_makeStep_43 : decode prog_8_method_29_code 43 = .ok (.iadd, 1) := by decide +kernel
theorem d_mo_makeStep_44 : decode prog_8_method_29_code 44 = .ok (.iconst 1, 1) := by decide +kernel
theorem d_mo_makeStep_45 : decode prog_8_method_29_code 45 = .ok (.isub, 1) := by decide +kernel
theorem d_mo_makeStep_46 : decode prog_8_method_29_code 46 = .ok (.iload 4, 2) := by decide +kernel
theorem d_mo_makeStep_48 : decode prog_8_method_29_code 48 = .ok (.isub, 1) := by decide +kernel
theorem d_mo_makeStep_49 : decode prog_8_method_29_code 49 = .ok (.laload, 1) := by decide +kernel
theorem d_mo_makeStep_50 : decode prog_8_method_29_code 50 = .ok (.goto 16, 3) := by decide +kernel
theorem d_mo_makeStep_53 : decode prog_8_method_29_code 53 = .ok (.iload 4, 2) := by decide +kernel
theorem d_mo_makeStep_55 : decode prog_8_method_29_code 55 = .ok (.iload_n 3, 1) := by decide +kernel
theorem d_mo_makeStep_56 : decode prog_8_method_29_code 56 = .ok (.iconst 1, 1) := by decide +kernel
theorem d_mo_makeStep_57 : decode prog_8_method_29_code 57 = .ok (.iadd, 1) := by decide +kernel
theorem d_mo_makeStep_58 : decode prog_8_method_29_code 58 = .ok (.if_icmp .ne 7, 3) := by decide +kernel
theorem d_mo_makeStep_61 : decode prog_8_method_29_code 61 = .ok (.lconst 1, 1) := by decide +kernel
theorem d_mo_makeStep_62 : decode prog_8_method_29_code 62 = .ok (.goto 4, 3) := by decide +kernel
theorem d_mo_makeStep_65 : decode prog_8_method_29_code 65 = .ok (.lconst 0, 1) := by decide +kernel
theorem d_mo_makeStep_66 : decode prog_8_method_29_code 66 = .ok (.lastore, 1) := by decide +kernel
theorem d_mo_makeStep_67 : decode prog_8_method_29_code 67 = .ok (.iinc 4 1, 3) := by decide +kernel
theorem d_mo_makeStep_70 : decode prog_8_method_29_code 70 = .ok (.goto (-60), 3) := by decide +kernel
theorem d_mo_makeStep_73 : decode prog_8_method_29_code 73 = .ok (.iinc 3 1, 3) := by decide +kernel
theorem d_mo_makeStep_76 : decode prog_8_method_29_code 76 = .ok (.goto (-74), 3) := by decide +kernel
theorem d_mo_makeStep_79 : decode prog_8_method_29_code 79 = .ok (.return_, 1) := by decide +kernel
theorem d_mo_applyStep_0 : decode prog_8_method_30_code 0 = .ok (.iconst 0, 1) := by decide +kernel
theorem d_mo_applyStep_1 : decode prog_8_method_30_code 1 = .ok (.istore_n 2, 1) := by decide +kernel
theorem d_mo_applyStep_2 : decode prog_8_method_30_code 2 = .ok (.iload_n 2, 1) := by decide +kernel
theorem d_mo_applyStep_3 : decode prog_8_method_30_code 3 = .ok (.iload_n 1, 1) := by decide +kernel
theorem d_mo_applyStep_4 : decode prog_8_method_30_code 4 = .ok (.if_icmp .ge 60, 3) := by decide +kernel
theorem d_mo_applyStep_7 : decode prog_8_method_30_code 7 = .ok (.lconst 0, 1) := by decide +kernel
theorem d_mo_applyStep_8 : decode prog_8_method_30_code 8 = .ok (.lstore_n 3, 1) := by decide +kernel
theorem d_mo_applyStep_9 : decode prog_8_method_30_code 9 = .ok (.iconst 0, 1) := by decide +kernel
theorem d_mo_applyStep_10 : decode prog_8_method_30_code 10 = .ok (.istore 5, 2) := by decide +kernel
theorem d_mo_applyStep_12 : decode prog_8_method_30_code 12 = .ok (.iload 5, 2) := by decide +kernel
theorem d_mo_applyStep_14 : decode prog_8_method_30_code 14 = .ok (.iload_n 1, 1) := by decide +kernel
theorem d_mo_applyStep_15 : decode prog_8_method_30_code 15 = .ok (.if_icmp .ge 36, 3) := by decide +kernel
theorem d_mo_applyStep_18 : decode prog_8_method_30_code 18 = .ok (.lload_n 3, 1) := by decide +kernel
theorem d_mo_applyStep_19 : decode prog_8_method_30_code 19 = .ok (.aload_n 0, 1) := by decide +kernel
theorem d_mo_applyStep_20 : decode prog_8_method_30_code 20 = .ok (.getfield 32, 3) := by decide +kernel
theorem d_mo_applyStep_23 : decode prog_8_method_30_code 23 = .ok (.bipush 24, 2) := by decide +kernel
theorem d_mo_applyStep_25 : decode prog_8_method_30_code 25 = .ok (.iload_n 2, 1) := by decide +kernel
theorem d_mo_applyStep_26 : decode prog_8_method_30_code 26 = .ok (.imul, 1) := by decide +kernel
theorem d_mo_applyStep_27 : decode prog_8_method_30_code 27 = .ok (.iload 5, 2) := by decide +kernel
theorem d_mo_applyStep_29 : decode prog_8_method_30_code 29 = .ok (.iadd, 1) := by decide +kernel
theorem d_mo_applyStep_30 : decode prog_8_method_30_code 30 = .ok (.laload, 1) := by decide +kernel
theorem d_mo_applyStep_31 : decode prog_8_method_30_code 31 = .ok (.aload_n 0, 1) := by decide +kernel
theorem d_mo_applyStep_32 : decode prog_8_method_30_code 32 = .ok (.getfield 38, 3) := by decide +kernel
theorem d_mo_applyStep_35 : decode prog_8_method_30_code 35 = .ok (.iload 5, 2) := by decide +kernel
theorem d_mo_applyStep_37 : decode prog_8_method_30_code 37 = .ok (.laload, 1) := by decide +kernel
theorem d_mo_applyStep_38 : decode prog_8_method_30_code 38 = .ok (.lmul, 1) := by decide +kernel
theorem d_mo_applyStep_39 : decode prog_8_method_30_code 39 = .ok (.ladd, 1) := by decide +kernel
theorem d_mo_applyStep_40 : decode prog_8_method_30_code 40 = .ok (.ldc2_w 44, 3) := by decide +kernel
theorem d_mo_applyStep_43 : decode prog_8_method_30_code 43 = .ok (.lrem, 1) := by decide +kernel
theorem d_mo_applyStep_44 : decode prog_8_method_30_code 44 = .ok (.lstore_n 3, 1) := by decide +kernel
theorem d_mo_applyStep_45 : decode prog_8_method_30_code 45 = .ok (.iinc 5 1, 3) := by decide +kernel
theorem d_mo_applyStep_48 : decode prog_8_method_30_code 48 = .ok (.goto (-36), 3) := by decide +kernel
theorem d_mo_applyStep_51 : decode prog_8_method_30_code 51 = .ok (.aload_n 0, 1) := by decide +kernel
theorem d_mo_applyStep_52 : decode prog_8_method_30_code 52 = .ok (.getfield 41, 3) := by decide +kernel
theorem d_mo_applyStep_55 : decode prog_8_method_30_code 55 = .ok (.iload_n 2, 1) := by decide +kernel
theorem d_mo_applyStep_56 : decode prog_8_method_30_code 56 = .ok (.lload_n 3, 1) := by decide +kernel
theorem d_mo_applyStep_57 : decode prog_8_method_30_code 57 = .ok (.lastore, 1) := by decide +kernel
theorem d_mo_applyStep_58 : decode prog_8_method_30_code 58 = .ok (.iinc 2 1, 3) := by decide +kernel
theorem d_mo_applyStep_61 : decode prog_8_method_30_code 61 = .ok (.goto (-59), 3) := by decide +kernel
theorem d_mo_applyStep_64 : decode prog_8_method_30_code 64 = .ok (.iconst 0, 1) := by decide +kernel
theorem d_mo_applyStep_65 : decode prog_8_method_30_code 65 = .ok (.istore_n 2, 1) := by decide +kernel
theorem d_mo_applyStep_66 : decode prog_8_method_30_code 66 = .ok (.iload_n 2, 1) := by decide +kernel
theorem d_mo_applyStep_67 : decode prog_8_method_30_code 67 = .ok (.iload_n 1, 1) := by decide +kernel
theorem d_mo_applyStep_68 : decode prog_8_method_30_code 68 = .ok (.if_icmp .ge 21, 3) := by decide +kernel
theorem d_mo_applyStep_71 : decode prog_8_method_30_code 71 = .ok (.aload_n 0, 1) := by decide +kernel
theorem d_mo_applyStep_72 : decode prog_8_method_30_code 72 = .ok (.getfield 38, 3) := by decide +kernel
theorem d_mo_applyStep_75 : decode prog_8_method_30_code 75 = .ok (.iload_n 2, 1) := by decide +kernel
theorem d_mo_applyStep_76 : decode prog_8_method_30_code 76 = .ok (.aload_n 0, 1) := by decide +kernel
theorem d_mo_applyStep_77 : decode prog_8_method_30_code 77 = .ok (.getfield 41, 3) := by decide +kernel
theorem d_mo_applyStep_80 : decode prog_8_method_30_code 80 = .ok (.iload_n 2, 1) := by decide +kernel
theorem d_mo_applyStep_81 : decode prog_8_method_30_code 81 = .ok (.laload, 1) := by decide +kernel
theorem d_mo_applyStep_82 : decode prog_8_method_30_code 82 = .ok (.lastore, 1) := by decide +kernel
theorem d_mo_applyStep_83 : decode prog_8_method_30_code 83 = .ok (.iinc 2 1, 3) := by decide +kernel
theorem d_mo_applyStep_86 : decode prog_8_method_30_code 86 = .ok (.goto (-20), 3) := by decide +kernel
theorem d_mo_applyStep_89 : decode prog_8_method_30_code 89 = .ok (.return_, 1) := by decide +kernel
theorem d_mo_squareStep_0 : decode prog_8_method_31_code 0 = .ok (.iconst 0, 1) := by decide +kernel
theorem d_mo_squareStep_1 : decode prog_8_method_31_code 1 = .ok (.istore_n 2, 1) := by decide +kernel
theorem d_mo_squareStep_2 : decode prog_8_method_31_code 2 = .ok (.iload_n 2, 1) := by decide +kernel
theorem d_mo_squareStep_3 : decode prog_8_method_31_code 3 = .ok (.iload_n 1, 1) := by decide +kernel
theorem d_mo_squareStep_4 : decode prog_8_method_31_code 4 = .ok (.if_icmp .ge 87, 3) := by decide +kernel
theorem d_mo_squareStep_7 : decode prog_8_method_31_code 7 = .ok (.iconst 0, 1) := by decide +kernel
theorem d_mo_squareStep_8 : decode prog_8_method_31_code 8 = .ok (.istore_n 3, 1) := by decide +kernel
theorem d_mo_squareStep_9 : decode prog_8_method_31_code 9 = .ok (.iload_n 3, 1) := by decide +kernel
theorem d_mo_squareStep_10 : decode prog_8_method_31_code 10 = .ok (.iload_n 1, 1) := by decide +kernel
theorem d_mo_squareStep_11 : decode prog_8_method_31_code 11 = .ok (.if_icmp .ge 74, 3) := by decide +kernel
theorem d_mo_squareStep_14 : decode prog_8_method_31_code 14 = .ok (.lconst 0, 1) := by decide +kernel
theorem d_mo_squareStep_15 : decode prog_8_method_31_code 15 = .ok (.lstore 4, 2) := by decide +kernel
theorem d_mo_squareStep_17 : decode prog_8_method_31_code 17 = .ok (.iconst 0, 1) := by decide +kernel
theorem d_mo_squareStep_18 : decode prog_8_method_31_code 18 = .ok (.istore 6, 2) := by decide +kernel
theorem d_mo_squareStep_20 : decode prog_8_method_31_code 20 = .ok (.iload 6, 2) := by decide +kernel
theorem d_mo_squareStep_22 : decode prog_8_method_31_code 22 = .ok (.iload_n 1, 1) := by decide +kernel
theorem d_mo_squareStep_23 : decode prog_8_method_31_code 23 = .ok (.if_icmp .ge 43, 3) := by decide +kernel
theorem d_mo_squareStep_26 : decode prog_8_method_31_code 26 = .ok (.lload 4, 2) := by decide +kernel
theorem d_mo_squareStep_28 : decode prog_8_method_31_code 28 = .ok (.aload_n 0, 1) := by decide +kernel
theorem d_mo_squareStep_29 : decode prog_8_method_31_code 29 = .ok (.getfield 32, 3) := by decide +kernel
theorem d_mo_squareStep_32 : decode prog_8_method_31_code 32 = .ok (.bipush 24, 2) := by decide +kernel
theorem d_mo_squareStep_34 : decode prog_8_method_31_code 34 = .ok (.iload_n 2, 1) := by decide +kernel
theorem d_mo_squareStep_35 : decode prog_8_method_31_code 35 = .ok (.imul, 1) := by decide +kernel
theorem d_mo_squareStep_36 : decode prog_8_method_31_code 36 = .ok (.iload 6, 2) := by decide +kernel
theorem d_mo_squareStep_38 : decode prog_8_method_31_code 38 = .ok (.iadd, 1) := by decide +kernel
theorem d_mo_squareStep_39 : decode prog_8_method_31_code 39 = .ok (.laload, 1) := by decide +kernel
theorem d_mo_squareStep_40 : decode prog_8_method_31_code 40 = .ok (.aload_n 0, 1) := by decide +kernel
theorem d_mo_squareStep_41 : decode prog_8_method_31_code 41 = .ok (.getfield 32, 3) := by decide +kernel
theorem d_mo_squareStep_44 : decode prog_8_method_31_code 44 = .ok (.bipush 24, 2) := by decide +kernel
theorem d_mo_squareStep_46 : decode prog_8_method_31_code 46 = .ok (.iload 6, 2) := by decide +kernel
theorem d_mo_squareStep_48 : decode prog_8_method_31_code 48 = .ok (.imul, 1) := by decide +kernel
theorem d_mo_squareStep_49 : decode prog_8_method_31_code 49 = .ok (.iload_n 3, 1) := by decide +kernel
theorem d_mo_squareStep_50 : decode prog_8_method_31_code 50 = .ok (.iadd, 1) := by decide +kernel
theorem d_mo_squareStep_51 : decode prog_8_method_31_code 51 = .ok (.laload, 1) := by decide +kernel
theorem d_mo_squareStep_52 : decode prog_8_method_31_code 52 = .ok (.lmul, 1) := by decide +kernel
theorem d_mo_squareStep_53 : decode prog_8_method_31_code 53 = .ok (.ladd, 1) := by decide +kernel
theorem d_mo_squareStep_54 : decode prog_8_method_31_code 54 = .ok (.ldc2_w 44, 3) := by decide +kernel
theorem d_mo_squareStep_57 : decode prog_8_method_31_code 57 = .ok (.lrem, 1) := by decide +kernel
theorem d_mo_squareStep_58 : decode prog_8_method_31_code 58 = .ok (.lstore 4, 2) := by decide +kernel
theorem d_mo_squareStep_60 : decode prog_8_method_31_code 60 = .ok (.iinc 6 1, 3) := by decide +kernel
theorem d_mo_squareStep_63 : decode prog_8_method_31_code 63 = .ok (.goto (-43), 3) := by decide +kernel
theorem d_mo_squareStep_66 : decode prog_8_method_31_code 66 = .ok (.aload_n 0, 1) := by decide +kernel
theorem d_mo_squareStep_67 : decode prog_8_method_31_code 67 = .ok (.getfield 35, 3) := by decide +kernel
theorem d_mo_squareStep_70 : decode prog_8_method_31_code 70 = .ok (.bipush 24, 2) := by decide +kernel
theorem d_mo_squareStep_72 : decode prog_8_method_31_code 72 = .ok (.iload_n 2, 1) := by decide +kernel
theorem d_mo_squareStep_73 : decode prog_8_method_31_code 73 = .ok (.imul, 1) := by decide +kernel
theorem d_mo_squareStep_74 : decode prog_8_method_31_code 74 = .ok (.iload_n 3, 1) := by decide +kernel
theorem d_mo_squareStep_75 : decode prog_8_method_31_code 75 = .ok (.iadd, 1) := by decide +kernel
theorem d_mo_squareStep_76 : decode prog_8_method_31_code 76 = .ok (.lload 4, 2) := by decide +kernel
theorem d_mo_squareStep_78 : decode prog_8_method_31_code 78 = .ok (.lastore, 1) := by decide +kernel
theorem d_mo_squareStep_79 : decode prog_8_method_31_code 79 = .ok (.iinc 3 1, 3) := by decide +kernel
theorem d_mo_squareStep_82 : decode prog_8_method_31_code 82 = .ok (.goto (-73), 3) := by decide +kernel
theorem d_mo_squareStep_85 : decode prog_8_method_31_code 85 = .ok (.iinc 2 1, 3) := by decide +kernel
theorem d_mo_squareStep_88 : decode prog_8_method_31_code 88 = .ok (.goto (-86), 3) := by decide +kernel
theorem d_mo_squareStep_91 : decode prog_8_method_31_code 91 = .ok (.iconst 0, 1) := by decide +kernel
theorem d_mo_squareStep_92 : decode prog_8_method_31_code 92 = .ok (.istore_n 2, 1) := by decide +kernel
theorem d_mo_squareStep_93 : decode prog_8_method_31_code 93 = .ok (.iload_n 2, 1) := by decide +kernel
theorem d_mo_squareStep_94 : decode prog_8_method_31_code 94 = .ok (.sipush 576, 3) := by decide +kernel
theorem d_mo_squareStep_97 : decode prog_8_method_31_code 97 = .ok (.if_icmp .ge 21, 3) := by decide +kernel
theorem d_mo_squareStep_100 : decode prog_8_method_31_code 100 = .ok (.aload_n 0, 1) := by decide +kernel
theorem d_mo_squareStep_101 : decode prog_8_method_31_code 101 = .ok (.getfield 32, 3) := by decide +kernel
theorem d_mo_squareStep_104 : decode prog_8_method_31_code 104 = .ok (.iload_n 2, 1) := by decide +kernel
theorem d_mo_squareStep_105 : decode prog_8_method_31_code 105 = .ok (.aload_n 0, 1) := by decide +kernel
theorem d_mo_squareStep_106 : decode prog_8_method_31_code 106 = .ok (.getfield 35, 3) := by decide +kernel
theorem d_mo_squareStep_109 : decode prog_8_method_31_code 109 = .ok (.iload_n 2, 1) := by decide +kernel
theorem d_mo_squareStep_110 : decode prog_8_method_31_code 110 = .ok (.laload, 1) := by decide +kernel
theorem d_mo_squareStep_111 : decode prog_8_method_31_code 111 = .ok (.lastore, 1) := by decide +kernel
theorem d_mo_squareStep_112 : decode prog_8_method_31_code 112 = .ok (.iinc 2 1, 3) := by decide +kernel
theorem d_mo_squareStep_115 : decode prog_8_method_31_code 115 = .ok (.goto (-22), 3) := by decide +kernel
theorem d_mo_squareStep_118 : decode prog_8_method_31_code 118 = .ok (.return_, 1) := by decide +kernel
theorem d_mo_term_0 : decode prog_8_method_32_code 0 = .ok (.aload_n 0, 1) := by decide +kernel
theorem d_mo_term_1 : decode prog_8_method_32_code 1 = .ok (.iload_n 1, 1) := by decide +kernel
theorem d_mo_term_2 : decode prog_8_method_32_code 2 = .ok (.invokevirtual 82, 3) := by decide +kernel
theorem d_mo_term_5 : decode prog_8_method_32_code 5 = .ok (.ifCond .eq 9, 3) := by decide +kernel
theorem d_mo_term_8 : decode prog_8_method_32_code 8 = .ok (.lload_n 2, 1) := by decide +kernel
theorem d_mo_term_9 : decode prog_8_method_32_code 9 = .ok (.lconst 0, 1) := by decide +kernel
theorem d_mo_term_10 : decode prog_8_method_32_code 10 = .ok (.lcmp, 1) := by decide +kernel
theorem d_mo_term_11 : decode prog_8_method_32_code 11 = .ok (.ifCond .ge 5, 3) := by decide +kernel
theorem d_mo_term_14 : decode prog_8_method_32_code 14 = .ok (.iconst (-1), 1) := by decide +kernel
theorem d_mo_term_15 : decode prog_8_method_32_code 15 = .ok (.ireturn, 1) := by decide +kernel
theorem d_mo_term_16 : decode prog_8_method_32_code 16 = .ok (.aload_n 0, 1) := by decide +kernel
theorem d_mo_term_17 : decode prog_8_method_32_code 17 = .ok (.getfield 13, 3) := by decide +kernel
theorem d_mo_term_20 : decode prog_8_method_32_code 20 = .ok (.iload_n 1, 1) := by decide +kernel
theorem d_mo_term_21 : decode prog_8_method_32_code 21 = .ok (.iaload, 1) := by decide +kernel
theorem d_mo_term_22 : decode prog_8_method_32_code 22 = .ok (.istore 4, 2) := by decide +kernel
theorem d_mo_term_24 : decode prog_8_method_32_code 24 = .ok (.iload 4, 2) := by decide +kernel
theorem d_mo_term_26 : decode prog_8_method_32_code 26 = .ok (.ifCond .ne 5, 3) := by decide +kernel
theorem d_mo_term_29 : decode prog_8_method_32_code 29 = .ok (.iconst 0, 1) := by decide +kernel
theorem d_mo_term_30 : decode prog_8_method_32_code 30 = .ok (.ireturn, 1) := by decide +kernel
theorem d_mo_term_31 : decode prog_8_method_32_code 31 = .ok (.aload_n 0, 1) := by decide +kernel
theorem d_mo_term_32 : decode prog_8_method_32_code 32 = .ok (.iload_n 1, 1) := by decide +kernel
theorem d_mo_term_33 : decode prog_8_method_32_code 33 = .ok (.iload 4, 2) := by decide +kernel
theorem d_mo_term_35 : decode prog_8_method_32_code 35 = .ok (.invokevirtual 100, 3) := by decide +kernel
theorem d_mo_term_38 : decode prog_8_method_32_code 38 = .ok (.iconst 0, 1) := by decide +kernel
theorem d_mo_term_39 : decode prog_8_method_32_code 39 = .ok (.istore 5, 2) := by decide +kernel
theorem d_mo_term_41 : decode prog_8_method_32_code 41 = .ok (.iload 5, 2) := by decide +kernel
theorem d_mo_term_43 : decode prog_8_method_32_code 43 = .ok (.iload 4, 2) := by decide +kernel
theorem d_mo_term_45 : decode prog_8_method_32_code 45 = .ok (.if_icmp .ge 28, 3) := by decide +kernel
theorem d_mo_term_48 : decode prog_8_method_32_code 48 = .ok (.aload_n 0, 1) := by decide +kernel
theorem d_mo_term_49 : decode prog_8_method_32_code 49 = .ok (.getfield 38, 3) := by decide +kernel
theorem d_mo_term_52 : decode prog_8_method_32_code 52 = .ok (.iload 5, 2) := by decide +kernel
theorem d_mo_term_54 : decode prog_8_method_32_code 54 = .ok (.aload_n 0, 1) := by decide +kernel
theorem d_mo_term_55 : decode prog_8_method_32_code 55 = .ok (.getfield 20, 3) := by decide +kernel
theorem d_mo_term_58 : decode prog_8_method_32_code 58 = .ok (.bipush 24, 2) := by decide +kernel
theorem d_mo_term_60 : decode prog_8_method_32_code 60 = .ok (.iload_n 1, 1) := by decide +kernel
theorem d_mo_term_61 : decode prog_8_method_32_code 61 = .ok (.imul, 1) := by decide +kernel
theorem d_mo_term_62 : decode prog_8_method_32_code 62 = .ok (.iload 5, 2) := by decide +kernel
theorem d_mo_term_64 : decode prog_8_method_32_code 64 = .ok (.iadd, 1) := by decide +kernel
theorem d_mo_term_65 : decode prog_8_method_32_code 65 = .ok (.laload, 1) := by decide +kernel
theorem d_mo_term_66 : decode prog_8_method_32_code 66 = .ok (.lastore, 1) := by decide +kernel
theorem d_mo_term_67 : decode prog_8_method_32_code 67 = .ok (.iinc 5 1, 3) := by decide +kernel
theorem d_mo_term_70 : decode prog_8_method_32_code 70 = .ok (.goto (-29), 3) := by decide +kernel
theorem d_mo_term_73 : decode prog_8_method_32_code 73 = .ok (.lload_n 2, 1) := by decide +kernel
theorem d_mo_term_74 : decode prog_8_method_32_code 74 = .ok (.lstore 5, 2) := by decide +kernel
theorem d_mo_term_76 : decode prog_8_method_32_code 76 = .ok (.lload 5, 2) := by decide +kernel
theorem d_mo_term_78 : decode prog_8_method_32_code 78 = .ok (.lconst 0, 1) := by decide +kernel
theorem d_mo_term_79 : decode prog_8_method_32_code 79 = .ok (.lcmp, 1) := by decide +kernel
theorem d_mo_term_80 : decode prog_8_method_32_code 80 = .ok (.ifCond .le 40, 3) := by decide +kernel
theorem d_mo_term_83 : decode prog_8_method_32_code 83 = .ok (.lload 5, 2) := by decide +kernel
theorem d_mo_term_85 : decode prog_8_method_32_code 85 = .ok (.lconst 1, 1) := by decide +kernel
theorem d_mo_term_86 : decode prog_8_method_32_code 86 = .ok (.land, 1) := by decide +kernel
theorem d_mo_term_87 : decode prog_8_method_32_code 87 = .ok (.lconst 1, 1) := by decide +kernel
theorem d_mo_term_88 : decode prog_8_method_32_code 88 = .ok (.lcmp, 1) := by decide +kernel
theorem d_mo_term_89 : decode prog_8_method_32_code 89 = .ok (.ifCond .ne 9, 3) := by decide +kernel
theorem d_mo_term_92 : decode prog_8_method_32_code 92 = .ok (.aload_n 0, 1) := by decide +kernel
theorem d_mo_term_93 : decode prog_8_method_32_code 93 = .ok (.iload 4, 2) := by decide +kernel
theorem d_mo_term_95 : decode prog_8_method_32_code 95 = .ok (.invokevirtual 104, 3) := by decide +kernel
theorem d_mo_term_98 : decode prog_8_method_32_code 98 = .ok (.lload 5, 2) := by decide +kernel
theorem d_mo_term_100 : decode prog_8_method_32_code 100 = .ok (.lconst 1, 1) := by decide +kernel
theorem d_mo_term_101 : decode prog_8_method_32_code 101 = .ok (.lcmp, 1) := by decide +kernel
theorem d_mo_term_102 : decode prog_8_method_32_code 102 = .ok (.ifCond .le 9, 3) := by decide +kernel
theorem d_mo_term_105 : decode prog_8_method_32_code 105 = .ok (.aload_n 0, 1) := by decide +kernel
theorem d_mo_term_106 : decode prog_8_method_32_code 106 = .ok (.iload 4, 2) := by decide +kernel
theorem d_mo_term_108 : decode prog_8_method_32_code 108 = .ok (.invokevirtual 108, 3) := by decide +kernel
theorem d_mo_term_111 : decode prog_8_method_32_code 111 = .ok (.lload 5, 2) := by decide +kernel
theorem d_mo_term_113 : decode prog_8_method_32_code 113 = .ok (.iconst 1, 1) := by decide +kernel
theorem d_mo_term_114 : decode prog_8_method_32_code 114 = .ok (.lshr, 1) := by decide +kernel
theorem d_mo_term_115 : decode prog_8_method_32_code 115 = .ok (.lstore 5, 2) := by decide +kernel
theorem d_mo_term_117 : decode prog_8_method_32_code 117 = .ok (.goto (-41), 3) := by decide +kernel
theorem d_mo_term_120 : decode prog_8_method_32_code 120 = .ok (.aload_n 0, 1) := by decide +kernel
theorem d_mo_term_121 : decode prog_8_method_32_code 121 = .ok (.getfield 38, 3) := by decide +kernel
theorem d_mo_term_124 : decode prog_8_method_32_code 124 = .ok (.iconst 0, 1) := by decide +kernel
theorem d_mo_term_125 : decode prog_8_method_32_code 125 = .ok (.laload, 1) := by decide +kernel
theorem d_mo_term_126 : decode prog_8_method_32_code 126 = .ok (.l2i, 1) := by decide +kernel
theorem d_mo_term_127 : decode prog_8_method_32_code 127 = .ok (.ireturn, 1) := by decide +kernel
theorem d_mo_differ_0 : decode prog_8_method_33_code 0 = .ok (.aload_n 0, 1) := by decide +kernel
theorem d_mo_differ_1 : decode prog_8_method_33_code 1 = .ok (.iload_n 1, 1) := by decide +kernel
theorem d_mo_differ_2 : decode prog_8_method_33_code 2 = .ok (.invokevirtual 82, 3) := by decide +kernel
theorem d_mo_differ_5 : decode prog_8_method_33_code 5 = .ok (.ifCond .eq 11, 3) := by decide +kernel
theorem d_mo_differ_8 : decode prog_8_method_33_code 8 = .ok (.aload_n 0, 1) := by decide +kernel
theorem d_mo_differ_9 : decode prog_8_method_33_code 9 = .ok (.iload_n 2, 1) := by decide +kernel
theorem d_mo_differ_10 : decode prog_8_method_33_code 10 = .ok (.invokevirtual 82, 3) := by decide +kernel
theorem d_mo_differ_13 : decode prog_8_method_33_code 13 = .ok (.ifCond .ne 6, 3) := by decide +kernel
theorem d_mo_differ_16 : decode prog_8_method_33_code 16 = .ok (.bipush (-2), 2) := by decide +kernel
theorem d_mo_differ_18 : decode prog_8_method_33_code 18 = .ok (.ireturn, 1) := by decide +kernel
theorem d_mo_differ_19 : decode prog_8_method_33_code 19 = .ok (.aload_n 0, 1) := by decide +kernel
theorem d_mo_differ_20 : decode prog_8_method_33_code 20 = .ok (.getfield 13, 3) := by decide +kernel
theorem d_mo_differ_23 : decode prog_8_method_33_code 23 = .ok (.iload_n 1, 1) := by decide +kernel
theorem d_mo_differ_24 : decode prog_8_method_33_code 24 = .ok (.iaload, 1) := by decide +kernel
theorem d_mo_differ_25 : decode prog_8_method_33_code 25 = .ok (.aload_n 0, 1) := by decide +kernel
theorem d_mo_differ_26 : decode prog_8_method_33_code 26 = .ok (.getfield 13, 3) := by decide +kernel
theorem d_mo_differ_29 : decode prog_8_method_33_code 29 = .ok (.iload_n 2, 1) := by decide +kernel
theorem d_mo_differ_30 : decode prog_8_method_33_code 30 = .ok (.iaload, 1) := by decide +kernel
theorem d_mo_differ_31 : decode prog_8_method_33_code 31 = .ok (.iadd, 1) := by decide +kernel
theorem d_mo_differ_32 : decode prog_8_method_33_code 32 = .ok (.istore_n 3, 1) := by decide +kernel
theorem d_mo_differ_33 : decode prog_8_method_33_code 33 = .ok (.aload_n 0, 1) := by decide +kernel
theorem d_mo_differ_34 : decode prog_8_method_33_code 34 = .ok (.iconst 0, 1) := by decide +kernel
theorem d_mo_differ_35 : decode prog_8_method_33_code 35 = .ok (.iload_n 1, 1) := by decide +kernel
theorem d_mo_differ_36 : decode prog_8_method_33_code 36 = .ok (.iload_n 3, 1) := by decide +kernel
theorem d_mo_differ_37 : decode prog_8_method_33_code 37 = .ok (.invokevirtual 93, 3) := by decide +kernel
theorem d_mo_differ_40 : decode prog_8_method_33_code 40 = .ok (.aload_n 0, 1) := by decide +kernel
theorem d_mo_differ_41 : decode prog_8_method_33_code 41 = .ok (.sipush 2200, 3) := by decide +kernel
theorem d_mo_differ_44 : decode prog_8_method_33_code 44 = .ok (.iload_n 2, 1) := by decide +kernel
theorem d_mo_differ_45 : decode prog_8_method_33_code 45 = .ok (.iload_n 3, 1) := by decide +kernel
theorem d_mo_differ_46 : decode prog_8_method_33_code 46 = .ok (.invokevirtual 93, 3) := by decide +kernel
theorem d_mo_differ_49 : decode prog_8_method_33_code 49 = .ok (.iconst 0, 1) := by decide +kernel
theorem d_mo_differ_50 : decode prog_8_method_33_code 50 = .ok (.istore 4, 2) := by decide +kernel
theorem d_mo_differ_52 : decode prog_8_method_33_code 52 = .ok (.iload 4, 2) := by decide +kernel
theorem d_mo_differ_54 : decode prog_8_method_33_code 54 = .ok (.iload_n 3, 1) := by decide +kernel
theorem d_mo_differ_55 : decode prog_8_method_33_code 55 = .ok (.if_icmp .ge 36, 3) := by decide +kernel
theorem d_mo_differ_58 : decode prog_8_method_33_code 58 = .ok (.aload_n 0, 1) := by decide +kernel
theorem d_mo_differ_59 : decode prog_8_method_33_code 59 = .ok (.getfield 23, 3) := by decide +kernel
theorem d_mo_differ_62 : decode prog_8_method_33_code 62 = .ok (.iconst 0, 1) := by decide +kernel
theorem d_mo_differ_63 : decode prog_8_method_33_code 63 = .ok (.iload 4, 2) := by decide +kernel
theorem d_mo_differ_65 : decode prog_8_method_33_code 65 = .ok (.iadd, 1) := by decide +kernel
theorem d_mo_differ_66 : decode prog_8_method_33_code 66 = .ok (.laload, 1) := by decide +kernel
theorem d_mo_differ_67 : decode prog_8_method_33_code 67 = .ok (.aload_n 0, 1) := by decide +kernel
theorem d_mo_differ_68 : decode prog_8_method_33_code 68 = .ok (.getfield 23, 3) := by decide +kernel
theorem d_mo_differ_71 : decode prog_8_method_33_code 71 = .ok (.sipush 2200, 3) := by decide +kernel
theorem d_mo_differ_74 : decode prog_8_method_33_code 74 = .ok (.iload 4, 2) := by decide +kernel
theorem d_mo_differ_76 : decode prog_8_method_33_code 76 = .ok (.iadd, 1) := by decide +kernel
theorem d_mo_differ_77 : decode prog_8_method_33_code 77 = .ok (.laload, 1) := by decide +kernel
theorem d_mo_differ_78 : decode prog_8_method_33_code 78 = .ok (.lcmp, 1) := by decide +kernel
theorem d_mo_differ_79 : decode prog_8_method_33_code 79 = .ok (.ifCond .eq 6, 3) := by decide +kernel
theorem d_mo_differ_82 : decode prog_8_method_33_code 82 = .ok (.iload 4, 2) := by decide +kernel
theorem d_mo_differ_84 : decode prog_8_method_33_code 84 = .ok (.ireturn, 1) := by decide +kernel
theorem d_mo_differ_85 : decode prog_8_method_33_code 85 = .ok (.iinc 4 1, 3) := by decide +kernel
theorem d_mo_differ_88 : decode prog_8_method_33_code 88 = .ok (.goto (-36), 3) := by decide +kernel
theorem d_mo_differ_91 : decode prog_8_method_33_code 91 = .ok (.iconst (-1), 1) := by decide +kernel
theorem d_mo_differ_92 : decode prog_8_method_33_code 92 = .ok (.ireturn, 1) := by decide +kernel
theorem d_mo_obeys_0 : decode prog_8_method_34_code 0 = .ok (.aload_n 0, 1) := by decide +kernel
theorem d_mo_obeys_1 : decode prog_8_method_34_code 1 = .ok (.iload_n 1, 1) := by decide +kernel
theorem d_mo_obeys_2 : decode prog_8_method_34_code 2 = .ok (.invokevirtual 82, 3) := by decide +kernel
theorem d_mo_obeys_5 : decode prog_8_method_34_code 5 = .ok (.ifCond .ne 5, 3) := by decide +kernel
theorem d_mo_obeys_8 : decode prog_8_method_34_code 8 = .ok (.iconst 0, 1) := by decide +kernel
theorem d_mo_obeys_9 : decode prog_8_method_34_code 9 = .ok (.ireturn, 1) := by decide +kernel
theorem d_mo_obeys_10 : decode prog_8_method_34_code 10 = .ok (.aload_n 0, 1) := by decide +kernel
theorem d_mo_obeys_11 : decode prog_8_method_34_code 11 = .ok (.iconst 0, 1) := by decide +kernel
theorem d_mo_obeys_12 : decode prog_8_method_34_code 12 = .ok (.iload_n 1, 1) := by decide +kernel
theorem d_mo_obeys_13 : decode prog_8_method_34_code 13 = .ok (.bipush 24, 2) := by decide +kernel
theorem d_mo_obeys_15 : decode prog_8_method_34_code 15 = .ok (.aload_n 0, 1) := by decide +kernel
theorem d_mo_obeys_16 : decode prog_8_method_34_code 16 = .ok (.getfield 71, 3) := by decide +kernel
theorem d_mo_obeys_19 : decode prog_8_method_34_code 19 = .ok (.iadd, 1) := by decide +kernel
theorem d_mo_obeys_20 : decode prog_8_method_34_code 20 = .ok (.invokevirtual 93, 3) := by decide +kernel
theorem d_mo_obeys_23 : decode prog_8_method_34_code 23 = .ok (.iconst 0, 1) := by decide +kernel
theorem d_mo_obeys_24 : decode prog_8_method_34_code 24 = .ok (.istore_n 2, 1) := by decide +kernel
theorem d_mo_obeys_25 : decode prog_8_method_34_code 25 = .ok (.iload_n 2, 1) := by decide +kernel
theorem d_mo_obeys_26 : decode prog_8_method_34_code 26 = .ok (.aload_n 0, 1) := by decide +kernel
theorem d_mo_obeys_27 : decode prog_8_method_34_code 27 = .ok (.getfield 13, 3) := by decide +kernel
theorem d_mo_obeys_30 : decode prog_8_method_34_code 30 = .ok (.iload_n 1, 1) := by decide +kernel
theorem d_mo_obeys_31 : decode prog_8_method_34_code 31 = .ok (.iaload, 1) := by decide +kernel
theorem d_mo_obeys_32 : decode prog_8_method_34_code 32 = .ok (.if_icmp .ge 82, 3) := by decide +kernel
theorem d_mo_obeys_35 : decode prog_8_method_34_code 35 = .ok (.lconst 0, 1) := by decide +kernel
theorem d_mo_obeys_36 : decode prog_8_method_34_code 36 = .ok (.lstore_n 3, 1) := by decide +kernel
theorem d_mo_obeys_37 : decode prog_8_method_34_code 37 = .ok (.iconst 1, 1) := by decide +kernel
theorem d_mo_obeys_38 : decode prog_8_method_34_code 38 = .ok (.istore 5, 2) := by decide +kernel
theorem d_mo_obeys_40 : decode prog_8_method_34_code 40 = .ok (.iload 5, 2) := by decide +kernel
theorem d_mo_obeys_42 : decode prog_8_method_34_code 42 = .ok (.aload_n 0, 1) := by decide +kernel
theorem d_mo_obeys_43 : decode prog_8_method_34_code 43 = .ok (.getfield 71, 3) := by decide +kernel
theorem d_mo_obeys_46 : decode prog_8_method_34_code 46 = .ok (.if_icmp .gt 42, 3) := by decide +kernel
theorem d_mo_obeys_49 : decode prog_8_method_34_code 49 = .ok (.lload_n 3, 1) := by decide +kernel
theorem d_mo_obeys_50 : decode prog_8_method_34_code 50 = .ok (.aload_n 0, 1) := by decide +kernel
theorem d_mo_obeys_51 : decode prog_8_method_34_code 51 = .ok (.getfield 7, 3) := by decide +kernel
theorem d_mo_obeys_54 : decode prog_8_method_34_code 54 = .ok (.iload 5, 2) := by decide +kernel
theorem d_mo_obeys_56 : decode prog_8_method_34_code 56 = .ok (.iconst 1, 1) := by decide +kernel
theorem d_mo_obeys_57 : decode prog_8_method_34_code 57 = .ok (.isub, 1) := by decide +kernel
theorem d_mo_obeys_58 : decode prog_8_method_34_code 58 = .ok (.laload, 1) := by decide +kernel
theorem d_mo_obeys_59 : decode prog_8_method_34_code 59 = .ok (.aload_n 0, 1) := by decide +kernel
theorem d_mo_obeys_60 : decode prog_8_method_34_code 60 = .ok (.getfield 23, 3) := by decide +kernel
theorem d_mo_obeys_63 : decode prog_8_method_34_code 63 = .ok (.iconst 0, 1) := by decide +kernel
theorem d_mo_obeys_64 : decode prog_8_method_34_code 64 = .ok (.iload_n 2, 1) := by decide +kernel
theorem d_mo_obeys_65 : decode prog_8_method_34_code 65 = .ok (.iadd, 1) := by decide +kernel
theorem d_mo_obeys_66 : decode prog_8_method_34_code 66 = .ok (.aload_n 0, 1) := by decide +kernel
theorem d_mo_obeys_67 : decode prog_8_method_34_code 67 = .ok (.getfield 71, 3) := by decide +kernel
theorem d_mo_obeys_70 : decode prog_8_method_34_code 70 = .ok (.iadd, 1) := by decide +kernel
theorem d_mo_obeys_71 : decode prog_8_method_34_code 71 = .ok (.iload 5, 2) := by decide +kernel
theorem d_mo_obeys_73 : decode prog_8_method_34_code 73 = .ok (.isub, 1) := by decide +kernel
theorem d_mo_obeys_74 : decode prog_8_method_34_code 74 = .ok (.laload, 1) := by decide +kernel
theorem d_mo_obeys_75 : decode prog_8_method_34_code 75 = .ok (.lmul, 1) := by decide +kernel
theorem d_mo_obeys_76 : decode prog_8_method_34_code 76 = .ok (.ladd, 1) := by decide +kernel
theorem d_mo_obeys_77 : decode prog_8_method_34_code 77 = .ok (.ldc2_w 44, 3) := by decide +kernel
theorem d_mo_obeys_80 : decode prog_8_method_34_code 80 = .ok (.lrem, 1) := by decide +kernel
theorem d_mo_obeys_81 : decode prog_8_method_34_code 81 = .ok (.lstore_n 3, 1) := by decide +kernel
theorem d_mo_obeys_82 : decode prog_8_method_34_code 82 = .ok (.iinc 5 1, 3) := by decide +kernel
theorem d_mo_obeys_85 : decode prog_8_method_34_code 85 = .ok (.goto (-45), 3) := by decide +kernel
theorem d_mo_obeys_88 : decode prog_8_method_34_code 88 = .ok (.lload_n 3, 1) := by decide +kernel
theorem d_mo_obeys_89 : decode prog_8_method_34_code 89 = .ok (.aload_n 0, 1) := by decide +kernel
theorem d_mo_obeys_90 : decode prog_8_method_34_code 90 = .ok (.getfield 23, 3) := by decide +kernel
theorem d_mo_obeys_93 : decode prog_8_method_34_code 93 = .ok (.iconst 0, 1) := by decide +kernel
theorem d_mo_obeys_94 : decode prog_8_method_34_code 94 = .ok (.iload_n 2, 1) := by decide +kernel
theorem d_mo_obeys_95 : decode prog_8_method_34_code 95 = .ok (.iadd, 1) := by decide +kernel
theorem d_mo_obeys_96 : decode prog_8_method_34_code 96 = .ok (.aload_n 0, 1) := by decide +kernel
theorem d_mo_obeys_97 : decode prog_8_method_34_code 97 = .ok (.getfield 71, 3) := by decide +kernel
theorem d_mo_obeys_100 : decode prog_8_method_34_code 100 = .ok (.iadd, 1) := by decide +kernel
theorem d_mo_obeys_101 : decode prog_8_method_34_code 101 = .ok (.laload, 1) := by decide +kernel
theorem d_mo_obeys_102 : decode prog_8_method_34_code 102 = .ok (.lcmp, 1) := by decide +kernel
theorem d_mo_obeys_103 : decode prog_8_method_34_code 103 = .ok (.ifCond .eq 5, 3) := by decide +kernel
theorem d_mo_obeys_106 : decode prog_8_method_34_code 106 = .ok (.iconst 0, 1) := by decide +kernel
theorem d_mo_obeys_107 : decode prog_8_method_34_code 107 = .ok (.ireturn, 1) := by decide +kernel
theorem d_mo_obeys_108 : decode prog_8_method_34_code 108 = .ok (.iinc 2 1, 3) := by decide +kernel
theorem d_mo_obeys_111 : decode prog_8_method_34_code 111 = .ok (.goto (-86), 3) := by decide +kernel
theorem d_mo_obeys_114 : decode prog_8_method_34_code 114 = .ok (.iconst 1, 1) := by decide +kernel
theorem d_mo_obeys_115 : decode prog_8_method_34_code 115 = .ok (.ireturn, 1) := by decide +kernel
theorem d_mo_shared_0 : decode prog_8_method_35_code 0 = .ok (.aload_n 0, 1) := by decide +kernel
theorem d_mo_shared_1 : decode prog_8_method_35_code 1 = .ok (.iload_n 1, 1) := by decide +kernel
theorem d_mo_shared_2 : decode prog_8_method_35_code 2 = .ok (.invokevirtual 82, 3) := by decide +kernel
theorem d_mo_shared_5 : decode prog_8_method_35_code 5 = .ok (.ifCond .eq 11, 3) := by decide +kernel
theorem d_mo_shared_8 : decode prog_8_method_35_code 8 = .ok (.aload_n 0, 1) := by decide +kernel
theorem d_mo_shared_9 : decode prog_8_method_35_code 9 = .ok (.iload_n 2, 1) := by decide +kernel
theorem d_mo_shared_10 : decode prog_8_method_35_code 10 = .ok (.invokevirtual 82, 3) := by decide +kernel
theorem d_mo_shared_13 : decode prog_8_method_35_code 13 = .ok (.ifCond .ne 5, 3) := by decide +kernel
theorem d_mo_shared_16 : decode prog_8_method_35_code 16 = .ok (.iconst (-1), 1) := by decide +kernel
theorem d_mo_shared_17 : decode prog_8_method_35_code 17 = .ok (.ireturn, 1) := by decide +kernel
theorem d_mo_shared_18 : decode prog_8_method_35_code 18 = .ok (.aload_n 0, 1) := by decide +kernel
theorem d_mo_shared_19 : decode prog_8_method_35_code 19 = .ok (.getfield 13, 3) := by decide +kernel
theorem d_mo_shared_22 : decode prog_8_method_35_code 22 = .ok (.iload_n 1, 1) := by decide +kernel
theorem d_mo_shared_23 : decode prog_8_method_35_code 23 = .ok (.iaload, 1) := by decide +kernel
theorem d_mo_shared_24 : decode prog_8_method_35_code 24 = .ok (.aload_n 0, 1) := by decide +kernel
theorem d_mo_shared_25 : decode prog_8_method_35_code 25 = .ok (.getfield 13, 3) := by decide +kernel
theorem d_mo_shared_28 : decode prog_8_method_35_code 28 = .ok (.iload_n 2, 1) := by decide +kernel
theorem d_mo_shared_29 : decode prog_8_method_35_code 29 = .ok (.iaload, 1) := by decide +kernel
theorem d_mo_shared_30 : decode prog_8_method_35_code 30 = .ok (.if_icmp .le 12, 3) := by decide +kernel
theorem d_mo_shared_33 : decode prog_8_method_35_code 33 = .ok (.aload_n 0, 1) := by decide +kernel
theorem d_mo_shared_34 : decode prog_8_method_35_code 34 = .ok (.getfield 13, 3) := by decide +kernel
theorem d_mo_shared_37 : decode prog_8_method_35_code 37 = .ok (.iload_n 1, 1) := by decide +kernel
theorem d_mo_shared_38 : decode prog_8_method_35_code 38 = .ok (.iaload, 1) := by decide +kernel
theorem d_mo_shared_39 : decode prog_8_method_35_code 39 = .ok (.goto 9, 3) := by decide +kernel
theorem d_mo_shared_42 : decode prog_8_method_35_code 42 = .ok (.aload_n 0, 1) := by decide +kernel
theorem d_mo_shared_43 : decode prog_8_method_35_code 43 = .ok (.getfield 13, 3) := by decide +kernel
theorem d_mo_shared_46 : decode prog_8_method_35_code 46 = .ok (.iload_n 2, 1) := by decide +kernel
theorem d_mo_shared_47 : decode prog_8_method_35_code 47 = .ok (.iaload, 1) := by decide +kernel
theorem d_mo_shared_48 : decode prog_8_method_35_code 48 = .ok (.istore_n 3, 1) := by decide +kernel
theorem d_mo_shared_49 : decode prog_8_method_35_code 49 = .ok (.aload_n 0, 1) := by decide +kernel
theorem d_mo_shared_50 : decode prog_8_method_35_code 50 = .ok (.getfield 13, 3) := by decide +kernel
theorem d_mo_shared_53 : decode prog_8_method_35_code 53 = .ok (.iload_n 1, 1) := by decide +kernel
theorem d_mo_shared_54 : decode prog_8_method_35_code 54 = .ok (.iaload, 1) := by decide +kernel
theorem d_mo_shared_55 : decode prog_8_method_35_code 55 = .ok (.aload_n 0, 1) := by decide +kernel
theorem d_mo_shared_56 : decode prog_8_method_35_code 56 = .ok (.getfield 13, 3) := by decide +kernel
theorem d_mo_shared_59 : decode prog_8_method_35_code 59 = .ok (.iload_n 2, 1) := by decide +kernel
theorem d_mo_shared_60 : decode prog_8_method_35_code 60 = .ok (.iaload, 1) := by decide +kernel
theorem d_mo_shared_61 : decode prog_8_method_35_code 61 = .ok (.iadd, 1) := by decide +kernel
theorem d_mo_shared_62 : decode prog_8_method_35_code 62 = .ok (.istore 4, 2) := by decide +kernel
theorem d_mo_shared_64 : decode prog_8_method_35_code 64 = .ok (.aload_n 0, 1) := by decide +kernel
theorem d_mo_shared_65 : decode prog_8_method_35_code 65 = .ok (.iconst 0, 1) := by decide +kernel
theorem d_mo_shared_66 : decode prog_8_method_35_code 66 = .ok (.iload_n 1, 1) := by decide +kernel
theorem d_mo_shared_67 : decode prog_8_method_35_code 67 = .ok (.bipush 72, 2) := by decide +kernel
theorem d_mo_shared_69 : decode prog_8_method_35_code 69 = .ok (.invokevirtual 93, 3) := by decide +kernel
theorem d_mo_shared_72 : decode prog_8_method_35_code 72 = .ok (.aload_n 0, 1) := by decide +kernel
theorem d_mo_shared_73 : decode prog_8_method_35_code 73 = .ok (.sipush 2200, 3) := by decide +kernel
theorem d_mo_shared_76 : decode prog_8_method_35_code 76 = .ok (.iload_n 2, 1) := by decide +kernel
theorem d_mo_shared_77 : decode prog_8_method_35_code 77 = .ok (.bipush 72, 2) := by decide +kernel
theorem d_mo_shared_79 : decode prog_8_method_35_code 79 = .ok (.invokevirtual 93, 3) := by decide +kernel
theorem d_mo_shared_82 : decode prog_8_method_35_code 82 = .ok (.iconst 0, 1) := by decide +kernel
theorem d_mo_shared_83 : decode prog_8_method_35_code 83 = .ok (.istore 5, 2) := by decide +kernel
theorem d_mo_shared_85 : decode prog_8_method_35_code 85 = .ok (.iload_n 3, 1) := by decide +kernel
theorem d_mo_shared_86 : decode prog_8_method_35_code 86 = .ok (.iload 4, 2) := by decide +kernel
theorem d_mo_shared_88 : decode prog_8_method_35_code 88 = .ok (.if_icmp .ge 66, 3) := by decide +kernel
theorem d_mo_shared_91 : decode prog_8_method_35_code 91 = .ok (.iload 5, 2) := by decide +kernel
theorem d_mo_shared_93 : decode prog_8_method_35_code 93 = .ok (.ifCond .ne 61, 3) := by decide +kernel
theorem d_mo_shared_96 : decode prog_8_method_35_code 96 = .ok (.aload_n 0, 1) := by decide +kernel
theorem d_mo_shared_97 : decode prog_8_method_35_code 97 = .ok (.iconst 0, 1) := by decide +kernel
theorem d_mo_shared_98 : decode prog_8_method_35_code 98 = .ok (.iconst 0, 1) := by decide +kernel
theorem d_mo_shared_99 : decode prog_8_method_35_code 99 = .ok (.aload_n 0, 1) := by decide +kernel
theorem d_mo_shared_100 : decode prog_8_method_35_code 100 = .ok (.getfield 13, 3) := by decide +kernel
theorem d_mo_shared_103 : decode prog_8_method_35_code 103 = .ok (.iload_n 1, 1) := by decide +kernel
theorem d_mo_shared_104 : decode prog_8_method_35_code 104 = .ok (.iaload, 1) := by decide +kernel
theorem d_mo_shared_105 : decode prog_8_method_35_code 105 = .ok (.iload_n 3, 1) := by decide +kernel
theorem d_mo_shared_106 : decode prog_8_method_35_code 106 = .ok (.invokevirtual 64, 3) := by decide +kernel
theorem d_mo_shared_109 : decode prog_8_method_35_code 109 = .ok (.aload_n 0, 1) := by decide +kernel
theorem d_mo_shared_110 : decode prog_8_method_35_code 110 = .ok (.aload_n 0, 1) := by decide +kernel
theorem d_mo_shared_111 : decode prog_8_method_35_code 111 = .ok (.getfield 13, 3) := by decide +kernel
theorem d_mo_shared_114 : decode prog_8_method_35_code 114 = .ok (.iload_n 1, 1) := by decide +kernel
theorem d_mo_shared_115 : decode prog_8_method_35_code 115 = .ok (.iaload, 1) := by decide +kernel
theorem d_mo_shared_116 : decode prog_8_method_35_code 116 = .ok (.sipush 2200, 3) := by decide +kernel
theorem d_mo_shared_119 : decode prog_8_method_35_code 119 = .ok (.aload_n 0, 1) := by decide +kernel
theorem d_mo_shared_120 : decode prog_8_method_35_code 120 = .ok (.getfield 13, 3) := by decide +kernel
theorem d_mo_shared_123 : decode prog_8_method_35_code 123 = .ok (.iload_n 2, 1) := by decide +kernel
theorem d_mo_shared_124 : decode prog_8_method_35_code 124 = .ok (.iaload, 1) := by decide +kernel
theorem d_mo_shared_125 : decode prog_8_method_35_code 125 = .ok (.iload_n 3, 1) := by decide +kernel
theorem d_mo_shared_126 : decode prog_8_method_35_code 126 = .ok (.invokevirtual 64, 3) := by decide +kernel
theorem d_mo_shared_129 : decode prog_8_method_35_code 129 = .ok (.aload_n 0, 1) := by decide +kernel
theorem d_mo_shared_130 : decode prog_8_method_35_code 130 = .ok (.iload 4, 2) := by decide +kernel
theorem d_mo_shared_132 : decode prog_8_method_35_code 132 = .ok (.iload_n 3, 1) := by decide +kernel
theorem d_mo_shared_133 : decode prog_8_method_35_code 133 = .ok (.invokevirtual 67, 3) := by decide +kernel
theorem d_mo_shared_136 : decode prog_8_method_35_code 136 = .ok (.istore 5, 2) := by decide +kernel
theorem d_mo_shared_138 : decode prog_8_method_35_code 138 = .ok (.iload 5, 2) := by decide +kernel
theorem d_mo_shared_140 : decode prog_8_method_35_code 140 = .ok (.ifCond .eq 7, 3) := by decide +kernel
theorem d_mo_shared_143 : decode prog_8_method_35_code 143 = .ok (.iload_n 3, 1) := by decide +kernel
theorem d_mo_shared_144 : decode prog_8_method_35_code 144 = .ok (.goto 6, 3) := by decide +kernel
theorem d_mo_shared_147 : decode prog_8_method_35_code 147 = .ok (.iload_n 3, 1) := by decide +kernel
theorem d_mo_shared_148 : decode prog_8_method_35_code 148 = .ok (.iconst 1, 1) := by decide +kernel
theorem d_mo_shared_149 : decode prog_8_method_35_code 149 = .ok (.iadd, 1) := by decide +kernel
theorem d_mo_shared_150 : decode prog_8_method_35_code 150 = .ok (.istore_n 3, 1) := by decide +kernel
theorem d_mo_shared_151 : decode prog_8_method_35_code 151 = .ok (.goto (-66), 3) := by decide +kernel
theorem d_mo_shared_154 : decode prog_8_method_35_code 154 = .ok (.iload_n 3, 1) := by decide +kernel
theorem d_mo_shared_155 : decode prog_8_method_35_code 155 = .ok (.ireturn, 1) := by decide +kernel
end
section
/-! Decode rows, by program -/
theorem d_la_law_0 : decode code 0 = .ok (.new 7, 3) := by decide +kernel
theorem d_la_law_3 : decode code 3 = .ok (.dup, 1) := by decide +kernel
theorem d_la_law_4 : decode code 4 = .ok (.invokespecial 9, 3) := by decide +kernel
theorem d_la_law_7 : decode code 7 = .ok (.astore_n 1, 1) := by decide +kernel
theorem d_la_law_8 : decode code 8 = .ok (.new 10, 3) := by decide +kernel
theorem d_la_law_11 : decode code 11 = .ok (.dup, 1) := by decide +kernel
theorem d_la_law_12 : decode code 12 = .ok (.invokespecial 12, 3) := by decide +kernel
theorem d_la_law_15 : decode code 15 = .ok (.astore_n 2, 1) := by decide +kernel
theorem d_la_law_16 : decode code 16 = .ok (.iconst 0, 1) := by decide +kernel
theorem d_la_law_17 : decode code 17 = .ok (.istore_n 3, 1) := by decide +kernel
theorem d_la_law_18 : decode code 18 = .ok (.iload_n 3, 1) := by decide +kernel
theorem d_la_law_19 : decode code 19 = .ok (.aload_n 0, 1) := by decide +kernel
theorem d_la_law_20 : decode code 20 = .ok (.arraylength, 1) := by decide +kernel
theorem d_la_law_21 : decode code 21 = .ok (.iconst 5, 1) := by decide +kernel
theorem d_la_law_22 : decode code 22 = .ok (.isub, 1) := by decide +kernel
theorem d_la_law_23 : decode code 23 = .ok (.if_icmp .gt 691, 3) := by decide +kernel
theorem d_la_law_26 : decode code 26 = .ok (.aload_n 0, 1) := by decide +kernel
theorem d_la_law_27 : decode code 27 = .ok (.iload_n 3, 1) := by decide +kernel
theorem d_la_law_28 : decode code 28 = .ok (.iaload, 1) := by decide +kernel
theorem d_la_law_29 : decode code 29 = .ok (.bipush 31, 2) := by decide +kernel
theorem d_la_law_31 : decode code 31 = .ok (.iand, 1) := by decide +kernel
theorem d_la_law_32 : decode code 32 = .ok (.tableswitch 676 0 19 #[96, 119, 132, 155, 208, 241, 274, 297, 320, 343, 366, 409, 442, 455, 468, 491, 524, 587, 620, 643], 96) := by decide +kernel
theorem d_la_law_128 : decode code 128 = .ok (.aload_n 1, 1) := by decide +kernel
theorem d_la_law_129 : decode code 129 = .ok (.aload_n 0, 1) := by decide +kernel
theorem d_la_law_130 : decode code 130 = .ok (.iload_n 3, 1) := by decide +kernel
theorem d_la_law_131 : decode code 131 = .ok (.iconst 1, 1) := by decide +kernel
theorem d_la_law_132 : decode code 132 = .ok (.iadd, 1) := by decide +kernel
theorem d_la_law_133 : decode code 133 = .ok (.iaload, 1) := by decide +kernel
theorem d_la_law_134 : decode code 134 = .ok (.invokevirtual 13, 3) := by decide +kernel
theorem d_la_law_137 : decode code 137 = .ok (.aload_n 2, 1) := by decide +kernel
theorem d_la_law_138 : decode code 138 = .ok (.aload_n 0, 1) := by decide +kernel
theorem d_la_law_139 : decode code 139 = .ok (.iload_n 3, 1) := by decide +kernel
theorem d_la_law_140 : decode code 140 = .ok (.iconst 1, 1) := by decide +kernel
theorem d_la_law_141 : decode code 141 = .ok (.iadd, 1) := by decide +kernel
theorem d_la_law_142 : decode code 142 = .ok (.iaload, 1) := by decide +kernel
theorem d_la_law_143 : decode code 143 = .ok (.invokevirtual 17, 3) := by decide +kernel
theorem d_la_law_146 : decode code 146 = .ok (.if_icmp .eq 562, 3) := by decide +kernel
theorem d_la_law_149 : decode code 149 = .ok (.iconst 0, 1) := by decide +kernel
theorem d_la_law_150 : decode code 150 = .ok (.ireturn, 1) := by decide +kernel
theorem d_la_law_151 : decode code 151 = .ok (.aload_n 1, 1) := by decide +kernel
theorem d_la_law_152 : decode code 152 = .ok (.invokevirtual 18, 3) := by decide +kernel
theorem d_la_law_155 : decode code 155 = .ok (.aload_n 2, 1) := by decide +kernel
theorem d_la_law_156 : decode code 156 = .ok (.invokevirtual 22, 3) := by decide +kernel
theorem d_la_law_159 : decode code 159 = .ok (.if_icmp .eq 549, 3) := by decide +kernel
theorem d_la_law_162 : decode code 162 = .ok (.iconst 0, 1) := by decide +kernel
theorem d_la_law_163 : decode code 163 = .ok (.ireturn, 1) := by decide +kernel
theorem d_la_law_164 : decode code 164 = .ok (.aload_n 1, 1) := by decide +kernel
theorem d_la_law_165 : decode code 165 = .ok (.aload_n 0, 1) := by decide +kernel
theorem d_la_law_166 : decode code 166 = .ok (.iload_n 3, 1) := by decide +kernel
theorem d_la_law_167 : decode code 167 = .ok (.iconst 1, 1) := by decide +kernel
theorem d_la_law_168 : decode code 168 = .ok (.iadd, 1) := by decide +kernel
theorem d_la_law_169 : decode code 169 = .ok (.iaload, 1) := by decide +kernel
theorem d_la_law_170 : decode code 170 = .ok (.invokevirtual 23, 3) := by decide +kernel
theorem d_la_law_173 : decode code 173 = .ok (.aload_n 2, 1) := by decide +kernel
theorem d_la_law_174 : decode code 174 = .ok (.aload_n 0, 1) := by decide +kernel
theorem d_la_law_175 : decode code 175 = .ok (.iload_n 3, 1) := by decide +kernel
theorem d_la_law_176 : decode code 176 = .ok (.iconst 1, 1) := by decide +kernel
theorem d_la_law_177 : decode code 177 = .ok (.iadd, 1) := by decide +kernel
theorem d_la_law_178 : decode code 178 = .ok (.iaload, 1) := by decide +kernel
theorem d_la_law_179 : decode code 179 = .ok (.invokevirtual 27, 3) := by decide +kernel
theorem d_la_law_182 : decode code 182 = .ok (.if_icmp .eq 526, 3) := by decide +kernel
theorem d_la_law_185 : decode code 185 = .ok (.iconst 0, 1) := by decide +kernel
theorem d_la_law_186 : decode code 186 = .ok (.ireturn, 1) := by decide +kernel
theorem d_la_law_187 : decode code 187 = .ok (.aload_n 1, 1) := by decide +kernel
theorem d_la_law_188 : decode code 188 = .ok (.aload_n 0, 1) := by decide +kernel
theorem d_la_law_189 : decode code 189 = .ok (.iload_n 3, 1) := by decide +kernel
theorem d_la_law_190 : decode code 190 = .ok (.iconst 1, 1) := by decide +kernel
theorem d_la_law_191 : decode code 191 = .ok (.iadd, 1) := by decide +kernel
theorem d_la_law_192 : decode code 192 = .ok (.iaload, 1) := by decide +kernel
theorem d_la_law_193 : decode code 193 = .ok (.aload_n 0, 1) := by decide +kernel
theorem d_la_law_194 : decode code 194 = .ok (.iload_n 3, 1) := by decide +kernel
theorem d_la_law_195 : decode code 195 = .ok (.iconst 2, 1) := by decide +kernel
theorem d_la_law_196 : decode code 196 = .ok (.iadd, 1) := by decide +kernel
theorem d_la_law_197 : decode code 197 = .ok (.iaload, 1) := by decide +kernel
theorem d_la_law_198 : decode code 198 = .ok (.aload_n 0, 1) := by decide +kernel
theorem d_la_law_199 : decode code 199 = .ok (.iload_n 3, 1) := by decide +kernel
theorem d_la_law_200 : decode code 200 = .ok (.iconst 3, 1) := by decide +kernel
theorem d_la_law_201 : decode code 201 = .ok (.iadd, 1) := by decide +kernel
theorem d_la_law_202 : decode code 202 = .ok (.iaload, 1) := by decide +kernel
theorem d_la_law_203 : decode code 203 = .ok (.aload_n 0, 1) := by decide +kernel
theorem d_la_law_204 : decode code 204 = .ok (.iload_n 3, 1) := by decide +kernel
theorem d_la_law_205 : decode code 205 = .ok (.iconst 4, 1) := by decide +kernel
theorem d_la_law_206 : decode code 206 = .ok (.iadd, 1) := by decide +kernel
theorem d_la_law_207 : decode code 207 = .ok (.iaload, 1) := by decide +kernel
theorem d_la_law_208 : decode code 208 = .ok (.invokevirtual 28, 3) := by decide +kernel
theorem d_la_law_211 : decode code 211 = .ok (.aload_n 2, 1) := by decide +kernel
theorem d_la_law_212 : decode code 212 = .ok (.aload_n 0, 1) := by decide +kernel
theorem d_la_law_213 : decode code 213 = .ok (.iload_n 3, 1) := by decide +kernel
theorem d_la_law_214 : decode code 214 = .ok (.iconst 1, 1) := by decide +kernel
theorem d_la_law_215 : decode code 215 = .ok (.iadd, 1) := by decide +kernel
theorem d_la_law_216 : decode code 216 = .ok (.iaload, 1) := by decide +kernel
theorem d_la_law_217 : decode code 217 = .ok (.aload_n 0, 1) := by decide +kernel
theorem d_la_law_218 : decode code 218 = .ok (.iload_n 3, 1) := by decide +kernel
theorem d_la_law_219 : decode code 219 = .ok (.iconst 2, 1) := by decide +kernel
theorem d_la_law_220 : decode code 220 = .ok (.iadd, 1) := by decide +kernel
theorem d_la_law_221 : decode code 221 = .ok (.iaload, 1) := by decide +kernel
theorem d_la_law_222 : decode code 222 = .ok (.aload_n 0, 1) := by decide +kernel
theorem d_la_law_223 : decode code 223 = .ok (.iload_n 3, 1) := by decide +kernel
theorem d_la_law_224 : decode code 224 = .ok (.iconst 3, 1) := by decide +kernel
theorem d_la_law_225 : decode code 225 = .ok (.iadd, 1) := by decide +kernel
theorem d_la_law_226 : decode code 226 = .ok (.iaload, 1) := by decide +kernel
theorem d_la_law_227 : decode code 227 = .ok (.aload_n 0, 1) := by decide +kernel
theorem d_la_law_228 : decode code 228 = .ok (.iload_n 3, 1) := by decide +kernel
theorem d_la_law_229 : decode code 229 = .ok (.iconst 4, 1) := by decide +kernel
theorem d_la_law_230 : decode code 230 = .ok (.iadd, 1) := by decide +kernel
theorem d_la_law_231 : decode code 231 = .ok (.iaload, 1) := by decide +kernel
theorem d_la_law_232 : decode code 232 = .ok (.invokevirtual 32, 3) := by decide +kernel
theorem d_la_law_235 : decode code 235 = .ok (.if_icmp .eq 473, 3) := by decide +kernel
theorem d_la_law_238 : decode code 238 = .ok (.iconst 0, 1) := by decide +kernel
theorem d_la_law_239 : decode code 239 = .ok (.ireturn, 1) := by decide +kernel
theorem d_la_law_240 : decode code 240 = .ok (.aload_n 1, 1) := by decide +kernel
theorem d_la_law_241 : decode code 241 = .ok (.aload_n 0, 1) := by decide +kernel
theorem d_la_law_242 : decode code 242 = .ok (.iload_n 3, 1) := by decide +kernel
theorem d_la_law_243 : decode code 243 = .ok (.iconst 1, 1) := by decide +kernel
theorem d_la_law_244 : decode code 244 = .ok (.iadd, 1) := by decide +kernel
theorem d_la_law_245 : decode code 245 = .ok (.iaload, 1) := by decide +kernel
theorem d_la_law_246 : decode code 246 = .ok (.aload_n 0, 1) := by decide +kernel
theorem d_la_law_247 : decode code 247 = .ok (.iload_n 3, 1) := by decide +kernel
theorem d_la_law_248 : decode code 248 = .ok (.iconst 2, 1) := by decide +kernel
theorem d_la_law_249 : decode code 249 = .ok (.iadd, 1) := by decide +kernel
theorem d_la_law_250 : decode code 250 = .ok (.iaload, 1) := by decide +kernel
theorem d_la_law_251 : decode code 251 = .ok (.invokevirtual 33, 3) := by decide +kernel
theorem d_la_law_254 : decode code 254 = .ok (.aload_n 2, 1) := by decide +kernel
theorem d_la_law_255 : decode code 255 = .ok (.aload_n 0, 1) := by decide +kernel
theorem d_la_law_256 : decode code 256 = .ok (.iload_n 3, 1) := by decide +kernel
theorem d_la_law_257 : decode code 257 = .ok (.iconst 1, 1) := by decide +kernel
theorem d_la_law_258 : decode code 258 = .ok (.iadd, 1) := by decide +kernel
theorem d_la_law_259 : decode code 259 = .ok (.iaload, 1) := by decide +kernel
theorem d_la_law_260 : decode code 260 = .ok (.aload_n 0, 1) := by decide +kernel
theorem d_la_law_261 : decode code 261 = .ok (.iload_n 3, 1) := by decide +kernel
theorem d_la_law_262 : decode code 262 = .ok (.iconst 2, 1) := by decide +kernel
theorem d_la_law_263 : decode code 263 = .ok (.iadd, 1) := by decide +kernel
theorem d_la_law_264 : decode code 264 = .ok (.iaload, 1) := by decide +kernel
theorem d_la_law_265 : decode code 265 = .ok (.invokevirtual 37, 3) := by decide +kernel
theorem d_la_law_268 : decode code 268 = .ok (.if_icmp .eq 440, 3) := by decide +kernel
theorem d_la_law_271 : decode code 271 = .ok (.iconst 0, 1) := by decide +kernel
theorem d_la_law_272 : decode code 272 = .ok (.ireturn, 1) := by decide +kernel
theorem d_la_law_273 : decode code 273 = .ok (.aload_n 1, 1) := by decide +kernel
theorem d_la_law_274 : decode code 274 = .ok (.aload_n 0, 1) := by decide +kernel
theorem d_la_law_275 : decode code 275 = .ok (.iload_n 3, 1) := by decide +kernel
theorem d_la_law_276 : decode code 276 = .ok (.iconst 1, 1) := by decide +kernel
theorem d_la_law_277 : decode code 277 = .ok (.iadd, 1) := by decide +kernel
theorem d_la_law_278 : decode code 278 = .ok (.iaload, 1) := by decide +kernel
theorem d_la_law_279 : decode code 279 = .ok (.aload_n 0, 1) := by decide +kernel
theorem d_la_law_280 : decode code 280 = .ok (.iload_n 3, 1) := by decide +kernel
theorem d_la_law_281 : decode code 281 = .ok (.iconst 2, 1) := by decide +kernel
theorem d_la_law_282 : decode code 282 = .ok (.iadd, 1) := by decide +kernel
theorem d_la_law_283 : decode code 283 = .ok (.iaload, 1) := by decide +kernel
theorem d_la_law_284 : decode code 284 = .ok (.invokevirtual 38, 3) := by decide +kernel
theorem d_la_law_287 : decode code 287 = .ok (.aload_n 2, 1) := by decide +kernel
theorem d_la_law_288 : decode code 288 = .ok (.aload_n 0, 1) := by decide +kernel
theorem d_la_law_289 : decode code 289 = .ok (.iload_n 3, 1) := by decide +kernel
theorem d_la_law_290 : decode code 290 = .ok (.iconst 1, 1) := by decide +kernel
theorem d_la_law_291 : decode code 291 = .ok (.iadd, 1) := by decide +kernel
theorem d_la_law_292 : decode code 292 = .ok (.iaload, 1) := by decide +kernel
theorem d_la_law_293 : decode code 293 = .ok (.aload_n 0, 1) := by decide +kernel
theorem d_la_law_294 : decode code 294 = .ok (.iload_n 3, 1) := by decide +kernel
theorem d_la_law_295 : decode code 295 = .ok (.iconst 2, 1) := by decide +kernel
theorem d_la_law_296 : decode code 296 = .ok (.iadd, 1) := by decide +kernel
theorem d_la_law_297 : decode code 297 = .ok (.iaload, 1) := by decide +kernel
theorem d_la_law_298 : decode code 298 = .ok (.invokevirtual 41, 3) := by decide +kernel
theorem d_la_law_301 : decode code 301 = .ok (.if_icmp .eq 407, 3) := by decide +kernel
theorem d_la_law_304 : decode code 304 = .ok (.iconst 0, 1) := by decide +kernel
theorem d_la_law_305 : decode code 305 = .ok (.ireturn, 1) := by decide +kernel
theorem d_la_law_306 : decode code 306 = .ok (.aload_n 1, 1) := by decide +kernel
theorem d_la_law_307 : decode code 307 = .ok (.aload_n 0, 1) := by decide +kernel
theorem d_la_law_308 : decode code 308 = .ok (.iload_n 3, 1) := by decide +kernel
theorem d_la_law_309 : decode code 309 = .ok (.iconst 1, 1) := by decide +kernel
theorem d_la_law_310 : decode code 310 = .ok (.iadd, 1) := by decide +kernel
theorem d_la_law_311 : decode code 311 = .ok (.iaload, 1) := by decide +kernel
theorem d_la_law_312 : decode code 312 = .ok (.invokevirtual 42, 3) := by decide +kernel
theorem d_la_law_315 : decode code 315 = .ok (.aload_n 2, 1) := by decide +kernel
theorem d_la_law_316 : decode code 316 = .ok (.aload_n 0, 1) := by decide +kernel
theorem d_la_law_317 : decode code 317 = .ok (.iload_n 3, 1) := by decide +kernel
theorem d_la_law_318 : decode code 318 = .ok (.iconst 1, 1) := by decide +kernel
theorem d_la_law_319 : decode code 319 = .ok (.iadd, 1) := by decide +kernel
theorem d_la_law_320 : decode code 320 = .ok (.iaload, 1) := by decide +kernel
theorem d_la_law_321 : decode code 321 = .ok (.invokevirtual 45, 3) := by decide +kernel
theorem d_la_law_324 : decode code 324 = .ok (.if_icmp .eq 384, 3) := by decide +kernel
theorem d_la_law_327 : decode code 327 = .ok (.iconst 0, 1) := by decide +kernel
theorem d_la_law_328 : decode code 328 = .ok (.ireturn, 1) := by decide +kernel
theorem d_la_law_329 : decode code 329 = .ok (.aload_n 1, 1) := by decide +kernel
theorem d_la_law_330 : decode code 330 = .ok (.aload_n 0, 1) := by decide +kernel
theorem d_la_law_331 : decode code 331 = .ok (.iload_n 3, 1) := by decide +kernel
theorem d_la_law_332 : decode code 332 = .ok (.iconst 1, 1) := by decide +kernel
theorem d_la_law_333 : decode code 333 = .ok (.iadd, 1) := by decide +kernel
theorem d_la_law_334 : decode code 334 = .ok (.iaload, 1) := by decide +kernel
theorem d_la_law_335 : decode code 335 = .ok (.invokevirtual 46, 3) := by decide +kernel
theorem d_la_law_338 : decode code 338 = .ok (.aload_n 2, 1) := by decide +kernel
theorem d_la_law_339 : decode code 339 = .ok (.aload_n 0, 1) := by decide +kernel
theorem d_la_law_340 : decode code 340 = .ok (.iload_n 3, 1) := by decide +kernel
theorem d_la_law_341 : decode code 341 = .ok (.iconst 1, 1) := by decide +kernel
theorem d_la_law_342 : decode code 342 = .ok (.iadd, 1) := by decide +kernel
theorem d_la_law_343 : decode code 343 = .ok (.iaload, 1) := by decide +kernel
theorem d_la_law_344 : decode code 344 = .ok (.invokevirtual 49, 3) := by decide +kernel
theorem d_la_law_347 : decode code 347 = .ok (.if_icmp .eq 361, 3) := by decide +kernel
theorem d_la_law_350 : decode code 350 = .ok (.iconst 0, 1) := by decide +kernel
theorem d_la_law_351 : decode code 351 = .ok (.ireturn, 1) := by decide +kernel
theorem d_la_law_352 : decode code 352 = .ok (.aload_n 1, 1) := by decide +kernel
theorem d_la_law_353 : decode code 353 = .ok (.aload_n 0, 1) := by decide +kernel
theorem d_la_law_354 : decode code 354 = .ok (.iload_n 3, 1) := by decide +kernel
theorem d_la_law_355 : decode code 355 = .ok (.iconst 1, 1) := by decide +kernel
theorem d_la_law_356 : decode code 356 = .ok (.iadd, 1) := by decide +kernel
theorem d_la_law_357 : decode code 357 = .ok (.iaload, 1) := by decide +kernel
theorem d_la_law_358 : decode code 358 = .ok (.invokevirtual 50, 3) := by decide +kernel
theorem d_la_law_361 : decode code 361 = .ok (.aload_n 2, 1) := by decide +kernel
theorem d_la_law_362 : decode code 362 = .ok (.aload_n 0, 1) := by decide +kernel
theorem d_la_law_363 : decode code 363 = .ok (.iload_n 3, 1) := by decide +kernel
theorem d_la_law_364 : decode code 364 = .ok (.iconst 1, 1) := by decide +kernel
theorem d_la_law_365 : decode code 365 = .ok (.iadd, 1) := by decide +kernel
theorem d_la_law_366 : decode code 366 = .ok (.iaload, 1) := by decide +kernel
theorem d_la_law_367 : decode code 367 = .ok (.invokevirtual 53, 3) := by decide +kernel
theorem d_la_law_370 : decode code 370 = .ok (.if_icmp .eq 338, 3) := by decide +kernel
theorem d_la_law_373 : decode code 373 = .ok (.iconst 0, 1) := by decide +kernel
theorem d_la_law_374 : decode code 374 = .ok (.ireturn, 1) := by decide +kernel
theorem d_la_law_375 : decode code 375 = .ok (.aload_n 1, 1) := by decide +kernel
theorem d_la_law_376 : decode code 376 = .ok (.aload_n 0, 1) := by decide +kernel
theorem d_la_law_377 : decode code 377 = .ok (.iload_n 3, 1) := by decide +kernel
theorem d_la_law_378 : decode code 378 = .ok (.iconst 1, 1) := by decide +kernel
theorem d_la_law_379 : decode code 379 = .ok (.iadd, 1) := by decide +kernel
theorem d_la_law_380 : decode code 380 = .ok (.iaload, 1) := by decide +kernel
theorem d_la_law_381 : decode code 381 = .ok (.invokevirtual 54, 3) := by decide +kernel
theorem d_la_law_384 : decode code 384 = .ok (.aload_n 2, 1) := by decide +kernel
theorem d_la_law_385 : decode code 385 = .ok (.aload_n 0, 1) := by decide +kernel
theorem d_la_law_386 : decode code 386 = .ok (.iload_n 3, 1) := by decide +kernel
theorem d_la_law_387 : decode code 387 = .ok (.iconst 1, 1) := by decide +kernel
theorem d_la_law_388 : decode code 388 = .ok (.iadd, 1) := by decide +kernel
theorem d_la_law_389 : decode code 389 = .ok (.iaload, 1) := by decide +kernel
theorem d_la_law_390 : decode code 390 = .ok (.invokevirtual 57, 3) := by decide +kernel
theorem d_la_law_393 : decode code 393 = .ok (.if_icmp .eq 315, 3) := by decide +kernel
theorem d_la_law_396 : decode code 396 = .ok (.iconst 0, 1) := by decide +kernel
theorem d_la_law_397 : decode code 397 = .ok (.ireturn, 1) := by decide +kernel
theorem d_la_law_398 : decode code 398 = .ok (.aload_n 1, 1) := by decide +kernel
theorem d_la_law_399 : decode code 399 = .ok (.aload_n 0, 1) := by decide +kernel
theorem d_la_law_400 : decode code 400 = .ok (.iload_n 3, 1) := by decide +kernel
theorem d_la_law_401 : decode code 401 = .ok (.iconst 1, 1) := by decide +kernel
theorem d_la_law_402 : decode code 402 = .ok (.iadd, 1) := by decide +kernel
theorem d_la_law_403 : decode code 403 = .ok (.iaload, 1) := by decide +kernel
theorem d_la_law_404 : decode code 404 = .ok (.aload_n 0, 1) := by decide +kernel
theorem d_la_law_405 : decode code 405 = .ok (.iload_n 3, 1) := by decide +kernel
theorem d_la_law_406 : decode code 406 = .ok (.iconst 2, 1) := by decide +kernel
theorem d_la_law_407 : decode code 407 = .ok (.iadd, 1) := by decide +kernel
theorem d_la_law_408 : decode code 408 = .ok (.iaload, 1) := by decide +kernel
theorem d_la_law_409 : decode code 409 = .ok (.aload_n 0, 1) := by decide +kernel
theorem d_la_law_410 : decode code 410 = .ok (.iload_n 3, 1) := by decide +kernel
theorem d_la_law_411 : decode code 411 = .ok (.iconst 3, 1) := by decide +kernel
theorem d_la_law_412 : decode code 412 = .ok (.iadd, 1) := by decide +kernel
theorem d_la_law_413 : decode code 413 = .ok (.iaload, 1) := by decide +kernel
theorem d_la_law_414 : decode code 414 = .ok (.invokevirtual 58, 3) := by decide +kernel
theorem d_la_law_417 : decode code 417 = .ok (.aload_n 2, 1) := by decide +kernel
theorem d_la_law_418 : decode code 418 = .ok (.aload_n 0, 1) := by decide +kernel
theorem d_la_law_419 : decode code 419 = .ok (.iload_n 3, 1) := by decide +kernel
theorem d_la_law_420 : decode code 420 = .ok (.iconst 1, 1) := by decide +kernel
theorem d_la_law_421 : decode code 421 = .ok (.iadd, 1) := by decide +kernel
theorem d_la_law_422 : decode code 422 = .ok (.iaload, 1) := by decide +kernel
theorem d_la_law_423 : decode code 423 = .ok (.aload_n 0, 1) := by decide +kernel
theorem d_la_law_424 : decode code 424 = .ok (.iload_n 3, 1) := by decide +kernel
theorem d_la_law_425 : decode code 425 = .ok (.iconst 2, 1) := by decide +kernel
theorem d_la_law_426 : decode code 426 = .ok (.iadd, 1) := by decide +kernel
theorem d_la_law_427 : decode code 427 = .ok (.iaload, 1) := by decide +kernel
theorem d_la_law_428 : decode code 428 = .ok (.aload_n 0, 1) := by decide +kernel
theorem d_la_law_429 : decode code 429 = .ok (.iload_n 3, 1) := by decide +kernel
theorem d_la_law_430 : decode code 430 = .ok (.iconst 3, 1) := by decide +kernel
theorem d_la_law_431 : decode code 431 = .ok (.iadd, 1) := by decide +kernel
theorem d_la_law_432 : decode code 432 = .ok (.iaload, 1) := by decide +kernel
theorem d_la_law_433 : decode code 433 = .ok (.invokevirtual 62, 3) := by decide +kernel
theorem d_la_law_436 : decode code 436 = .ok (.if_icmp .eq 272, 3) := by decide +kernel
theorem d_la_law_439 : decode code 439 = .ok (.iconst 0, 1) := by decide +kernel
theorem d_la_law_440 : decode code 440 = .ok (.ireturn, 1) := by decide +kernel
theorem d_la_law_441 : decode code 441 = .ok (.aload_n 1, 1) := by decide +kernel
theorem d_la_law_442 : decode code 442 = .ok (.aload_n 0, 1) := by decide +kernel
theorem d_la_law_443 : decode code 443 = .ok (.iload_n 3, 1) := by decide +kernel
theorem d_la_law_444 : decode code 444 = .ok (.iconst 1, 1) := by decide +kernel
theorem d_la_law_445 : decode code 445 = .ok (.iadd, 1) := by decide +kernel
theorem d_la_law_446 : decode code 446 = .ok (.iaload, 1) := by decide +kernel
theorem d_la_law_447 : decode code 447 = .ok (.aload_n 0, 1) := by decide +kernel
theorem d_la_law_448 : decode code 448 = .ok (.iload_n 3, 1) := by decide +kernel
theorem d_la_law_449 : decode code 449 = .ok (.iconst 2, 1) := by decide +kernel
theorem d_la_law_450 : decode code 450 = .ok (.iadd, 1) := by decide +kernel
theorem d_la_law_451 : decode code 451 = .ok (.iaload, 1) := by decide +kernel
theorem d_la_law_452 : decode code 452 = .ok (.invokevirtual 63, 3) := by decide +kernel
theorem d_la_law_455 : decode code 455 = .ok (.aload_n 2, 1) := by decide +kernel
theorem d_la_law_456 : decode code 456 = .ok (.aload_n 0, 1) := by decide +kernel
theorem d_la_law_457 : decode code 457 = .ok (.iload_n 3, 1) := by decide +kernel
theorem d_la_law_458 : decode code 458 = .ok (.iconst 1, 1) := by decide +kernel
theorem d_la_law_459 : decode code 459 = .ok (.iadd, 1) := by decide +kernel
theorem d_la_law_460 : decode code 460 = .ok (.iaload, 1) := by decide +kernel
theorem d_la_law_461 : decode code 461 = .ok (.aload_n 0, 1) := by decide +kernel
theorem d_la_law_462 : decode code 462 = .ok (.iload_n 3, 1) := by decide +kernel
theorem d_la_law_463 : decode code 463 = .ok (.iconst 2, 1) := by decide +kernel
theorem d_la_law_464 : decode code 464 = .ok (.iadd, 1) := by decide +kernel
theorem d_la_law_465 : decode code 465 = .ok (.iaload, 1) := by decide +kernel
theorem d_la_law_466 : decode code 466 = .ok (.invokevirtual 66, 3) := by decide +kernel
theorem d_la_law_469 : decode code 469 = .ok (.if_icmp .eq 239, 3) := by decide +kernel
theorem d_la_law_472 : decode code 472 = .ok (.iconst 0, 1) := by decide +kernel
theorem d_la_law_473 : decode code 473 = .ok (.ireturn, 1) := by decide +kernel
theorem d_la_law_474 : decode code 474 = .ok (.aload_n 1, 1) := by decide +kernel
theorem d_la_law_475 : decode code 475 = .ok (.invokevirtual 67, 3) := by decide +kernel
theorem d_la_law_478 : decode code 478 = .ok (.aload_n 2, 1) := by decide +kernel
theorem d_la_law_479 : decode code 479 = .ok (.invokevirtual 71, 3) := by decide +kernel
theorem d_la_law_482 : decode code 482 = .ok (.if_icmp .eq 226, 3) := by decide +kernel
theorem d_la_law_485 : decode code 485 = .ok (.iconst 0, 1) := by decide +kernel
theorem d_la_law_486 : decode code 486 = .ok (.ireturn, 1) := by decide +kernel
theorem d_la_law_487 : decode code 487 = .ok (.aload_n 1, 1) := by decide +kernel
theorem d_la_law_488 : decode code 488 = .ok (.invokevirtual 72, 3) := by decide +kernel
theorem d_la_law_491 : decode code 491 = .ok (.aload_n 2, 1) := by decide +kernel
theorem d_la_law_492 : decode code 492 = .ok (.invokevirtual 75, 3) := by decide +kernel
theorem d_la_law_495 : decode code 495 = .ok (.if_icmp .eq 213, 3) := by decide +kernel
theorem d_la_law_498 : decode code 498 = .ok (.iconst 0, 1) := by decide +kernel
theorem d_la_law_499 : decode code 499 = .ok (.ireturn, 1) := by decide +kernel
theorem d_la_law_500 : decode code 500 = .ok (.aload_n 1, 1) := by decide +kernel
theorem d_la_law_501 : decode code 501 = .ok (.aload_n 0, 1) := by decide +kernel
theorem d_la_law_502 : decode code 502 = .ok (.iload_n 3, 1) := by decide +kernel
theorem d_la_law_503 : decode code 503 = .ok (.iconst 1, 1) := by decide +kernel
theorem d_la_law_504 : decode code 504 = .ok (.iadd, 1) := by decide +kernel
theorem d_la_law_505 : decode code 505 = .ok (.iaload, 1) := by decide +kernel
theorem d_la_law_506 : decode code 506 = .ok (.invokevirtual 76, 3) := by decide +kernel
theorem d_la_law_509 : decode code 509 = .ok (.aload_n 2, 1) := by decide +kernel
theorem d_la_law_510 : decode code 510 = .ok (.aload_n 0, 1) := by decide +kernel
theorem d_la_law_511 : decode code 511 = .ok (.iload_n 3, 1) := by decide +kernel
theorem d_la_law_512 : decode code 512 = .ok (.iconst 1, 1) := by decide +kernel
theorem d_la_law_513 : decode code 513 = .ok (.iadd, 1) := by decide +kernel
theorem d_la_law_514 : decode code 514 = .ok (.iaload, 1) := by decide +kernel
theorem d_la_law_515 : decode code 515 = .ok (.invokevirtual 79, 3) := by decide +kernel
theorem d_la_law_518 : decode code 518 = .ok (.if_icmp .eq 190, 3) := by decide +kernel
theorem d_la_law_521 : decode code 521 = .ok (.iconst 0, 1) := by decide +kernel
theorem d_la_law_522 : decode code 522 = .ok (.ireturn, 1) := by decide +kernel
theorem d_la_law_523 : decode code 523 = .ok (.aload_n 1, 1) := by decide +kernel
theorem d_la_law_524 : decode code 524 = .ok (.aload_n 0, 1) := by decide +kernel
theorem d_la_law_525 : decode code 525 = .ok (.iload_n 3, 1) := by decide +kernel
theorem d_la_law_526 : decode code 526 = .ok (.iconst 1, 1) := by decide +kernel
theorem d_la_law_527 : decode code 527 = .ok (.iadd, 1) := by decide +kernel
theorem d_la_law_528 : decode code 528 = .ok (.iaload, 1) := by decide +kernel
theorem d_la_law_529 : decode code 529 = .ok (.aload_n 0, 1) := by decide +kernel
theorem d_la_law_530 : decode code 530 = .ok (.iload_n 3, 1) := by decide +kernel
theorem d_la_law_531 : decode code 531 = .ok (.iconst 2, 1) := by decide +kernel
theorem d_la_law_532 : decode code 532 = .ok (.iadd, 1) := by decide +kernel
theorem d_la_law_533 : decode code 533 = .ok (.iaload, 1) := by decide +kernel
theorem d_la_law_534 : decode code 534 = .ok (.invokevirtual 80, 3) := by decide +kernel
theorem d_la_law_537 : decode code 537 = .ok (.aload_n 2, 1) := by decide +kernel
theorem d_la_law_538 : decode code 538 = .ok (.aload_n 0, 1) := by decide +kernel
theorem d_la_law_539 : decode code 539 = .ok (.iload_n 3, 1) := by decide +kernel
theorem d_la_law_540 : decode code 540 = .ok (.iconst 1, 1) := by decide +kernel
theorem d_la_law_541 : decode code 541 = .ok (.iadd, 1) := by decide +kernel
theorem d_la_law_542 : decode code 542 = .ok (.iaload, 1) := by decide +kernel
theorem d_la_law_543 : decode code 543 = .ok (.aload_n 0, 1) := by decide +kernel
theorem d_la_law_544 : decode code 544 = .ok (.iload_n 3, 1) := by decide +kernel
theorem d_la_law_545 : decode code 545 = .ok (.iconst 2, 1) := by decide +kernel
theorem d_la_law_546 : decode code 546 = .ok (.iadd, 1) := by decide +kernel
theorem d_la_law_547 : decode code 547 = .ok (.iaload, 1) := by decide +kernel
theorem d_la_law_548 : decode code 548 = .ok (.invokevirtual 83, 3) := by decide +kernel
theorem d_la_law_551 : decode code 551 = .ok (.if_icmp .eq 157, 3) := by decide +kernel
theorem d_la_law_554 : decode code 554 = .ok (.iconst 0, 1) := by decide +kernel
theorem d_la_law_555 : decode code 555 = .ok (.ireturn, 1) := by decide +kernel
theorem d_la_law_556 : decode code 556 = .ok (.aload_n 1, 1) := by decide +kernel
theorem d_la_law_557 : decode code 557 = .ok (.aload_n 0, 1) := by decide +kernel
theorem d_la_law_558 : decode code 558 = .ok (.iload_n 3, 1) := by decide +kernel
theorem d_la_law_559 : decode code 559 = .ok (.iconst 1, 1) := by decide +kernel
theorem d_la_law_560 : decode code 560 = .ok (.iadd, 1) := by decide +kernel
theorem d_la_law_561 : decode code 561 = .ok (.iaload, 1) := by decide +kernel
theorem d_la_law_562 : decode code 562 = .ok (.aload_n 0, 1) := by decide +kernel
theorem d_la_law_563 : decode code 563 = .ok (.iload_n 3, 1) := by decide +kernel
theorem d_la_law_564 : decode code 564 = .ok (.iconst 2, 1) := by decide +kernel
theorem d_la_law_565 : decode code 565 = .ok (.iadd, 1) := by decide +kernel
theorem d_la_law_566 : decode code 566 = .ok (.iaload, 1) := by decide +kernel
theorem d_la_law_567 : decode code 567 = .ok (.i2l, 1) := by decide +kernel
theorem d_la_law_568 : decode code 568 = .ok (.bipush 32, 2) := by decide +kernel
theorem d_la_law_570 : decode code 570 = .ok (.lshl, 1) := by decide +kernel
theorem d_la_law_571 : decode code 571 = .ok (.aload_n 0, 1) := by decide +kernel
theorem d_la_law_572 : decode code 572 = .ok (.iload_n 3, 1) := by decide +kernel
theorem d_la_law_573 : decode code 573 = .ok (.iconst 3, 1) := by decide +kernel
theorem d_la_law_574 : decode code 574 = .ok (.iadd, 1) := by decide +kernel
theorem d_la_law_575 : decode code 575 = .ok (.iaload, 1) := by decide +kernel
theorem d_la_law_576 : decode code 576 = .ok (.i2l, 1) := by decide +kernel
theorem d_la_law_577 : decode code 577 = .ok (.ldc2_w 84, 3) := by decide +kernel
theorem d_la_law_580 : decode code 580 = .ok (.land, 1) := by decide +kernel
theorem d_la_law_581 : decode code 581 = .ok (.lor, 1) := by decide +kernel
theorem d_la_law_582 : decode code 582 = .ok (.invokevirtual 86, 3) := by decide +kernel
theorem d_la_law_585 : decode code 585 = .ok (.aload_n 2, 1) := by decide +kernel
theorem d_la_law_586 : decode code 586 = .ok (.aload_n 0, 1) := by decide +kernel
theorem d_la_law_587 : decode code 587 = .ok (.iload_n 3, 1) := by decide +kernel
theorem d_la_law_588 : decode code 588 = .ok (.iconst 1, 1) := by decide +kernel
theorem d_la_law_589 : decode code 589 = .ok (.iadd, 1) := by decide +kernel
theorem d_la_law_590 : decode code 590 = .ok (.iaload, 1) := by decide +kernel
theorem d_la_law_591 : decode code 591 = .ok (.aload_n 0, 1) := by decide +kernel
theorem d_la_law_592 : decode code 592 = .ok (.iload_n 3, 1) := by decide +kernel
theorem d_la_law_593 : decode code 593 = .ok (.iconst 2, 1) := by decide +kernel
theorem d_la_law_594 : decode code 594 = .ok (.iadd, 1) := by decide +kernel
theorem d_la_law_595 : decode code 595 = .ok (.iaload, 1) := by decide +kernel
theorem d_la_law_596 : decode code 596 = .ok (.i2l, 1) := by decide +kernel
theorem d_la_law_597 : decode code 597 = .ok (.bipush 32, 2) := by decide +kernel
theorem d_la_law_599 : decode code 599 = .ok (.lshl, 1) := by decide +kernel
theorem d_la_law_600 : decode code 600 = .ok (.aload_n 0, 1) := by decide +kernel
theorem d_la_law_601 : decode code 601 = .ok (.iload_n 3, 1) := by decide +kernel
theorem d_la_law_602 : decode code 602 = .ok (.iconst 3, 1) := by decide +kernel
theorem d_la_law_603 : decode code 603 = .ok (.iadd, 1) := by decide +kernel
theorem d_la_law_604 : decode code 604 = .ok (.iaload, 1) := by decide +kernel
theorem d_la_law_605 : decode code 605 = .ok (.i2l, 1) := by decide +kernel
theorem d_la_law_606 : decode code 606 = .ok (.ldc2_w 84, 3) := by decide +kernel
theorem d_la_law_609 : decode code 609 = .ok (.land, 1) := by decide +kernel
theorem d_la_law_610 : decode code 610 = .ok (.lor, 1) := by decide +kernel
theorem d_la_law_611 : decode code 611 = .ok (.invokevirtual 90, 3) := by decide +kernel
theorem d_la_law_614 : decode code 614 = .ok (.if_icmp .eq 94, 3) := by decide +kernel
theorem d_la_law_617 : decode code 617 = .ok (.iconst 0, 1) := by decide +kernel
theorem d_la_law_618 : decode code 618 = .ok (.ireturn, 1) := by decide +kernel
theorem d_la_law_619 : decode code 619 = .ok (.aload_n 1, 1) := by decide +kernel
theorem d_la_law_620 : decode code 620 = .ok (.aload_n 0, 1) := by decide +kernel
theorem d_la_law_621 : decode code 621 = .ok (.iload_n 3, 1) := by decide +kernel
theorem d_la_law_622 : decode code 622 = .ok (.iconst 1, 1) := by decide +kernel
theorem d_la_law_623 : decode code 623 = .ok (.iadd, 1) := by decide +kernel
theorem d_la_law_624 : decode code 624 = .ok (.iaload, 1) := by decide +kernel
theorem d_la_law_625 : decode code 625 = .ok (.aload_n 0, 1) := by decide +kernel
theorem d_la_law_626 : decode code 626 = .ok (.iload_n 3, 1) := by decide +kernel
theorem d_la_law_627 : decode code 627 = .ok (.iconst 2, 1) := by decide +kernel
theorem d_la_law_628 : decode code 628 = .ok (.iadd, 1) := by decide +kernel
theorem d_la_law_629 : decode code 629 = .ok (.iaload, 1) := by decide +kernel
theorem d_la_law_630 : decode code 630 = .ok (.invokevirtual 91, 3) := by decide +kernel
theorem d_la_law_633 : decode code 633 = .ok (.aload_n 2, 1) := by decide +kernel
theorem d_la_law_634 : decode code 634 = .ok (.aload_n 0, 1) := by decide +kernel
theorem d_la_law_635 : decode code 635 = .ok (.iload_n 3, 1) := by decide +kernel
theorem d_la_law_636 : decode code 636 = .ok (.iconst 1, 1) := by decide +kernel
theorem d_la_law_637 : decode code 637 = .ok (.iadd, 1) := by decide +kernel
theorem d_la_law_638 : decode code 638 = .ok (.iaload, 1) := by decide +kernel
theorem d_la_law_639 : decode code 639 = .ok (.aload_n 0, 1) := by decide +kernel
theorem d_la_law_640 : decode code 640 = .ok (.iload_n 3, 1) := by decide +kernel
theorem d_la_law_641 : decode code 641 = .ok (.iconst 2, 1) := by decide +kernel
theorem d_la_law_642 : decode code 642 = .ok (.iadd, 1) := by decide +kernel
theorem d_la_law_643 : decode code 643 = .ok (.iaload, 1) := by decide +kernel
theorem d_la_law_644 : decode code 644 = .ok (.invokevirtual 94, 3) := by decide +kernel
theorem d_la_law_647 : decode code 647 = .ok (.if_icmp .eq 61, 3) := by decide +kernel
theorem d_la_law_650 : decode code 650 = .ok (.iconst 0, 1) := by decide +kernel
theorem d_la_law_651 : decode code 651 = .ok (.ireturn, 1) := by decide +kernel
theorem d_la_law_652 : decode code 652 = .ok (.aload_n 1, 1) := by decide +kernel
theorem d_la_law_653 : decode code 653 = .ok (.aload_n 0, 1) := by decide +kernel
theorem d_la_law_654 : decode code 654 = .ok (.iload_n 3, 1) := by decide +kernel
theorem d_la_law_655 : decode code 655 = .ok (.iconst 1, 1) := by decide +kernel
theorem d_la_law_656 : decode code 656 = .ok (.iadd, 1) := by decide +kernel
theorem d_la_law_657 : decode code 657 = .ok (.iaload, 1) := by decide +kernel
theorem d_la_law_658 : decode code 658 = .ok (.invokevirtual 95, 3) := by decide +kernel
theorem d_la_law_661 : decode code 661 = .ok (.aload_n 2, 1) := by decide +kernel
theorem d_la_law_662 : decode code 662 = .ok (.aload_n 0, 1) := by decide +kernel
theorem d_la_law_663 : decode code 663 = .ok (.iload_n 3, 1) := by decide +kernel
theorem d_la_law_664 : decode code 664 = .ok (.iconst 1, 1) := by decide +kernel
theorem d_la_law_665 : decode code 665 = .ok (.iadd, 1) := by decide +kernel
theorem d_la_law_666 : decode code 666 = .ok (.iaload, 1) := by decide +kernel
theorem d_la_law_667 : decode code 667 = .ok (.invokevirtual 98, 3) := by decide +kernel
theorem d_la_law_670 : decode code 670 = .ok (.if_icmp .eq 38, 3) := by decide +kernel
theorem d_la_law_673 : decode code 673 = .ok (.iconst 0, 1) := by decide +kernel
theorem d_la_law_674 : decode code 674 = .ok (.ireturn, 1) := by decide +kernel
theorem d_la_law_675 : decode code 675 = .ok (.aload_n 1, 1) := by decide +kernel
theorem d_la_law_676 : decode code 676 = .ok (.aload_n 0, 1) := by decide +kernel
theorem d_la_law_677 : decode code 677 = .ok (.iload_n 3, 1) := by decide +kernel
theorem d_la_law_678 : decode code 678 = .ok (.iconst 1, 1) := by decide +kernel
theorem d_la_law_679 : decode code 679 = .ok (.iadd, 1) := by decide +kernel
theorem d_la_law_680 : decode code 680 = .ok (.iaload, 1) := by decide +kernel
theorem d_la_law_681 : decode code 681 = .ok (.aload_n 0, 1) := by decide +kernel
theorem d_la_law_682 : decode code 682 = .ok (.iload_n 3, 1) := by decide +kernel
theorem d_la_law_683 : decode code 683 = .ok (.iconst 2, 1) := by decide +kernel
theorem d_la_law_684 : decode code 684 = .ok (.iadd, 1) := by decide +kernel
theorem d_la_law_685 : decode code 685 = .ok (.iaload, 1) := by decide +kernel
theorem d_la_law_686 : decode code 686 = .ok (.invokevirtual 99, 3) := by decide +kernel
theorem d_la_law_689 : decode code 689 = .ok (.aload_n 2, 1) := by decide +kernel
theorem d_la_law_690 : decode code 690 = .ok (.aload_n 0, 1) := by decide +kernel
theorem d_la_law_691 : decode code 691 = .ok (.iload_n 3, 1) := by decide +kernel
theorem d_la_law_692 : decode code 692 = .ok (.iconst 1, 1) := by decide +kernel
theorem d_la_law_693 : decode code 693 = .ok (.iadd, 1) := by decide +kernel
theorem d_la_law_694 : decode code 694 = .ok (.iaload, 1) := by decide +kernel
theorem d_la_law_695 : decode code 695 = .ok (.aload_n 0, 1) := by decide +kernel
theorem d_la_law_696 : decode code 696 = .ok (.iload_n 3, 1) := by decide +kernel
theorem d_la_law_697 : decode code 697 = .ok (.iconst 2, 1) := by decide +kernel
theorem d_la_law_698 : decode code 698 = .ok (.iadd, 1) := by decide +kernel
theorem d_la_law_699 : decode code 699 = .ok (.iaload, 1) := by decide +kernel
theorem d_la_law_700 : decode code 700 = .ok (.invokevirtual 102, 3) := by decide +kernel
theorem d_la_law_703 : decode code 703 = .ok (.if_icmp .eq 5, 3) := by decide +kernel
theorem d_la_law_706 : decode code 706 = .ok (.iconst 0, 1) := by decide +kernel
theorem d_la_law_707 : decode code 707 = .ok (.ireturn, 1) := by decide +kernel
theorem d_la_law_708 : decode code 708 = .ok (.iinc 3 5, 3) := by decide +kernel
theorem d_la_law_711 : decode code 711 = .ok (.goto (-693), 3) := by decide +kernel
theorem d_la_law_714 : decode code 714 = .ok (.iconst 1, 1) := by decide +kernel
theorem d_la_law_715 : decode code 715 = .ok (.ireturn, 1) := by decide +kernel
end
section
/-! Sums over 0 .. n - 1, in any commutative ring -/
def sm {K : Type} [Lean.Grind.CommRing K] : Nat → (Nat → K) → K
  | 0, _ => 0
  | n + 1, f => sm n f + f n
theorem sm_0 {K : Type} [Lean.Grind.CommRing K] (f : Nat → K) : sm 0 f = 0 := rfl
theorem sm_s {K : Type} [Lean.Grind.CommRing K] (n : Nat) (f : Nat → K) : sm (n + 1) f = sm n f + f n := rfl
theorem sm_congr {K : Type} [Lean.Grind.CommRing K] {n : Nat} {f g : Nat → K} (h : ∀ i, i < n → f i = g i) : sm n f = sm n g := by
  induction n with
  | zero => rfl
  | succ n ih => rw [sm_s, sm_s, ih (fun i hi => h i (by omega)), h n (by omega)]
theorem sm_zero {K : Type} [Lean.Grind.CommRing K] {n : Nat} {f : Nat → K} (h : ∀ i, i < n → f i = 0) : sm n f = 0 := by
  induction n with
  | zero => rfl
  | succ n ih => rw [sm_s, ih (fun i hi => h i (by omega)), h n (by omega)]; grind
theorem sm_add {K : Type} [Lean.Grind.CommRing K] (n : Nat) (f g : Nat → K) : sm n (fun i => f i + g i) = sm n f + sm n g := by
  induction n with
  | zero => simp only [sm_0]; grind
  | succ n ih => simp only [sm_s, ih]; grind
theorem sm_sub {K : Type} [Lean.Grind.CommRing K] (n : Nat) (f g : Nat → K) : sm n (fun i => f i - g i) = sm n f - sm n g := by
  induction n with
  | zero => simp only [sm_0]; grind
  | succ n ih => simp only [sm_s, ih]; grind
theorem sm_mul {K : Type} [Lean.Grind.CommRing K] (n : Nat) (a : K) (f : Nat → K) : sm n (fun i => a * f i) = a * sm n f := by
  induction n with
  | zero => simp only [sm_0]; grind
  | succ n ih => simp only [sm_s, ih]; grind
theorem sm_mulr {K : Type} [Lean.Grind.CommRing K] (n : Nat) (a : K) (f : Nat → K) : sm n (fun i => f i * a) = sm n f * a := by
  induction n with
  | zero => simp only [sm_0]; grind
  | succ n ih => simp only [sm_s, ih]; grind
theorem sm_neg {K : Type} [Lean.Grind.CommRing K] (n : Nat) (f : Nat → K) : sm n (fun i => - f i) = - sm n f := by
  induction n with
  | zero => simp only [sm_0]; grind
  | succ n ih => simp only [sm_s, ih]; grind
/-- two sums change places -/
theorem sm_swap {K : Type} [Lean.Grind.CommRing K] (n m : Nat) (f : Nat → Nat → K) : sm n (fun i => sm m (fun j => f i j)) = sm m (fun j => sm n (fun i => f i j)) := by
  induction n with
  | zero => simp only [sm_0]; exact (sm_zero (fun _ _ => rfl)).symm
  | succ n ih => simp only [sm_s]; rw [ih, ← sm_add]
/-- the first term apart -/
theorem sm_head {K : Type} [Lean.Grind.CommRing K] (n : Nat) (f : Nat → K) : sm (n + 1) f = f 0 + sm n (fun i => f (i + 1)) := by
  induction n with
  | zero => simp only [sm_s, sm_0]; grind
  | succ n ih => rw [sm_s, ih, sm_s]; grind
theorem sm_split {K : Type} [Lean.Grind.CommRing K] (n m : Nat) (f : Nat → K) : sm (n + m) f = sm n f + sm m (fun i => f (n + i)) := by
  induction m with
  | zero => simp only [sm_0, Nat.add_zero]; grind
  | succ m ih => rw [← Nat.add_assoc, sm_s, ih, sm_s]; grind
/-- terms beyond m that are 0 -/
theorem sm_cut {K : Type} [Lean.Grind.CommRing K] {n m : Nat} {f : Nat → K} (hm : m ≤ n) (h : ∀ i, m ≤ i → i < n → f i = 0) : sm n f = sm m f := by
  obtain ⟨d, rfl⟩ : ∃ d, n = m + d := ⟨n - m, by omega⟩
  rw [sm_split, sm_zero (fun i hi => h (m + i) (by omega) (by omega))]
  grind
/-- from behind -/
theorem sm_rev {K : Type} [Lean.Grind.CommRing K] (n : Nat) (f : Nat → K) : sm n f = sm n (fun i => f (n - 1 - i)) := by
  induction n with
  | zero => rfl
  | succ n ih =>
    rw [sm_s, ih, sm_head]
    have : sm n (fun i => f (n + 1 - 1 - (i + 1))) = sm n (fun i => f (n - 1 - i)) := sm_congr (fun i hi => by rw [show n + 1 - 1 - (i + 1) = n - 1 - i by omega])
    rw [this, show n + 1 - 1 - 0 = n by omega]
    grind
/-- one term alone -/
theorem sm_one {K : Type} [Lean.Grind.CommRing K] {n p : Nat} {f : Nat → K} (hp : p < n) (h : ∀ i, i < n → i ≠ p → f i = 0) : sm n f = f p := by
  induction n with
  | zero => omega
  | succ n ih =>
    rw [sm_s]
    by_cases hpn : p = n
    · subst hpn
      rw [sm_zero (fun i hi => h i (by omega) (by omega))]
      grind
    · rw [ih (by omega) (fun i hi hne => h i (by omega) hne), h n (by omega) (by omega)]
      grind
/-- a triangle, by rows or by columns -/
theorem sm_tri {K : Type} [Lean.Grind.CommRing K] (n : Nat) (f : Nat → Nat → K) : sm n (fun k => sm (k + 1) (fun i => f i (k - i))) = sm n (fun i => sm (n - i) (fun j => f i j)) := by
  induction n with
  | zero => rfl
  | succ n ih =>
    rw [sm_s, ih, sm_s (f := fun i => sm (n + 1 - i) (fun j => f i j))]
    have h1 : sm n (fun i => sm (n + 1 - i) (fun j => f i j)) = sm n (fun i => sm (n - i) (fun j => f i j)) + sm n (fun i => f i (n - i)) := by
      rw [← sm_add]
      refine sm_congr (fun i hi => ?_)
      rw [show n + 1 - i = (n - i) + 1 by omega, sm_s]
    have h2 : sm (n + 1 - n) (fun j => f n j) = f n 0 := by
      rw [show n + 1 - n = 0 + 1 by omega, sm_s, sm_0]
      grind
    rw [h1, h2, sm_s, Nat.sub_self]
    grind
/-! Recurrences: c i stands for the coefficient of the term i + 1 places before -/
def ob {K : Type} [Lean.Grind.CommRing K] (r : Nat) (c : Nat → K) (s : Nat → K) : Prop := ∀ n, s (n + r) = sm r (fun i => c i * s (n + r - 1 - i))
/-- what the recurrence misses at n + r -/
def ms_ {K : Type} [Lean.Grind.CommRing K] (r : Nat) (c : Nat → K) (s : Nat → K) (n : Nat) : K := s (n + r) - sm r (fun i => c i * s (n + r - 1 - i))
theorem ob_iff {K : Type} [Lean.Grind.CommRing K] {r : Nat} {c s : Nat → K} : ob r c s ↔ ∀ n, ms_ r c s n = 0 := by
  constructor
  · intro h n
    unfold ms_
    rw [← h n]
    grind
  · intro h n
    have := h n
    unfold ms_ at this
    grind
theorem ob_zero {K : Type} [Lean.Grind.CommRing K] {r : Nat} {c s : Nat → K} (h : ob r c s) (h0 : ∀ n, n < r → s n = 0) : ∀ n, s n = 0 := by
  intro n
  induction n using Nat.strongRecOn with
  | _ n ih =>
    by_cases hn : n < r
    · exact h0 n hn
    · have h1 := h (n - r)
      rw [show n - r + r = n by omega] at h1
      rw [h1]
      refine sm_zero (fun i hi => ?_)
      rw [ih (n - 1 - i) (by omega)]
      grind
theorem ob_shift {K : Type} [Lean.Grind.CommRing K] {r : Nat} {c s : Nat → K} (h : ob r c s) (k : Nat) : ob r c (fun n => s (n + k)) := by
  intro n
  show s (n + r + k) = _
  rw [show n + r + k = (n + k) + r by omega, h (n + k)]
  refine sm_congr (fun i hi => ?_)
  show c i * s _ = c i * s _
  rw [show n + k + r - 1 - i = n + r - 1 - i + k by omega]
theorem ob_lin {K : Type} [Lean.Grind.CommRing K] {r : Nat} {c : Nat → K} (d : Nat) (a : Nat → K) (v : Nat → Nat → K) (h : ∀ i, i < d → ob r c (v i)) : ob r c (fun n => sm d (fun i => a i * v i n)) := by
  intro n
  show sm d (fun i => a i * v i (n + r)) = sm r (fun j => c j * sm d (fun i => a i * v i (n + r - 1 - j)))
  have h1 : sm d (fun i => a i * v i (n + r)) = sm d (fun i => sm r (fun j => a i * (c j * v i (n + r - 1 - j)))) := by
    refine sm_congr (fun i hi => ?_)
    rw [h i hi n, ← sm_mul]
  rw [h1, sm_swap]
  refine sm_congr (fun j hj => ?_)
  rw [← sm_mul]
  refine sm_congr (fun i hi => ?_)
  grind
theorem ob_sub {K : Type} [Lean.Grind.CommRing K] {r : Nat} {c s t : Nat → K} (h : ob r c s) (g : ob r c t) : ob r c (fun n => s n - t n) := by
  intro n
  show s (n + r) - t (n + r) = _
  rw [h n, g n, ← sm_sub]
  refine sm_congr (fun i hi => ?_)
  grind
/-- what a recurrence misses of a series is a series that obeys what the series obeys -/
theorem ob_ms {K : Type} [Lean.Grind.CommRing K] {B r : Nat} {cB c s : Nat → K} (h : ob B cB s) : ob B cB (ms_ r c s) := by
  have h1 : ob B cB (fun n => s (n + r)) := ob_shift h r
  have h2 : ob B cB (fun n => sm r (fun i => c i * s (n + (r - 1 - i)))) := ob_lin r c (fun i n => s (n + (r - 1 - i))) (fun i _ => ob_shift h _)
  have h3 := ob_sub h1 h2
  have e : ms_ r c s = (fun n => s (n + r) - sm r (fun i => c i * s (n + (r - 1 - i)))) := by
    funext n
    unfold ms_
    congr 1
    refine sm_congr (fun i hi => ?_)
    rw [show n + r - 1 - i = n + (r - 1 - i) by omega]
  rw [e]
  exact h3
theorem ob_check {K : Type} [Lean.Grind.CommRing K] {B r : Nat} {cB c s : Nat → K} (h : ob B cB s) (h0 : ∀ n, n < B → ms_ r c s n = 0) : ob r c s := ob_iff.mpr (ob_zero (ob_ms h) h0)
/-- a recurrence of an order may be read as one of a larger order, with zeros (its series shifted) -/
theorem ob_eq {K : Type} [Lean.Grind.CommRing K] {r : Nat} {c s t : Nat → K} (h : ob r c s) (g : ob r c t) (h0 : ∀ n, n < r → s n = t n) : ∀ n, s n = t n := by
  intro n
  have := ob_zero (ob_sub h g) (fun n hn => by rw [h0 n hn]; grind) n
  grind
end
section
/-! Dependence, spans, least orders: in a ring where each x that is not 0 has an inverse -/
theorem lst_ {P : Nat → Prop} (h : ∃ n, P n) : ∃ n, P n ∧ ∀ m, m < n → ¬ P m := by
  obtain ⟨n, hn⟩ := h
  induction n using Nat.strongRecOn with
  | _ n ih =>
    by_cases hm : ∃ m, m < n ∧ P m
    · obtain ⟨m, h1, h2⟩ := hm
      exact ih m h1 h2
    · exact ⟨n, hn, fun m h1 h2 => hm ⟨m, h1, h2⟩⟩
theorem dep_ {K : Type} [Lean.Grind.CommRing K] (hI : ∀ x : K, x ≠ 0 → ∃ y, x * y = 1) (d : Nat) : ∀ x : Nat → Nat → K, ∃ r, r ≤ d ∧ ∃ c : Nat → K, ∀ i, i < d → x r i = sm r (fun j => c j * x j i) := by
  induction d with
  | zero => intro x; exact ⟨0, Nat.le_refl 0, fun _ => 0, fun i hi => by omega⟩
  | succ d ih =>
    intro x
    by_cases hz : ∀ k, k ≤ d → x k d = 0
    · obtain ⟨r, hr, c, hc⟩ := ih x
      refine ⟨r, by omega, c, fun i hi => ?_⟩
      by_cases hid : i = d
      · subst hid
        rw [hz r hr]
        refine (sm_zero (fun j hj => ?_)).symm
        rw [hz j (by omega)]
        grind
      · exact hc i (by omega)
    · have hex : ∃ p, p ≤ d ∧ x p d ≠ 0 := by
        refine Classical.byContradiction (fun hno => hz (fun k hk => ?_))
        exact Classical.byContradiction (fun hk0 => hno ⟨k, hk, hk0⟩)
      obtain ⟨p, ⟨hpd, hp⟩, hlst⟩ := lst_ hex
      have hlow : ∀ k, k < p → x k d = 0 := fun k hk => Classical.byContradiction (fun h0 => hlst k hk ⟨by omega, h0⟩)
      obtain ⟨w, hw⟩ := hI _ hp
      obtain ⟨r, hr, c, hc⟩ := ih (fun k i => if k < p then x k i else x (k + 1) i - x (k + 1) d * w * x p i)
      have hc2 : ∀ i, i < d + 1 → (if r < p then x r i else x (r + 1) i - x (r + 1) d * w * x p i) = sm r (fun j => c j * (if j < p then x j i else x (j + 1) i - x (j + 1) d * w * x p i)) := by
        intro i hi
        by_cases hid : i = d
        · subst hid
          have hk : ∀ k, (if k < p then x k i else x (k + 1) i - x (k + 1) i * w * x p i) = 0 := by
            intro k
            by_cases hkp : k < p
            · rw [if_pos hkp]; exact hlow k hkp
            · rw [if_neg hkp]; grind
          rw [hk r]
          refine (sm_zero (fun j hj => ?_)).symm
          rw [hk j]
          grind
        · exact hc i (by omega)
      by_cases hrp : r < p
      · refine ⟨r, by omega, c, fun i hi => ?_⟩
        have h1 := hc2 i hi
        rw [if_pos hrp] at h1
        rw [h1]
        refine sm_congr (fun j hj => ?_)
        rw [if_pos (by omega)]
      · obtain ⟨e, rfl⟩ : ∃ e, r = p + e := ⟨r - p, by omega⟩
        refine ⟨p + e + 1, by omega, fun j => if j < p then c j else if j = p then x (p + e + 1) d * w - sm e (fun t => c (p + t) * (x (p + t + 1) d * w)) else c (j - 1), fun i hi => ?_⟩
        have h1 := hc2 i hi
        rw [if_neg (by omega), sm_split] at h1
        have h2 : sm p (fun j => c j * (if j < p then x j i else x (j + 1) i - x (j + 1) d * w * x p i)) = sm p (fun j => c j * x j i) := sm_congr (fun j hj => by rw [if_pos hj])
        have h3 : sm e (fun t => c (p + t) * (if p + t < p then x (p + t) i else x (p + t + 1) i - x (p + t + 1) d * w * x p i)) = sm e (fun t => c (p + t) * x (p + t + 1) i) - sm e (fun t => c (p + t) * (x (p + t + 1) d * w)) * x p i := by
          rw [← sm_mulr, ← sm_sub]
          refine sm_congr (fun t ht => ?_)
          rw [if_neg (by omega)]
          grind
        rw [h2, h3] at h1
        rw [show p + e + 1 = p + (1 + e) by omega, sm_split, sm_split (n := 1)]
        have h4 : sm p (fun j => (if j < p then c j else if j = p then x (p + (1 + e)) d * w - sm e (fun t => c (p + t) * (x (p + t + 1) d * w)) else c (j - 1)) * x j i) = sm p (fun j => c j * x j i) := sm_congr (fun j hj => by rw [if_pos hj])
        have h5 : sm e (fun t => (if p + (1 + t) < p then c (p + (1 + t)) else if p + (1 + t) = p then x (p + (1 + e)) d * w - sm e (fun t => c (p + t) * (x (p + t + 1) d * w)) else c (p + (1 + t) - 1)) * x (p + (1 + t)) i) = sm e (fun t => c (p + t) * x (p + t + 1) i) := by
          refine sm_congr (fun t ht => ?_)
          rw [if_neg (by omega), if_neg (by omega), show p + (1 + t) - 1 = p + t by omega, show p + (1 + t) = p + t + 1 by omega]
        have h6 : sm 1 (fun t => (if p + t < p then c (p + t) else if p + t = p then x (p + (1 + e)) d * w - sm e (fun t => c (p + t) * (x (p + t + 1) d * w)) else c (p + t - 1)) * x (p + t) i) = (x (p + (1 + e)) d * w - sm e (fun t => c (p + t) * (x (p + t + 1) d * w))) * x p i := by
          rw [show (1 : Nat) = 0 + 1 from rfl, sm_s, sm_0, if_neg (by omega), if_pos (by omega)]
          simp only [Nat.add_zero]
          grind
        rw [h4, h5, h6]
        rw [show p + (1 + e) = p + e + 1 by omega]
        grind
/-- coordinates of the shifts -/
def cx_ {K : Type} [Lean.Grind.CommRing K] (d : Nat) (a : Nat → K) (Mx : Nat → Nat → K) : Nat → Nat → K
  | 0, j => a j
  | k + 1, j => sm d (fun i => cx_ d a Mx k i * Mx i j)
theorem span_ {K : Type} [Lean.Grind.CommRing K] (hI : ∀ x : K, x ≠ 0 → ∃ y, x * y = 1) (d : Nat) (s a : Nat → K) (v Mx : Nat → Nat → K) (hs : ∀ n, s n = sm d (fun i => a i * v i n)) (hM : ∀ i, i < d → ∀ n, v i (n + 1) = sm d (fun j => Mx i j * v j n)) : ∃ r, r ≤ d ∧ ∃ c : Nat → K, ob r c s := by
  have key : ∀ k n, s (n + k) = sm d (fun i => cx_ d a Mx k i * v i n) := by
    intro k
    induction k with
    | zero => intro n; exact hs n
    | succ k ih =>
      intro n
      rw [show n + (k + 1) = (n + 1) + k by omega, ih (n + 1)]
      have h1 : sm d (fun i => cx_ d a Mx k i * v i (n + 1)) = sm d (fun i => sm d (fun j => cx_ d a Mx k i * (Mx i j * v j n))) := by
        refine sm_congr (fun i hi => ?_)
        rw [hM i hi n, ← sm_mul]
      rw [h1, sm_swap]
      refine sm_congr (fun j hj => ?_)
      show _ = sm d (fun i => cx_ d a Mx k i * Mx i j) * v j n
      rw [← sm_mulr]
      refine sm_congr (fun i hi => ?_)
      grind
  obtain ⟨r, hr, c, hc⟩ := dep_ hI d (cx_ d a Mx)
  have key2 : ∀ n i, i < d → cx_ d a Mx (n + r) i = sm r (fun j => c j * cx_ d a Mx (n + j) i) := by
    intro n
    induction n with
    | zero =>
      intro i hi
      rw [Nat.zero_add, hc i hi]
      exact sm_congr (fun j hj => by rw [Nat.zero_add])
    | succ n ih =>
      intro i hi
      rw [show n + 1 + r = (n + r) + 1 by omega]
      show sm d (fun i' => cx_ d a Mx (n + r) i' * Mx i' i) = _
      have h1 : sm d (fun i' => cx_ d a Mx (n + r) i' * Mx i' i) = sm d (fun i' => sm r (fun j => c j * cx_ d a Mx (n + j) i' * Mx i' i)) := by
        refine sm_congr (fun i' hi' => ?_)
        rw [ih i' hi', ← sm_mulr]
      rw [h1, sm_swap]
      refine sm_congr (fun j hj => ?_)
      rw [show n + 1 + j = (n + j) + 1 by omega]
      show _ = c j * sm d (fun i' => cx_ d a Mx (n + j) i' * Mx i' i)
      rw [← sm_mul]
      refine sm_congr (fun i' hi' => ?_)
      grind
  refine ⟨r, hr, fun i => c (r - 1 - i), fun n => ?_⟩
  have h1 := key (n + r) 0
  rw [Nat.zero_add] at h1
  have h2 : sm d (fun i => cx_ d a Mx (n + r) i * v i 0) = sm d (fun i => sm r (fun j => c j * cx_ d a Mx (n + j) i * v i 0)) := by
    refine sm_congr (fun i hi => ?_)
    rw [key2 n i hi, ← sm_mulr]
  rw [h1, h2, sm_swap, sm_rev r (fun i => c (r - 1 - i) * s (n + r - 1 - i))]
  refine sm_congr (fun j hj => ?_)
  have h3 := key (n + j) 0
  rw [Nat.zero_add] at h3
  rw [show r - 1 - (r - 1 - j) = j by omega, show n + r - 1 - (r - 1 - j) = n + j by omega, h3, ← sm_mul]
  refine sm_congr (fun i hi => ?_)
  grind
/-- least orders -/
def lo_ {K : Type} [Lean.Grind.CommRing K] (s : Nat → K) (R : Nat) (c : Nat → K) : Prop := ob R c s ∧ ∀ (r : Nat) (c' : Nat → K), r < R → ¬ ob r c' s
theorem lo_ex {K : Type} [Lean.Grind.CommRing K] {s : Nat → K} {B : Nat} (h : ∃ r, r ≤ B ∧ ∃ c : Nat → K, ob r c s) : ∃ R, R ≤ B ∧ ∃ c, lo_ s R c := by
  obtain ⟨r, hr, c, hc⟩ := h
  obtain ⟨R, ⟨cR, hR⟩, hl⟩ := lst_ (P := fun r => ∃ c : Nat → K, ob r c s) ⟨r, c, hc⟩
  refine ⟨R, ?_, cR, hR, fun r' c' h1 h2 => hl r' h1 ⟨c', h2⟩⟩
  refine Nat.le_trans ?_ hr
  exact Nat.le_of_not_lt (fun h => hl r h ⟨c, hc⟩)
theorem lo_uniq {K : Type} [Lean.Grind.CommRing K] (hI : ∀ x : K, x ≠ 0 → ∃ y, x * y = 1) {s : Nat → K} {R : Nat} {c c' : Nat → K} (h : lo_ s R c) (h' : ob R c' s) : ∀ i, i < R → c i = c' i := by
  refine fun i hi => Classical.byContradiction (fun hne => ?_)
  obtain ⟨p, ⟨hp, hpne⟩, hlst⟩ := lst_ (P := fun i => i < R ∧ c i ≠ c' i) ⟨i, hi, hne⟩
  have hlow : ∀ k, k < p → c k = c' k := fun k hk => Classical.byContradiction (fun h0 => hlst k hk ⟨by omega, h0⟩)
  have hd : c p - c' p ≠ 0 := fun h0 => hpne (by grind)
  obtain ⟨w, hw⟩ := hI _ hd
  obtain ⟨e, rfl⟩ : ∃ e, R = p + (1 + e) := ⟨R - p - 1, by omega⟩
  refine h.2 e (fun t => - (w * (c (p + (1 + t)) - c' (p + (1 + t))))) (by omega) (fun n => ?_)
  have h1 := h.1 n
  have h2 := h' n
  rw [sm_split, sm_split (n := 1)] at h1 h2
  have h3 : sm p (fun i => c i * s (n + (p + (1 + e)) - 1 - i)) = sm p (fun i => c' i * s (n + (p + (1 + e)) - 1 - i)) := sm_congr (fun i hi => by rw [hlow i hi])
  have h4 : sm e (fun t => - (w * (c (p + (1 + t)) - c' (p + (1 + t)))) * s (n + e - 1 - t)) = - (w * (sm e (fun t => c (p + (1 + t)) * s (n + (p + (1 + e)) - 1 - (p + (1 + t)))) - sm e (fun t => c' (p + (1 + t)) * s (n + (p + (1 + e)) - 1 - (p + (1 + t)))))) := by
    rw [← sm_sub, ← sm_mul, ← sm_neg]
    refine sm_congr (fun t ht => ?_)
    rw [show n + (p + (1 + e)) - 1 - (p + (1 + t)) = n + e - 1 - t by omega]
    grind
  have h5 : ∀ f : Nat → K, sm 1 (fun i => f (p + i) * s (n + (p + (1 + e)) - 1 - (p + i))) = f p * s (n + e) := by
    intro f
    rw [show (1 : Nat) = 0 + 1 from rfl, sm_s, sm_0, Nat.add_zero, show n + (p + (0 + 1 + e)) - (0 + 1) - p = n + e by omega]
    grind
  rw [h5 c] at h1
  rw [h5 c'] at h2
  rw [h4]
  rw [h1, h3] at h2
  grind
end
section
/-! Which series lie in the span of finitely many: the bounds of the makers -/
def In_ {K : Type} [Lean.Grind.CommRing K] (d : Nat) (v : Nat → Nat → K) (f : Nat → K) : Prop := ∃ a : Nat → K, ∀ n, f n = sm d (fun i => a i * v i n)
theorem In_.zero {K : Type} [Lean.Grind.CommRing K] {d : Nat} {v : Nat → Nat → K} {f : Nat → K} (h : ∀ n, f n = 0) : In_ d v f := ⟨fun _ => 0, fun n => by rw [h n]; exact (sm_zero (fun i _ => by grind)).symm⟩
theorem In_.self {K : Type} [Lean.Grind.CommRing K] {d i : Nat} {v : Nat → Nat → K} (hi : i < d) : In_ d v (v i) := ⟨fun j => if j = i then 1 else 0, fun n => by
  rw [sm_one (p := i) hi (fun j _ hj => by dsimp only; rw [if_neg hj]; grind)]
  dsimp only
  rw [if_pos rfl]
  grind⟩
theorem In_.add {K : Type} [Lean.Grind.CommRing K] {d : Nat} {v : Nat → Nat → K} {f g : Nat → K} (hf : In_ d v f) (hg : In_ d v g) : In_ d v (fun n => f n + g n) := by
  obtain ⟨a, ha⟩ := hf
  obtain ⟨b, hb⟩ := hg
  refine ⟨fun i => a i + b i, fun n => ?_⟩
  show f n + g n = _
  rw [ha n, hb n, ← sm_add]
  exact sm_congr (fun i _ => by grind)
theorem In_.mul {K : Type} [Lean.Grind.CommRing K] {d : Nat} {v : Nat → Nat → K} {f : Nat → K} (x : K) (hf : In_ d v f) : In_ d v (fun n => x * f n) := by
  obtain ⟨a, ha⟩ := hf
  refine ⟨fun i => x * a i, fun n => ?_⟩
  show x * f n = _
  rw [ha n, ← sm_mul]
  exact sm_congr (fun i _ => by grind)
theorem In_.congr {K : Type} [Lean.Grind.CommRing K] {d : Nat} {v : Nat → Nat → K} {f g : Nat → K} (hf : In_ d v f) (h : ∀ n, g n = f n) : In_ d v g := by
  obtain ⟨a, ha⟩ := hf
  exact ⟨a, fun n => (h n).trans (ha n)⟩
theorem In_.sum {K : Type} [Lean.Grind.CommRing K] {d : Nat} {v : Nat → Nat → K} (m : Nat) (c : Nat → K) (f : Nat → Nat → K) (h : ∀ i, i < m → In_ d v (f i)) : In_ d v (fun n => sm m (fun i => c i * f i n)) := by
  induction m with
  | zero => exact In_.zero (fun _ => rfl)
  | succ m ih => exact In_.add (ih (fun i hi => h i (by omega))) (In_.mul (c m) (h m (by omega)))
theorem In_.map {K : Type} [Lean.Grind.CommRing K] {d d' : Nat} {v v' : Nat → Nat → K} {f : Nat → K} (L : (Nat → K) → Nat → K) (hL : ∀ (m : Nat) (a : Nat → K) (w : Nat → Nat → K) (n : Nat), L (fun n => sm m (fun i => a i * w i n)) n = sm m (fun i => a i * L (w i) n)) (hv : ∀ i, i < d → In_ d' v' (L (v i))) (hf : In_ d v f) : In_ d' v' (L f) := by
  obtain ⟨a, ha⟩ := hf
  have e : f = fun n => sm d (fun i => a i * v i n) := funext ha
  rw [e]
  exact (In_.sum d a (fun i => L (v i)) hv).congr (fun n => hL d a v n)
/-- all that is in a span that its own shifts don't leave obeys a recurrence -/
theorem In_.obeys {K : Type} [Lean.Grind.CommRing K] (hI : ∀ x : K, x ≠ 0 → ∃ y, x * y = 1) {d : Nat} {v : Nat → Nat → K} {f : Nat → K} (hv : ∀ i, i < d → In_ d v (fun n => v i (n + 1))) (hf : In_ d v f) : ∃ r, r ≤ d ∧ ∃ c : Nat → K, ob r c f := by
  obtain ⟨a, ha⟩ := hf
  have hv' : ∀ i, ∃ w : Nat → K, i < d → ∀ n, v i (n + 1) = sm d (fun j => w j * v j n) := by
    intro i
    by_cases hi : i < d
    · obtain ⟨w, hw⟩ := hv i hi
      exact ⟨w, fun _ => hw⟩
    · exact ⟨fun _ => 0, fun h => absurd h hi⟩
  exact span_ hI d f a v (fun i => Classical.choose (hv' i)) ha (fun i hi n => Classical.choose_spec (hv' i) hi n)
/-- a series' own shifts -/
theorem In_.shifts {K : Type} [Lean.Grind.CommRing K] {r : Nat} {c s : Nat → K} (h : ob r c s) : ∀ k, In_ r (fun i n => s (n + i)) (fun n => s (n + k)) := by
  intro k
  induction k using Nat.strongRecOn with
  | _ k ih =>
    by_cases hk : k < r
    · exact In_.self (v := fun i n => s (n + i)) hk
    · refine (In_.sum (v := fun i n => s (n + i)) r c (fun i n => s (n + (k - 1 - i))) (fun i hi => ih (k - 1 - i) (by omega))).congr (fun n => ?_)
      have h1 := h (n + k - r)
      rw [show n + k - r + r = n + k by omega] at h1
      rw [h1]
      exact sm_congr (fun i hi => by rw [show n + k - 1 - i = n + (k - 1 - i) by omega])
/-- two families one behind the other -/
def un_ {K : Type} (d : Nat) (v v' : Nat → Nat → K) : Nat → Nat → K := fun i => if i < d then v i else v' (i - d)
theorem In_.left {K : Type} [Lean.Grind.CommRing K] {d d' : Nat} {v v' : Nat → Nat → K} {f : Nat → K} (hf : In_ d v f) : In_ (d + d') (un_ d v v') f := by
  obtain ⟨a, ha⟩ := hf
  refine (In_.sum d a v (fun i hi => ?_)).congr ha
  have := In_.self (d := d + d') (v := un_ d v v') (i := i) (by omega)
  unfold un_ at this ⊢
  rw [if_pos hi] at this
  exact this
theorem In_.right {K : Type} [Lean.Grind.CommRing K] {d d' : Nat} {v v' : Nat → Nat → K} {f : Nat → K} (hf : In_ d' v' f) : In_ (d + d') (un_ d v v') f := by
  obtain ⟨a, ha⟩ := hf
  refine (In_.sum d' a v' (fun i hi => ?_)).congr ha
  have := In_.self (d := d + d') (v := un_ d v v') (i := d + i) (by omega)
  unfold un_ at this ⊢
  rw [if_neg (by omega), show d + i - d = i by omega] at this
  exact this
theorem un_shift {K : Type} [Lean.Grind.CommRing K] {d d' e : Nat} {v v' w : Nat → Nat → K} (h : ∀ i, i < d → In_ e w (fun n => v i (n + 1))) (h' : ∀ i, i < d' → In_ e w (fun n => v' i (n + 1))) : ∀ i, i < d + d' → In_ e w (fun n => un_ d v v' i (n + 1)) := by
  intro i hi
  unfold un_
  by_cases h1 : i < d
  · rw [if_pos h1]; exact h i h1
  · rw [if_neg h1]; exact h' (i - d) (by omega)
section bd
/-- combine, and the difference of two -/
theorem bd_combine {K : Type} [Lean.Grind.CommRing K] (hI : ∀ x : K, x ≠ 0 → ∃ y, x * y = 1) {ra rb : Nat} {ca cb a b : Nat → K} (ha : ob ra ca a) (hb : ob rb cb b) (x y : K) : ∃ r, r ≤ ra + rb ∧ ∃ c : Nat → K, ob r c (fun n => x * a n + y * b n) := by
  refine In_.obeys hI (v := un_ ra (fun i n => a (n + i)) (fun i n => b (n + i))) ?_ (In_.add (In_.mul x ?_) (In_.mul y ?_))
  · refine un_shift (fun i hi => In_.left ?_) (fun i hi => In_.right ?_)
    · exact (In_.shifts ha (i + 1)).congr (fun n => by rw [show n + 1 + i = n + (i + 1) by omega])
    · exact (In_.shifts hb (i + 1)).congr (fun n => by rw [show n + 1 + i = n + (i + 1) by omega])
  · exact In_.left (In_.shifts ha 0)
  · exact In_.right (In_.shifts hb 0)
/-- the product of two as power series -/
def cv_ {K : Type} [Lean.Grind.CommRing K] (a b : Nat → K) (n : Nat) : K := sm (n + 1) (fun i => a i * b (n - i))
theorem cv_lin {K : Type} [Lean.Grind.CommRing K] (b : Nat → K) (m : Nat) (a : Nat → K) (w : Nat → Nat → K) (n : Nat) : cv_ (fun n => sm m (fun i => a i * w i n)) b n = sm m (fun i => a i * cv_ (w i) b n) := by
  unfold cv_
  have h1 : sm (n + 1) (fun i => sm m (fun j => a j * w j i) * b (n - i)) = sm (n + 1) (fun i => sm m (fun j => a j * w j i * b (n - i))) := sm_congr (fun i hi => (sm_mulr m (b (n - i)) (fun j => a j * w j i)).symm)
  rw [h1, sm_swap]
  refine sm_congr (fun j hj => ?_)
  rw [← sm_mul]
  exact sm_congr (fun i hi => by grind)
theorem cv_shift {K : Type} [Lean.Grind.CommRing K] (a b : Nat → K) (n : Nat) : cv_ a b (n + 1) = a 0 * b (n + 1) + cv_ (fun n => a (n + 1)) b n := by
  unfold cv_
  rw [sm_head, Nat.sub_zero]
  congr 1
  exact sm_congr (fun i hi => by rw [show n + 1 - (i + 1) = n - i by omega])
theorem bd_product {K : Type} [Lean.Grind.CommRing K] (hI : ∀ x : K, x ≠ 0 → ∃ y, x * y = 1) {ra rb : Nat} {ca cb a b : Nat → K} (ha : ob ra ca a) (hb : ob rb cb b) : ∃ r, r ≤ ra + rb ∧ ∃ c : Nat → K, ob r c (cv_ a b) := by
  have hm : ∀ k, In_ ra (fun i => cv_ (fun n => a (n + i)) b) (cv_ (fun n => a (n + k)) b) := fun k =>
    In_.map (fun f => cv_ f b) (fun m a w n => cv_lin b m a w n) (fun i hi => In_.self (v := fun i => cv_ (fun n => a (n + i)) b) hi) (In_.shifts ha k)
  refine In_.obeys hI (v := un_ ra (fun i => cv_ (fun n => a (n + i)) b) (fun i n => b (n + i))) ?_ (In_.left (hm 0))
  refine un_shift (fun i hi => ?_) (fun i hi => In_.right ?_)
  · refine (In_.add (In_.mul (a i) (In_.right (In_.shifts hb 1))) (In_.left (hm (i + 1)))).congr (fun n => ?_)
    rw [cv_shift]
    have e : (fun n => a (n + 1 + i)) = (fun n => a (n + (i + 1))) := funext (fun n => by rw [show n + 1 + i = n + (i + 1) by omega])
    rw [e, Nat.zero_add]
  · exact (In_.shifts hb (i + 1)).congr (fun n => by rw [show n + 1 + i = n + (i + 1) by omega])
theorem sm_prod {K : Type} [Lean.Grind.CommRing K] (m n : Nat) (f : Nat → K) : sm (m * n) f = sm m (fun i => sm n (fun j => f (i * n + j))) := by
  induction m with
  | zero => rw [Nat.zero_mul]; rfl
  | succ m ih => rw [Nat.succ_mul, sm_split, ih, sm_s]
theorem bd_pairwise {K : Type} [Lean.Grind.CommRing K] (hI : ∀ x : K, x ≠ 0 → ∃ y, x * y = 1) {ra rb : Nat} {ca cb a b : Nat → K} (ha : ob ra ca a) (hb : ob rb cb b) : ∃ r, r ≤ ra * rb ∧ ∃ c : Nat → K, ob r c (fun n => a n * b n) := by
  have hm : ∀ k l, In_ (ra * rb) (fun t n => a (n + t / rb) * b (n + t % rb)) (fun n => a (n + k) * b (n + l)) := by
    intro k l
    obtain ⟨x, hx⟩ := In_.shifts ha k
    obtain ⟨y, hy⟩ := In_.shifts hb l
    refine ⟨fun t => x (t / rb) * y (t % rb), fun n => ?_⟩
    rw [sm_prod]
    have hx' : a (n + k) = sm ra (fun i => x i * a (n + i)) := hx n
    have hy' : b (n + l) = sm rb (fun i => y i * b (n + i)) := hy n
    show a (n + k) * b (n + l) = _
    rw [hx', hy', ← sm_mulr]
    refine sm_congr (fun i hi => ?_)
    rw [← sm_mul]
    refine sm_congr (fun j hj => ?_)
    have h1 : (i * rb + j) / rb = i := by
      rw [Nat.mul_comm, Nat.mul_add_div (by omega), Nat.div_eq_of_lt hj, Nat.add_zero]
    have h2 : (i * rb + j) % rb = j := by
      rw [Nat.mul_comm, Nat.mul_add_mod, Nat.mod_eq_of_lt hj]
    dsimp only
    rw [h1, h2]
    grind
  refine In_.obeys hI (v := fun t n => a (n + t / rb) * b (n + t % rb)) (fun i hi => ?_) (hm 0 0)
  exact (hm (i / rb + 1) (i % rb + 1)).congr (fun n => by rw [show n + 1 + i / rb = n + (i / rb + 1) by omega, show n + 1 + i % rb = n + (i % rb + 1) by omega])
theorem bd_derivative {K : Type} [Lean.Grind.CommRing K] (hI : ∀ x : K, x ≠ 0 → ∃ y, x * y = 1) (ι : Nat → K) (hι : ∀ n, ι (n + 1) = ι n + 1) {r : Nat} {c a : Nat → K} (ha : ob r c a) : ∃ r', r' ≤ r + r ∧ ∃ c : Nat → K, ob r' c (fun n => ι (n + 1) * a (n + 1)) := by
  have hm : ∀ k, In_ r (fun i n => ι n * a (n + i)) (fun n => ι n * a (n + k)) := fun k => by
    obtain ⟨x, hx⟩ := In_.shifts ha k
    refine ⟨x, fun n => ?_⟩
    have hx' : a (n + k) = sm r (fun i => x i * a (n + i)) := hx n
    show ι n * a (n + k) = _
    rw [hx', ← sm_mul]
    exact sm_congr (fun i hi => by grind)
  have hs : ∀ k, In_ (r + r) (un_ r (fun i n => a (n + i)) (fun i n => ι n * a (n + i))) (fun n => ι (n + 1) * a (n + 1 + k)) := fun k => by
    refine (In_.add (In_.left (In_.shifts ha (k + 1))) (In_.right (hm (k + 1)))).congr (fun n => ?_)
    rw [hι n, show n + 1 + k = n + (k + 1) by omega]
    grind
  refine In_.obeys hI (v := un_ r (fun i n => a (n + i)) (fun i n => ι n * a (n + i))) ?_ (hs 0)
  refine un_shift (fun i hi => In_.left ?_) (fun i hi => hs i)
  exact (In_.shifts ha (i + 1)).congr (fun n => by rw [show n + 1 + i = n + (i + 1) by omega])
theorem bd_section {K : Type} [Lean.Grind.CommRing K] (hI : ∀ x : K, x ≠ 0 → ∃ y, x * y = 1) {r : Nat} {c a : Nat → K} (ha : ob r c a) (m i : Nat) : ∃ r', r' ≤ r ∧ ∃ c : Nat → K, ob r' c (fun n => a (m * n + i)) := by
  have hm : ∀ k, In_ r (fun j n => a (m * n + j)) (fun n => a (m * n + k)) := fun k => by
    obtain ⟨x, hx⟩ := In_.shifts ha k
    exact ⟨x, fun n => hx (m * n)⟩
  refine In_.obeys hI (v := fun j n => a (m * n + j)) (fun j hj => ?_) (hm i)
  exact (hm (m + j)).congr (fun n => by rw [show m * (n + 1) + j = m * n + (m + j) by rw [Nat.mul_succ]; omega])
theorem bd_delay {K : Type} [Lean.Grind.CommRing K] (hI : ∀ x : K, x ≠ 0 → ∃ y, x * y = 1) {r : Nat} {c a s : Nat → K} (ha : ob r c a) (hs : ∀ n, s (n + 1) = a n) : ∃ r', r' ≤ r + 1 ∧ ∃ c : Nat → K, ob r' c s := by
  refine In_.obeys hI (v := un_ r (fun i n => a (n + i)) (fun _ n => s n)) ?_ (In_.right ⟨fun _ => 1, fun n => ?_⟩)
  · refine un_shift (fun i hi => In_.left ?_) (fun i hi => In_.left ?_)
    · exact (In_.shifts ha (i + 1)).congr (fun n => by rw [show n + 1 + i = n + (i + 1) by omega])
    · exact (In_.shifts ha 0).congr (fun n => hs n)
  · rw [show (1 : Nat) = 0 + 1 from rfl, sm_s, sm_0]
    grind
theorem bd_sums {K : Type} [Lean.Grind.CommRing K] (hI : ∀ x : K, x ≠ 0 → ∃ y, x * y = 1) {r : Nat} {c a : Nat → K} (ha : ob r c a) : ∃ r', r' ≤ r + 1 ∧ ∃ c : Nat → K, ob r' c (fun n => sm (n + 1) a) := by
  have h1 : In_ (r + 1) (un_ r (fun i n => a (n + i)) (fun _ n => sm (n + 1) a)) (fun n => sm (n + 1) a) := In_.right ⟨fun _ => 1, fun n => by
    rw [show (1 : Nat) = 0 + 1 from rfl, sm_s (n := 0), sm_0]
    grind⟩
  refine In_.obeys hI (v := un_ r (fun i n => a (n + i)) (fun _ n => sm (n + 1) a)) ?_ h1
  refine un_shift (fun i hi => In_.left ?_) (fun i hi => ?_)
  · exact (In_.shifts ha (i + 1)).congr (fun n => by rw [show n + 1 + i = n + (i + 1) by omega])
  · exact (In_.add h1 (In_.left (In_.shifts ha 1))).congr (fun n => sm_s (n + 1) a)
theorem bd_spread {K : Type} [Lean.Grind.CommRing K] {r : Nat} {c a : Nat → K} (ha : ob r c a) (m : Nat) (hm : 0 < m) : ∃ c' : Nat → K, ob (r * m) c' (fun n => if n % m = 0 then a (n / m) else 0) := by
  refine ⟨fun j => if (j + 1) % m = 0 then c ((j + 1) / m - 1) else 0, fun n => ?_⟩
  show (if (n + r * m) % m = 0 then a ((n + r * m) / m) else 0) = _
  rw [Nat.add_mul_mod_self_right, Nat.add_mul_div_right _ _ hm, sm_prod]
  by_cases hn : n % m = 0
  · rw [if_pos hn, ha (n / m)]
    refine sm_congr (fun i hi => ?_)
    rw [sm_one (p := m - 1) (by omega)]
    · have e1 : i * m + (m - 1) + 1 = (i + 1) * m := by rw [Nat.succ_mul]; omega
      have hle : (i + 1) * m ≤ r * m := Nat.mul_le_mul_right m hi
      have e2 : n + r * m - 1 - (i * m + (m - 1)) = n + (r - 1 - i) * m := by
        have e3 : r * m = (r - 1 - i) * m + (i + 1) * m := by rw [← Nat.add_mul]; congr 1; omega
        omega
      dsimp only
      rw [e1, Nat.mul_mod_left, if_pos rfl, Nat.mul_div_cancel _ hm, e2, Nat.add_mul_mod_self_right, if_pos hn, Nat.add_mul_div_right _ _ hm]
      have e5 : ∀ z : Nat, z + r - 1 - i = z + (r - 1 - i) := fun z => by omega
      rw [show i + 1 - 1 = i by omega, e5]
    · intro j hj hne
      dsimp only
      rw [show i * m + j + 1 = j + 1 + i * m by omega, Nat.add_mul_mod_self_right, Nat.mod_eq_of_lt (show j + 1 < m by omega), if_neg (by omega)]
      grind
  · rw [if_neg hn]
    refine (sm_zero (fun i hi => sm_zero (fun j hj => ?_))).symm
    by_cases hjm : j = m - 1
    · subst hjm
      have e1 : i * m + (m - 1) + 1 = (i + 1) * m := by rw [Nat.succ_mul]; omega
      have hle : (i + 1) * m ≤ r * m := Nat.mul_le_mul_right m hi
      have e2 : n + r * m - 1 - (i * m + (m - 1)) = n + (r - 1 - i) * m := by
        have e3 : r * m = (r - 1 - i) * m + (i + 1) * m := by rw [← Nat.add_mul]; congr 1; omega
        omega
      dsimp only
      rw [e2, Nat.add_mul_mod_self_right, if_neg hn]
      grind
    · dsimp only
      rw [show i * m + j + 1 = j + 1 + i * m by omega, Nat.add_mul_mod_self_right, Nat.mod_eq_of_lt (show j + 1 < m by omega), if_neg (by omega)]
      grind
end bd
end
section
/-! Berlekamp's and Massey's way -/
/-- what the row c foretells at k, from all terms before it -/
def ft_ {K : Type} [Lean.Grind.CommRing K] (s c : Nat → K) (k : Nat) : K := sm k (fun i => c i * s (k - 1 - i))
theorem ft_cut {K : Type} [Lean.Grind.CommRing K] {s c : Nat → K} {L k : Nat} (hk : L ≤ k) (h : ∀ i, L ≤ i → c i = 0) : ft_ s c k = sm L (fun i => c i * s (k - 1 - i)) :=
  sm_cut hk (fun i h1 _ => by rw [h i h1]; grind)
/-- the mended row: c - f x^(g + 1) b, read as polynomials 1 - c 0 x - .. -/
def mn_ {K : Type} [Lean.Grind.CommRing K] (c b : Nat → K) (f : K) (g : Nat) : Nat → K := fun i => if i < g then c i else if i = g then c g + f else c i - f * b (i - g - 1)
theorem mn_ft {K : Type} [Lean.Grind.CommRing K] (s c b : Nat → K) (f : K) (g t : Nat) : ft_ s (mn_ c b f g) (g + (1 + t)) = ft_ s c (g + (1 + t)) + f * (s t - ft_ s b t) := by
  unfold ft_
  rw [sm_split g (1 + t), sm_split g (1 + t), sm_split 1 t, sm_split 1 t]
  have h1 : sm g (fun i => mn_ c b f g i * s (g + (1 + t) - 1 - i)) = sm g (fun i => c i * s (g + (1 + t) - 1 - i)) := sm_congr (fun i hi => by unfold mn_; rw [if_pos hi])
  have h2 : ∀ u : Nat → K, sm 1 (fun i => u (g + i) * s (g + (1 + t) - 1 - (g + i))) = u g * s t := by
    intro u
    rw [show (1 : Nat) = 0 + 1 from rfl, sm_s, sm_0, Nat.add_zero, show g + (0 + 1 + t) - (0 + 1) - g = t by omega]
    grind
  have h3 : sm t (fun i => mn_ c b f g (g + (1 + i)) * s (g + (1 + t) - 1 - (g + (1 + i)))) = sm t (fun i => c (g + (1 + i)) * s (g + (1 + t) - 1 - (g + (1 + i)))) - f * sm t (fun i => b i * s (t - 1 - i)) := by
    rw [← sm_mul, ← sm_sub]
    refine sm_congr (fun i hi => ?_)
    unfold mn_
    rw [if_neg (by omega), if_neg (by omega), show g + (1 + i) - g - 1 = i by omega, show g + (1 + t) - 1 - (g + (1 + i)) = t - 1 - i by omega]
    grind
  rw [h1, h2, h2, h3]
  have h4 : mn_ c b f g g = c g + f := by unfold mn_; rw [if_neg (by omega), if_pos rfl]
  rw [h4]
  grind
theorem mn_low {K : Type} [Lean.Grind.CommRing K] (s c b : Nat → K) (f : K) (g k : Nat) (hk : k ≤ g) : ft_ s (mn_ c b f g) k = ft_ s c k := by
  unfold ft_
  exact sm_congr (fun i hi => by unfold mn_; rw [if_pos (by omega)])
/-- Massey's bound -/
theorem massey_ {K : Type} [Lean.Grind.CommRing K] {s c c' : Nat → K} {L R n : Nat} (hL : ∀ k, L ≤ k → k < n → s k = sm L (fun i => c i * s (k - 1 - i))) (hR : ∀ k, R ≤ k → k ≤ n → s k = sm R (fun j => c' j * s (k - 1 - j))) (h : L + R ≤ n) : s n = sm L (fun i => c i * s (n - 1 - i)) := by
  have h1 : sm L (fun i => c i * s (n - 1 - i)) = sm L (fun i => sm R (fun j => c i * (c' j * s (n - 1 - i - 1 - j)))) := by
    refine sm_congr (fun i hi => ?_)
    rw [hR (n - 1 - i) (by omega) (by omega), ← sm_mul]
  rw [h1, sm_swap, hR n (by omega) (Nat.le_refl n)]
  refine sm_congr (fun j hj => ?_)
  rw [hL (n - 1 - j) (by omega) (by omega), ← sm_mul]
  refine sm_congr (fun i hi => ?_)
  rw [show n - 1 - j - 1 - i = n - 1 - i - 1 - j by omega]
  grind
/-- the invariant: n terms are read; now has the order L; before had Lm, and missed the term u - 1 (u = 0: none was missed) by d -/
def bi_ {K : Type} [Lean.Grind.CommRing K] (s : Nat → K) (n L u Lm : Nat) (now before : Nat → K) (d : K) : Prop :=
  (∀ i, L ≤ i → now i = 0) ∧ (∀ i, Lm ≤ i → before i = 0) ∧ (∀ k, L ≤ k → k < n → s k = ft_ s now k) ∧ L ≤ n ∧ u ≤ n ∧ L + Lm = u ∧ d ≠ 0 ∧
  (u ≠ 0 → Lm < u ∧ (∀ k, Lm ≤ k → k + 1 < u → s k = ft_ s before k) ∧ s (u - 1) - ft_ s before (u - 1) = d)
theorem bi_start {K : Type} [Lean.Grind.CommRing K] (s : Nat → K) (h1 : (1 : K) ≠ 0) : bi_ s 0 0 0 0 (fun _ => 0) (fun _ => 0) 1 :=
  ⟨fun _ _ => rfl, fun _ _ => rfl, fun k _ h => by omega, Nat.le_refl 0, Nat.le_refl 0, rfl, h1, fun h => absurd rfl h⟩
theorem bi_same {K : Type} [Lean.Grind.CommRing K] {s : Nat → K} {n L u Lm : Nat} {now before : Nat → K} {d : K} (h : bi_ s n L u Lm now before d) (hm : s n = ft_ s now n) : bi_ s (n + 1) L u Lm now before d := by
  obtain ⟨h1, h2, h3, h4, h5, h6, h7, h8⟩ := h
  refine ⟨h1, h2, fun k a b => ?_, by omega, by omega, h6, h7, h8⟩
  by_cases hk : k = n
  · subst hk; exact hm
  · exact h3 k a (by omega)
/-- what the mended row foretells, from the larger of the two orders on -/
theorem bi_mend {K : Type} [Lean.Grind.CommRing K] {s : Nat → K} {n L u Lm : Nat} {now before : Nat → K} {d f : K} (h : bi_ s n L u Lm now before d) (hf : f * d = s n - ft_ s now n) {L' : Nat} (hL : L ≤ L') (hL2 : n + 1 ≤ L' + L) : (∀ i, L' ≤ i → mn_ now before f (n - u) i = 0) ∧ ∀ k, L' ≤ k → k < n + 1 → s k = ft_ s (mn_ now before f (n - u)) k := by
  obtain ⟨h1, h2, h3, h4, h5, h6, h7, h8⟩ := h
  by_cases hu : u = 0
  · subst hu
    have hL0 : L = 0 := by omega
    subst hL0
    refine ⟨fun i hi => ?_, fun k a b => by omega⟩
    unfold mn_
    rw [if_neg (by omega), if_neg (by omega), h1 i (by omega), h2 _ (by omega)]
    grind
  · obtain ⟨g1, g2, g3⟩ := h8 hu
    refine ⟨fun i hi => ?_, fun k a b => ?_⟩
    · unfold mn_
      rw [if_neg (by omega), if_neg (by omega), h1 i (by omega), h2 _ (by omega)]
      grind
    · have hm := mn_ft s now before f (n - u) (k - (n - u) - 1)
      rw [show n - u + (1 + (k - (n - u) - 1)) = k by omega] at hm
      rw [hm]
      by_cases hk : k = n
      · subst hk
        rw [show k - (k - u) - 1 = u - 1 by omega, g3, hf]
        grind
      · rw [← g2 (k - (n - u) - 1) (by omega) (by omega), ← h3 k (by omega) (by omega)]
        grind
theorem bi_stay {K : Type} [Lean.Grind.CommRing K] {s : Nat → K} {n L u Lm : Nat} {now before : Nat → K} {d f : K} (h : bi_ s n L u Lm now before d) (hf : f * d = s n - ft_ s now n) (hg : n < 2 * L) : bi_ s (n + 1) L u Lm (mn_ now before f (n - u)) before d := by
  obtain ⟨m1, m2⟩ := bi_mend h hf (Nat.le_refl L) (by omega)
  obtain ⟨h1, h2, h3, h4, h5, h6, h7, h8⟩ := h
  exact ⟨m1, h2, m2, by omega, by omega, h6, h7, h8⟩
theorem bi_grow {K : Type} [Lean.Grind.CommRing K] {s : Nat → K} {n L u Lm : Nat} {now before : Nat → K} {d f e : K} (h : bi_ s n L u Lm now before d) (he : e = s n - ft_ s now n) (he0 : e ≠ 0) (hf : f * d = e) (hg : 2 * L ≤ n) : bi_ s (n + 1) (n + 1 - L) (n + 1) L (mn_ now before f (n - u)) now e := by
  obtain ⟨m1, m2⟩ := bi_mend h (hf.trans he) (show L ≤ n + 1 - L by omega) (by omega)
  obtain ⟨h1, h2, h3, h4, h5, h6, h7, h8⟩ := h
  refine ⟨m1, h1, m2, by omega, Nat.le_refl _, by omega, he0, fun _ => ⟨by omega, fun k a b => h3 k a (by omega), ?_⟩⟩
  rw [show n + 1 - 1 = n by omega]
  exact he.symm
/-- the order never passes that of a recurrence which the series obeys -/
theorem bi_le {K : Type} [Lean.Grind.CommRing K] {s : Nat → K} {n L u Lm R : Nat} {now before c : Nat → K} {d : K} (h : bi_ s n L u Lm now before d) (hR : ob R c s) (hm : s n ≠ ft_ s now n) (hLn : L ≤ n) : n + 1 - L ≤ R := by
  refine Classical.byContradiction (fun hno => hm ?_)
  obtain ⟨h1, h2, h3, -⟩ := h
  rw [ft_cut hLn h1]
  refine massey_ (c' := c) (R := R) (fun k a b => ?_) (fun k a b => ?_) (by omega)
  · rw [h3 k a b, ft_cut a h1]
  · have := hR (k - R)
    rw [show k - R + R = k by omega] at this
    exact this
/-- the end: 2 B terms are read, and the least order is at most B -/
theorem bi_end {K : Type} [Lean.Grind.CommRing K] (hI : ∀ x : K, x ≠ 0 → ∃ y, x * y = 1) {s : Nat → K} {B L u Lm R : Nat} {now before c : Nat → K} {d : K} (h : bi_ s (2 * B) L u Lm now before d) (hR : lo_ s R c) (hRB : R ≤ B) (hL : L ≤ R) : L = R ∧ ∀ i, i < R → now i = c i := by
  obtain ⟨h1, h2, h3, -⟩ := h
  have hob : ob L now s := by
    refine ob_check hR.1 (fun n hn => ?_)
    unfold ms_
    have h4 := h3 (n + L) (by omega) (by omega)
    rw [ft_cut (by omega) h1] at h4
    rw [← h4]
    grind
  have hLR : L = R := by
    refine Classical.byContradiction (fun hne => hR.2 L now (by omega) hob)
  subst hLR
  exact ⟨rfl, fun i hi => (lo_uniq hI hR hob i hi).symm⟩
end
section
/-! Linear equations: rows q < rows, unknowns c < r, the right side in column r -/
def so_ {K : Type} [Lean.Grind.CommRing K] (rows r : Nat) (g : Nat → Nat → K) (x : Nat → K) : Prop := ∀ q, q < rows → sm r (fun c => g q c * x c) = g q r
def sw_ {K : Type} (g : Nat → Nat → K) (a b : Nat) : Nat → Nat → K := fun q => if q = a then g b else if q = b then g a else g q
def cl_ {K : Type} [Lean.Grind.CommRing K] (g : Nat → Nat → K) (t col : Nat) (w : K) : Nat → Nat → K := fun q c => if q = t then g t c * w else g q c - g q col * (g t c * w)
theorem so_congr {K : Type} [Lean.Grind.CommRing K] {rows r : Nat} {g g' : Nat → Nat → K} (h : ∀ q, q < rows → ∀ c, c ≤ r → g q c = g' q c) (x : Nat → K) : so_ rows r g x ↔ so_ rows r g' x := by
  have key : ∀ q, q < rows → (sm r (fun c => g q c * x c) = g q r ↔ sm r (fun c => g' q c * x c) = g' q r) := by
    intro q hq
    rw [h q hq r (Nat.le_refl r), sm_congr (fun c hc => by rw [h q hq c (by omega)])]
  exact ⟨fun k q hq => (key q hq).mp (k q hq), fun k q hq => (key q hq).mpr (k q hq)⟩
theorem so_sw {K : Type} [Lean.Grind.CommRing K] {rows r a b : Nat} {g : Nat → Nat → K} (ha : a < rows) (hb : b < rows) (x : Nat → K) : so_ rows r (sw_ g a b) x ↔ so_ rows r g x := by
  constructor
  · intro h q hq
    by_cases h1 : q = a
    · subst h1
      by_cases h2 : q = b
      · subst h2
        have := h q hq
        unfold sw_ at this
        rw [if_pos rfl] at this
        exact this
      · have := h b hb
        unfold sw_ at this
        rw [if_neg (fun z => h2 z.symm), if_pos rfl] at this
        exact this
    · by_cases h2 : q = b
      · subst h2
        have := h a ha
        unfold sw_ at this
        rw [if_pos rfl] at this
        exact this
      · have := h q hq
        unfold sw_ at this
        rw [if_neg h1, if_neg h2] at this
        exact this
  · intro h q hq
    unfold sw_
    by_cases h1 : q = a
    · rw [if_pos h1]; exact h b hb
    · rw [if_neg h1]
      by_cases h2 : q = b
      · rw [if_pos h2]; exact h a ha
      · rw [if_neg h2]; exact h q hq
theorem so_cl {K : Type} [Lean.Grind.CommRing K] {rows r t col : Nat} {w : K} {g : Nat → Nat → K} (ht : t < rows) (hw : g t col * w = 1) (x : Nat → K) : so_ rows r (cl_ g t col w) x ↔ so_ rows r g x := by
  have e1 : sm r (fun c => cl_ g t col w t c * x c) = sm r (fun c => g t c * x c) * w := by
    rw [← sm_mulr]
    refine sm_congr (fun c hc => ?_)
    unfold cl_
    rw [if_pos rfl]
    grind
  have e2 : ∀ q, q ≠ t → sm r (fun c => cl_ g t col w q c * x c) = sm r (fun c => g q c * x c) - g q col * (sm r (fun c => g t c * x c) * w) := by
    intro q hq
    rw [← sm_mulr, ← sm_mul, ← sm_sub]
    refine sm_congr (fun c hc => ?_)
    unfold cl_
    rw [if_neg hq]
    grind
  have e3 : cl_ g t col w t r = g t r * w := by unfold cl_; rw [if_pos rfl]
  have e4 : ∀ q, q ≠ t → cl_ g t col w q r = g q r - g q col * (g t r * w) := fun q hq => by unfold cl_; rw [if_neg hq]
  constructor
  · intro h
    have ht1 := h t ht
    rw [e1, e3] at ht1
    have ht2 : sm r (fun c => g t c * x c) = g t r := by
      have h1 : sm r (fun c => g t c * x c) = sm r (fun c => g t c * x c) * w * g t col := by grind
      have h2 : g t r = g t r * w * g t col := by grind
      rw [h1, ht1, ← h2]
    intro q hq
    by_cases hqt : q = t
    · rw [hqt]; exact ht2
    · have := h q hq
      rw [e2 q hqt, e4 q hqt, ht2] at this
      grind
  · intro h q hq
    have ht2 := h t ht
    by_cases hqt : q = t
    · rw [hqt, e1, e3, ht2]
    · rw [e2 q hqt, e4 q hqt, ht2, h q hq]
/-- col columns are done, k rows have a pivot -/
def gi_ {K : Type} [Lean.Grind.CommRing K] (rows r : Nat) (g0 : Nat → Nat → K) (col k : Nat) (g : Nat → Nat → K) (pv : Nat → Option Nat) (pc : Nat → Nat) : Prop :=
  (∀ x, so_ rows r g x ↔ so_ rows r g0 x) ∧ k ≤ rows ∧
  (∀ c p, c < col → pv c = some p → p < k ∧ pc p = c ∧ ∀ q, q < rows → g q c = if q = p then 1 else 0) ∧
  (∀ c, c < col → pv c = none → ∀ q, k ≤ q → q < rows → g q c = 0) ∧
  (∀ p, p < k → pc p < col ∧ pv (pc p) = some p)
theorem gi_start {K : Type} [Lean.Grind.CommRing K] (rows r : Nat) (g0 : Nat → Nat → K) (pv : Nat → Option Nat) (pc : Nat → Nat) : gi_ rows r g0 0 0 g0 pv pc :=
  ⟨fun _ => Iff.rfl, Nat.zero_le _, fun c p h => by omega, fun c h => by omega, fun p h => by omega⟩
theorem gi_none {K : Type} [Lean.Grind.CommRing K] {rows r col k : Nat} {g0 g : Nat → Nat → K} {pv : Nat → Option Nat} {pc : Nat → Nat} (h : gi_ rows r g0 col k g pv pc) (hz : ∀ q, k ≤ q → q < rows → g q col = 0) : gi_ rows r g0 (col + 1) k g (va_up pv col none) pc := by
  obtain ⟨h1, h2, h3, h4, h5⟩ := h
  refine ⟨h1, h2, fun c p hc hp => ?_, fun c hc hp => ?_, fun p hp => ?_⟩
  · by_cases hcc : c = col
    · subst hcc; simp [va_up] at hp
    · simp only [va_up, if_neg hcc] at hp
      exact h3 c p (by omega) hp
  · by_cases hcc : c = col
    · subst hcc; exact hz
    · simp only [va_up, if_neg hcc] at hp
      exact h4 c (by omega) hp
  · obtain ⟨g1, g2⟩ := h5 p hp
    refine ⟨by omega, ?_⟩
    simp only [va_up, if_neg (show ¬ pc p = col by omega)]
    exact g2
theorem gi_pivot {K : Type} [Lean.Grind.CommRing K] {rows r col k t : Nat} {w : K} {g0 g : Nat → Nat → K} {pv : Nat → Option Nat} {pc : Nat → Nat} (h : gi_ rows r g0 col k g pv pc) (hk : k ≤ t) (ht : t < rows) (hw : g t col * w = 1) : gi_ rows r g0 (col + 1) (k + 1) (cl_ (sw_ g t k) k col w) (va_up pv col (some k)) (va_up pc k col) := by
  obtain ⟨h1, h2, h3, h4, h5⟩ := h
  have hsk : sw_ g t k k = g t := by
    unfold sw_
    by_cases hkt : k = t
    · rw [if_pos hkt, hkt]
    · rw [if_neg hkt, if_pos rfl]
  have hw' : sw_ g t k k col * w = 1 := by rw [hsk]; exact hw
  -- an old column with a pivot: zero from row k on
  have hold : ∀ c p, c < col → pv c = some p → ∀ q, q < rows → sw_ g t k q c = if q = p then 1 else 0 := by
    intro c p hc hp q hq
    obtain ⟨g1, g2, g3⟩ := h3 c p hc hp
    unfold sw_
    by_cases hqt : q = t
    · rw [if_pos hqt, g3 k (by omega), if_neg (by omega), if_neg (by omega)]
    · rw [if_neg hqt]
      by_cases hqk : q = k
      · rw [if_pos hqk, g3 t ht, if_neg (by omega), if_neg (by omega)]
      · rw [if_neg hqk]; exact g3 q hq
  have holdn : ∀ c, c < col → pv c = none → ∀ q, k ≤ q → q < rows → sw_ g t k q c = 0 := by
    intro c hc hp q hq1 hq2
    unfold sw_
    by_cases hqt : q = t
    · rw [if_pos hqt]; exact h4 c hc hp k (Nat.le_refl k) (by omega)
    · rw [if_neg hqt]
      by_cases hqk : q = k
      · rw [if_pos hqk]; exact h4 c hc hp t hk ht
      · rw [if_neg hqk]; exact h4 c hc hp q hq1 hq2
  refine ⟨fun x => ((so_cl (by omega) hw' x).trans (so_sw ht (by omega) x)).trans (h1 x), by omega, fun c p hc hp => ?_, fun c hc hp q hq1 hq2 => ?_, fun p hp => ?_⟩
  · by_cases hcc : c = col
    · subst hcc
      simp only [va_up, if_true] at hp
      cases hp
      refine ⟨by omega, by simp [va_up], fun q hq => ?_⟩
      unfold cl_
      by_cases hqk : q = k
      · rw [if_pos hqk, if_pos hqk]; exact hw'
      · rw [if_neg hqk, if_neg hqk]; grind
    · simp only [va_up, if_neg hcc] at hp
      obtain ⟨g1, g2, g3⟩ := h3 c p (by omega) hp
      refine ⟨by omega, by simp only [va_up, if_neg (show ¬ p = k by omega)]; exact g2, fun q hq => ?_⟩
      have e1 := hold c p (by omega) hp k (by omega)
      rw [if_neg (by omega)] at e1
      unfold cl_
      by_cases hqk : q = k
      · rw [if_pos hqk, e1, if_neg (by omega)]; grind
      · rw [if_neg hqk, e1, hold c p (by omega) hp q hq]; grind
  · by_cases hcc : c = col
    · subst hcc; simp [va_up] at hp
    · simp only [va_up, if_neg hcc] at hp
      have e1 := holdn c (by omega) hp k (Nat.le_refl k) (by omega)
      unfold cl_
      rw [if_neg (by omega), e1, holdn c (by omega) hp q (by omega) hq2]
      grind
  · by_cases hpk : p = k
    · subst hpk
      simp [va_up]
    · obtain ⟨g1, g2⟩ := h5 p (by omega)
      simp only [va_up, if_neg hpk, if_neg (show ¬ pc p = col by omega)]
      exact ⟨by omega, g2⟩
theorem gi_zero {K : Type} [Lean.Grind.CommRing K] {rows r k : Nat} {g0 g : Nat → Nat → K} {pv : Nat → Option Nat} {pc : Nat → Nat} (h : gi_ rows r g0 r k g pv pc) {q : Nat} (hq1 : k ≤ q) (hq2 : q < rows) : ∀ c, c < r → g q c = 0 := by
  obtain ⟨h1, h2, h3, h4, h5⟩ := h
  intro c hc
  cases hp : pv c with
  | none => exact h4 c hc hp q hq1 hq2
  | some p =>
    obtain ⟨g1, g2, g3⟩ := h3 c p hc hp
    rw [g3 q hq2, if_neg (by omega)]
theorem gi_no {K : Type} [Lean.Grind.CommRing K] {rows r k : Nat} {g0 g : Nat → Nat → K} {pv : Nat → Option Nat} {pc : Nat → Nat} (h : gi_ rows r g0 r k g pv pc) {x : Nat → K} (hx : so_ rows r g0 x) : ∀ q, k ≤ q → q < rows → g q r = 0 := by
  intro q hq1 hq2
  have h1 := (h.1 x).mpr hx q hq2
  rw [← h1]
  refine sm_zero (fun c hc => ?_)
  rw [gi_zero h hq1 hq2 c hc]
  grind
theorem gi_yes {K : Type} [Lean.Grind.CommRing K] {rows r k : Nat} {g0 g : Nat → Nat → K} {pv : Nat → Option Nat} {pc : Nat → Nat} (h : gi_ rows r g0 r k g pv pc) (hz : ∀ q, k ≤ q → q < rows → g q r = 0) : so_ rows r g0 (fun c => match pv c with | some p => g p r | none => 0) := by
  refine (h.1 _).mp (fun q hq => ?_)
  by_cases hqk : k ≤ q
  · rw [hz q hqk hq]
    refine sm_zero (fun c hc => ?_)
    rw [gi_zero h hqk hq c hc]
    grind
  · obtain ⟨h1, h2, h3, h4, h5⟩ := h
    obtain ⟨g1, g2⟩ := h5 q (by omega)
    rw [sm_one (p := pc q) g1]
    · obtain ⟨e1, e2, e3⟩ := h3 (pc q) q g1 g2
      rw [g2, e3 q hq, if_pos rfl]
      grind
    · intro c hc hne
      cases hp : pv c with
      | none => simp only; grind
      | some p =>
        obtain ⟨e1, e2, e3⟩ := h3 c p hc hp
        have hqp : ¬ q = p := fun z => hne (by rw [z]; exact e2.symm)
        rw [e3 q hq, if_neg hqp]
        grind
end
section
/-! Products of power series; Bostan's and Mori's way -/
theorem cv_comm {K : Type} [Lean.Grind.CommRing K] (a b : Nat → K) (n : Nat) : cv_ a b n = cv_ b a n := by
  unfold cv_
  rw [sm_rev]
  refine sm_congr (fun i hi => ?_)
  rw [show n + 1 - 1 - i = n - i by omega, show n - (n - i) = i by omega]
  grind
theorem cv_congr {K : Type} [Lean.Grind.CommRing K] {a a' b b' : Nat → K} {n : Nat} (h : ∀ i, i ≤ n → a i = a' i) (g : ∀ i, i ≤ n → b i = b' i) : cv_ a b n = cv_ a' b' n :=
  sm_congr (fun i hi => by rw [h i (by omega), g (n - i) (by omega)])
theorem cv_assoc {K : Type} [Lean.Grind.CommRing K] (a b c : Nat → K) (n : Nat) : cv_ (cv_ a b) c n = cv_ a (cv_ b c) n := by
  have h1 : cv_ (cv_ a b) c n = sm (n + 1) (fun k => sm (k + 1) (fun i => (fun i j => a i * (b j * c (n - i - j))) i (k - i))) := by
    refine sm_congr (fun k hk => ?_)
    show cv_ a b k * c (n - k) = _
    unfold cv_
    rw [← sm_mulr]
    refine sm_congr (fun i hi => ?_)
    show a i * b (k - i) * c (n - k) = a i * (b (k - i) * c (n - i - (k - i)))
    rw [show n - i - (k - i) = n - k by omega]
    grind
  rw [h1, sm_tri (n + 1) (fun i j => a i * (b j * c (n - i - j)))]
  refine sm_congr (fun i hi => ?_)
  show sm (n + 1 - i) (fun j => a i * (b j * c (n - i - j))) = a i * cv_ b c (n - i)
  unfold cv_
  rw [sm_mul, show n + 1 - i = n - i + 1 by omega]
theorem cv_add {K : Type} [Lean.Grind.CommRing K] (a b c : Nat → K) (n : Nat) : cv_ (fun i => a i + b i) c n = cv_ a c n + cv_ b c n := by
  unfold cv_
  rw [← sm_add]
  exact sm_congr (fun i hi => by grind)
theorem cv_sub {K : Type} [Lean.Grind.CommRing K] (a b c : Nat → K) (n : Nat) : cv_ (fun i => a i - b i) c n = cv_ a c n - cv_ b c n := by
  unfold cv_
  rw [← sm_sub]
  exact sm_congr (fun i hi => by grind)
theorem sm_two {K : Type} [Lean.Grind.CommRing K] (m : Nat) (f : Nat → K) : sm (2 * m) f = sm m (fun j => f (2 * j) + f (2 * j + 1)) := by
  induction m with
  | zero => rfl
  | succ m ih =>
    rw [show 2 * (m + 1) = 2 * m + 1 + 1 by omega, sm_s, sm_s, ih, sm_s]
    grind
/-- the polynomial at -x -/
def mi_ {K : Type} [Lean.Grind.CommRing K] (b : Nat → K) : Nat → K := fun i => if i % 2 = 0 then b i else - b i
theorem mi_odd {K : Type} [Lean.Grind.CommRing K] (h2 : ∀ x : K, x + x = 0 → x = 0) (b : Nat → K) (k : Nat) : cv_ b (mi_ b) (2 * k + 1) = 0 := by
  refine h2 _ ?_
  have e1 : cv_ b (mi_ b) (2 * k + 1) = sm (2 * k + 1 + 1) (fun i => b i * mi_ b (2 * k + 1 - i)) := rfl
  have e2 : cv_ b (mi_ b) (2 * k + 1) = sm (2 * k + 1 + 1) (fun i => b (2 * k + 1 - i) * mi_ b i) := by
    rw [e1, sm_rev]
    refine sm_congr (fun i hi => ?_)
    rw [show 2 * k + 1 + 1 - 1 - i = 2 * k + 1 - i by omega, show 2 * k + 1 - (2 * k + 1 - i) = i by omega]
  have e3 : sm (2 * k + 1 + 1) (fun i => b i * mi_ b (2 * k + 1 - i)) + sm (2 * k + 1 + 1) (fun i => b (2 * k + 1 - i) * mi_ b i) = 0 := by
    rw [← sm_add]
    refine sm_zero (fun i hi => ?_)
    unfold mi_
    by_cases hp : i % 2 = 0
    · rw [if_neg (show ¬ (2 * k + 1 - i) % 2 = 0 by omega), if_pos hp]
      grind
    · rw [if_pos (show (2 * k + 1 - i) % 2 = 0 by omega), if_neg hp]
      grind
  rw [← e1, ← e2] at e3
  exact e3
theorem bm_half {K : Type} [Lean.Grind.CommRing K] (h2 : ∀ x : K, x + x = 0 → x = 0) (b t u : Nat → K) (h : ∀ n, cv_ b u n = t n) (par : Nat) (hp : par < 2) : ∀ n, cv_ (fun i => cv_ b (mi_ b) (2 * i)) (fun i => u (2 * i + par)) n = cv_ t (mi_ b) (2 * n + par) := by
  intro n
  have e1 : cv_ t (mi_ b) (2 * n + par) = cv_ (cv_ b (mi_ b)) u (2 * n + par) := by
    have et : t = cv_ b u := (funext h).symm
    have eb : cv_ b u = cv_ u b := funext (cv_comm b u)
    rw [et, eb, cv_assoc, cv_comm]
  rw [e1]
  show sm (n + 1) (fun i => cv_ b (mi_ b) (2 * i) * u (2 * (n - i) + par)) = sm (2 * n + par + 1) (fun i => cv_ b (mi_ b) i * u (2 * n + par - i))
  have e2 : sm (2 * (n + 1)) (fun i => cv_ b (mi_ b) i * u (2 * n + par - i)) = sm (n + 1) (fun i => cv_ b (mi_ b) (2 * i) * u (2 * (n - i) + par)) := by
    rw [sm_two]
    refine sm_congr (fun i hi => ?_)
    rw [mi_odd h2, show 2 * n + par - 2 * i = 2 * (n - i) + par by omega]
    grind
  rw [← e2]
  by_cases hp0 : par = 0
  · subst hp0
    rw [show 2 * (n + 1) = 2 * n + 0 + 1 + 1 by omega, sm_s, show 2 * n + 0 + 1 = 2 * n + 1 by omega, mi_odd h2]
    grind
  · rw [show 2 * (n + 1) = 2 * n + par + 1 by omega]
/-- a product of two rows, of which one ends at d and the other at e, is cut there -/
theorem cv_range {K : Type} [Lean.Grind.CommRing K] {a b : Nat → K} {d n : Nat} (ha : ∀ i, d < i → a i = 0) (hb : ∀ i, d < i → b i = 0) : cv_ a b n = sm (min d n + 1 - (n - d)) (fun i => a (n - d + i) * b (n - (n - d + i))) := by
  unfold cv_
  by_cases h1 : n ≤ d
  · have : n - d = 0 := by omega
    rw [this, show min d n + 1 - 0 = n + 1 by omega]
    exact sm_congr (fun i hi => by rw [Nat.zero_add])
  · obtain ⟨e, rfl⟩ : ∃ e, n = d + e := ⟨n - d, by omega⟩
    rw [show d + e - d = e by omega, show min d (d + e) = d by omega]
    by_cases he : e ≤ d + 1
    · rw [show d + e + 1 = e + (d + 1 - e + e) by omega, sm_split, sm_split (d + 1 - e) e]
      rw [sm_zero (n := e) (f := fun i => a i * b (d + e - i)) (fun i hi => by rw [hb _ (by omega)]; grind)]
      rw [sm_zero (n := e) (f := fun i => a (e + (d + 1 - e + i)) * b (d + e - (e + (d + 1 - e + i)))) (fun i hi => by rw [ha _ (by omega)]; grind)]
      grind
    · rw [show d + 1 - e = 0 by omega, sm_0]
      refine sm_zero (fun i hi => ?_)
      by_cases hi : d < i
      · rw [ha i hi]; grind
      · rw [hb _ (by omega)]; grind
theorem cv_high {K : Type} [Lean.Grind.CommRing K] {a b : Nat → K} {d n : Nat} (ha : ∀ i, d < i → a i = 0) (hb : ∀ i, d < i → b i = 0) (hn : 2 * d < n) : cv_ a b n = 0 := by
  refine sm_zero (fun i hi => ?_)
  by_cases hi : d < i
  · rw [ha i hi]; grind
  · rw [hb _ (by omega)]; grind
end
section
/-! The numbers modulo 2147483647 -/
def td_ : Nat → Nat → Nat → Bool
  | 0, lo, _ => 2147483647 % lo != 0
  | f + 1, lo, len => if len = 0 then true else if len = 1 then 2147483647 % lo != 0 else td_ f lo (len / 2) && td_ f (lo + len / 2) (len - len / 2)
theorem td_ok : ∀ (f lo len : Nat), len ≤ 2 ^ f → td_ f lo len = true → ∀ d, lo ≤ d → d < lo + len → 2147483647 % d ≠ 0
  | 0, lo, len, hl, h, d, h1, h2 => by
    have : d = lo := by simp at hl; omega
    subst this
    simpa [td_] using h
  | f + 1, lo, len, hl, h, d, h1, h2 => by
    unfold td_ at h
    by_cases h0 : len = 0
    · omega
    · rw [if_neg h0] at h
      by_cases h3 : len = 1
      · rw [if_pos h3] at h
        have : d = lo := by omega
        subst this
        simpa using h
      · rw [if_neg h3, Bool.and_eq_true] at h
        rw [Nat.pow_succ] at hl
        by_cases h4 : d < lo + len / 2
        · exact td_ok f lo (len / 2) (by omega) h.1 d h1 h4
        · exact td_ok f (lo + len / 2) (len - len / 2) (by omega) h.2 d (by omega) (by omega)
theorem td_all : td_ 16 2 46339 = true := by decide +kernel
theorem pr_P : ∀ d, d ∣ 2147483647 → d = 1 ∨ d = 2147483647 := by
  intro d hd
  have small : ∀ d, d ∣ 2147483647 → 1 < d → 46341 ≤ d := by
    intro d hd h1
    refine Nat.le_of_not_lt (fun h2 => ?_)
    exact td_ok 16 2 46339 (by decide) td_all d (by omega) (by omega) (Nat.mod_eq_zero_of_dvd hd)
  obtain ⟨e, he⟩ := hd
  have hd0 : d ≠ 0 := fun h => by rw [h, Nat.zero_mul] at he; omega
  have he0 : e ≠ 0 := fun h => by rw [h, Nat.mul_zero] at he; omega
  by_cases h1 : d = 1
  · exact Or.inl h1
  · by_cases h2 : e = 1
    · rw [h2, Nat.mul_one] at he; exact Or.inr he.symm
    · have a1 := small d ⟨e, he⟩ (by omega)
      have a2 := small e ⟨d, by rw [Nat.mul_comm]; exact he⟩ (by omega)
      have a3 : 46341 * 46341 ≤ d * e := Nat.mul_le_mul a1 a2
      omega
theorem pr_cop {k : Nat} (h : ¬ 2147483647 ∣ k) : Nat.Coprime 2147483647 k := by
  rcases pr_P (Nat.gcd 2147483647 k) (Nat.gcd_dvd_left _ _) with h1 | h1
  · exact h1
  · exact absurd (h1 ▸ Nat.gcd_dvd_right 2147483647 k) h
theorem pr_mul {a b : Nat} (h : 2147483647 ∣ a * b) : 2147483647 ∣ a ∨ 2147483647 ∣ b := by
  by_cases ha : 2147483647 ∣ a
  · exact Or.inl ha
  · exact Or.inr ((pr_cop ha).dvd_of_dvd_mul_left h)
def bn_ : Nat → Nat → Nat
  | _, 0 => 1
  | 0, _ + 1 => 0
  | n + 1, k + 1 => bn_ n k + bn_ n (k + 1)
theorem bn_abs : ∀ n k, (k + 1) * bn_ (n + 1) (k + 1) = (n + 1) * bn_ n k := by
  intro n
  induction n with
  | zero =>
    intro k
    cases k with
    | zero => rfl
    | succ k => simp [bn_]
  | succ n ih =>
    intro k
    cases k with
    | zero =>
      have h := ih 0
      simp only [bn_] at h ⊢
      omega
    | succ k =>
      have h1 := ih k
      have h2 := ih (k + 1)
      have e1 : bn_ (n + 1 + 1) (k + 1 + 1) = bn_ (n + 1) (k + 1) + bn_ (n + 1) (k + 1 + 1) := rfl
      have e2 : bn_ (n + 1) (k + 1) = bn_ n k + bn_ n (k + 1) := rfl
      rw [e1, Nat.mul_add, h2]
      have e3 : (k + 1 + 1) * bn_ (n + 1) (k + 1) = (n + 1) * bn_ n k + bn_ (n + 1) (k + 1) := by
        rw [Nat.succ_mul, h1]
      rw [e3, Nat.succ_mul (n + 1), e2, Nat.mul_add]
      omega
theorem bn_big : ∀ n k, n < k → bn_ n k = 0 := by
  intro n
  induction n with
  | zero => intro k hk; cases k with
    | zero => omega
    | succ k => rfl
  | succ n ih => intro k hk; cases k with
    | zero => omega
    | succ k => show bn_ n k + bn_ n (k + 1) = 0; rw [ih k (by omega), ih (k + 1) (by omega)]
theorem bn_self : ∀ n, bn_ n n = 1 := by
  intro n
  induction n with
  | zero => rfl
  | succ n ih => show bn_ n n + bn_ n (n + 1) = 1; rw [ih, bn_big n (n + 1) (by omega)]
theorem bn_P {n k : Nat} (hn : n + 1 = 2147483647) (h1 : k + 1 < n + 1) : 2147483647 ∣ bn_ (n + 1) (k + 1) := by
  have h := bn_abs n k
  have hd : 2147483647 ∣ (k + 1) * bn_ (n + 1) (k + 1) := by rw [h, hn]; exact Nat.dvd_mul_right _ _
  rcases pr_mul hd with h2 | h2
  · exact absurd (Nat.le_of_dvd (by omega) h2) (by omega)
  · exact h2
abbrev FP : Type := Fin 2147483647
def ph (n : Nat) : FP := Fin.ofNat 2147483647 n
theorem ph_val (n : Nat) : (ph n).val = n % 2147483647 := rfl
theorem ph_add (a b : Nat) : ph (a + b) = ph a + ph b := Fin.ext (by rw [Fin.val_add, ph_val, ph_val, ph_val, Nat.add_mod])
theorem ph_mul (a b : Nat) : ph (a * b) = ph a * ph b := Fin.ext (by rw [Fin.val_mul, ph_val, ph_val, ph_val, Nat.mul_mod])
theorem ph_mod (a : Nat) : ph (a % 2147483647) = ph a := Fin.ext (by rw [ph_val, ph_val, Nat.mod_mod])
theorem ph_0 : ph 0 = 0 := rfl
theorem ph_1 : ph 1 = 1 := rfl
theorem ph_eq {a b : Nat} (ha : a < 2147483647) (hb : b < 2147483647) : ph a = ph b ↔ a = b := by
  constructor
  · intro h
    have := congrArg Fin.val h
    rw [ph_val, ph_val, Nat.mod_eq_of_lt ha, Nat.mod_eq_of_lt hb] at this
    exact this
  · intro h; rw [h]
theorem ph_of (x : FP) : ph x.val = x := Fin.ext (by rw [ph_val, Nat.mod_eq_of_lt x.isLt])
theorem ph_sub {a b : Nat} (h : b ≤ a) : ph (a - b) = ph a - ph b := by
  have h1 : ph (a - b) + ph b = ph a := by rw [← ph_add, Nat.sub_add_cancel h]
  grind
theorem ph_P : ph 2147483647 = 0 := rfl
theorem fp_mul {x y : FP} (h : x * y = 0) : x = 0 ∨ y = 0 := by
  have h1 := congrArg Fin.val h
  rw [Fin.val_mul] at h1
  have h2 : 2147483647 ∣ x.val * y.val := Nat.dvd_of_mod_eq_zero h1
  have hx := x.isLt
  have hy := y.isLt
  rcases pr_mul h2 with h3 | h3
  · left
    refine Fin.ext ?_
    rcases Nat.eq_zero_or_pos x.val with h4 | h4
    · exact h4
    · exact absurd (Nat.le_of_dvd h4 h3) (by omega)
  · right
    refine Fin.ext ?_
    rcases Nat.eq_zero_or_pos y.val with h4 | h4
    · exact h4
    · exact absurd (Nat.le_of_dvd h4 h3) (by omega)
def pw_ {K : Type} [Lean.Grind.CommRing K] (x : K) : Nat → K
  | 0 => 1
  | n + 1 => pw_ x n * x
theorem pw_add {K : Type} [Lean.Grind.CommRing K] (x : K) (a b : Nat) : pw_ x (a + b) = pw_ x a * pw_ x b := by
  induction b with
  | zero => show pw_ x a = pw_ x a * 1; grind
  | succ b ih => show pw_ x (a + b) * x = pw_ x a * (pw_ x b * x); rw [ih]; grind
theorem pw_sq {K : Type} [Lean.Grind.CommRing K] (x : K) (a : Nat) : pw_ (x * x) a = pw_ x (2 * a) := by
  induction a with
  | zero => rfl
  | succ a ih => show pw_ (x * x) a * (x * x) = pw_ x (2 * a + 1 + 1); rw [ih]; show _ = pw_ x (2 * a) * x * x; grind
theorem pw_bin (x : FP) (n : Nat) : pw_ (x + 1) n = sm (n + 1) (fun k => ph (bn_ n k) * pw_ x k) := by
  induction n with
  | zero =>
    show (1 : FP) = 0 + ph 1 * 1
    rw [ph_1]; grind
  | succ n ih =>
    show pw_ (x + 1) n * (x + 1) = _
    rw [ih, sm_head (n + 1) (fun k => ph (bn_ (n + 1) k) * pw_ x k)]
    have e1 : sm (n + 1) (fun k => ph (bn_ (n + 1) (k + 1)) * pw_ x (k + 1)) = sm (n + 1) (fun k => ph (bn_ n k) * pw_ x k) * x + sm (n + 1) (fun k => ph (bn_ n (k + 1)) * pw_ x (k + 1)) := by
      rw [← sm_mulr, ← sm_add]
      refine sm_congr (fun k hk => ?_)
      show ph (bn_ n k + bn_ n (k + 1)) * (pw_ x k * x) = ph (bn_ n k) * pw_ x k * x + ph (bn_ n (k + 1)) * (pw_ x k * x)
      rw [ph_add]
      grind
    have e2 : sm (n + 1) (fun k => ph (bn_ n k) * pw_ x k) = ph (bn_ (n + 1) 0) * pw_ x 0 + sm (n + 1) (fun k => ph (bn_ n (k + 1)) * pw_ x (k + 1)) := by
      have h1 := sm_s (n + 1) (fun k => ph (bn_ n k) * pw_ x k)
      rw [sm_head, bn_big n (n + 1) (by omega), ph_0] at h1
      have h2 : ph (bn_ (n + 1) 0) * pw_ x 0 = ph (bn_ n 0) * pw_ x 0 := by cases n <;> rfl
      rw [h2]
      grind
    rw [e1]
    grind
theorem pw_P (n : Nat) (hn : n + 1 = 2147483647) (x : FP) : pw_ (x + 1) (n + 1) = pw_ x (n + 1) + 1 := by
  rw [pw_bin, sm_s, sm_head, bn_self]
  have e1 : sm n (fun k => ph (bn_ (n + 1) (k + 1)) * pw_ x (k + 1)) = 0 := by
    refine sm_zero (fun k hk => ?_)
    have h1 : ph (bn_ (n + 1) (k + 1)) = 0 := Fin.ext (by rw [ph_val]; exact Nat.mod_eq_zero_of_dvd (bn_P hn (by omega)))
    rw [h1]
    grind
  rw [e1, ph_1]
  show ph 1 * 1 + 0 + 1 * pw_ x (n + 1) = pw_ x (n + 1) + 1
  rw [ph_1]
  grind
theorem pw_fermat (n : Nat) (hn : n + 1 = 2147483647) (a : Nat) : pw_ (ph a) (n + 1) = ph a := by
  induction a with
  | zero =>
    rw [ph_0]
    show pw_ (0 : FP) n * 0 = 0
    grind
  | succ a ih => rw [ph_add, ph_1, pw_P n hn, ih]
theorem pw_inv (m : Nat) (hm : m + 2 = 2147483647) {x : FP} (hx : x ≠ 0) : x * pw_ x m = 1 := by
  have h := pw_fermat (m + 1) (by omega) x.val
  rw [ph_of] at h
  have h1 : x * (x * pw_ x m - 1) = 0 := by
    have : pw_ x (m + 1 + 1) = pw_ x m * x * x := rfl
    rw [this] at h
    grind
  rcases fp_mul h1 with h2 | h2
  · exact absurd h2 hx
  · grind
theorem fp_inv : ∀ x : FP, x ≠ 0 → ∃ y, x * y = 1 := fun x hx => ⟨_, pw_inv 2147483645 (by omega) hx⟩
theorem fp_two : ∀ x : FP, x + x = 0 → x = 0 := by
  intro x h
  have e : ph 2 = 1 + 1 := by rw [← ph_1, ← ph_add]
  have h2 : ph 2 * x = 0 := by
    rw [e]
    have : (1 + 1) * x = x + x := by grind
    rw [this, h]
  rcases fp_mul h2 with h3 | h3
  · exact absurd ((ph_eq (a := 2) (b := 0) (by omega) (by omega)).mp (h3.trans ph_0.symm)) (by omega)
  · exact h3
end
section
/-! Polynomials: rows that end; what they do to series -/
def sz_ {K : Type} [Lean.Grind.CommRing K] (f : Nat → K) (k : Nat) : Prop := ∀ i, k ≤ i → f i = 0
theorem sz_mono {K : Type} [Lean.Grind.CommRing K] {f : Nat → K} {k l : Nat} (h : sz_ f k) (hl : k ≤ l) : sz_ f l := fun i hi => h i (by omega)
theorem sz_cv {K : Type} [Lean.Grind.CommRing K] {f g : Nat → K} {a b : Nat} (hf : sz_ f (a + 1)) (hg : sz_ g (b + 1)) : sz_ (cv_ f g) (a + b + 1) ∧ cv_ f g (a + b) = f a * g b := by
  refine ⟨fun n hn => sm_zero (fun i hi => ?_), ?_⟩
  · by_cases hia : a + 1 ≤ i
    · rw [hf i hia]; grind
    · rw [hg (n - i) (by omega)]; grind
  · unfold cv_
    rw [sm_one (p := a) (by omega)]
    · rw [show a + b - a = b by omega]
    · intro i hi hne
      by_cases hia : a + 1 ≤ i
      · rw [hf i hia]; grind
      · rw [hg (a + b - i) (by omega)]; grind
theorem sz_cv0 {K : Type} [Lean.Grind.CommRing K] {f g : Nat → K} {a b : Nat} (hf : sz_ f a) (hg : sz_ g b) : sz_ (cv_ f g) (a + b) := fun n hn => sm_zero (fun i hi => by
  by_cases hia : a ≤ i
  · rw [hf i hia]; grind
  · rw [hg (n - i) (by omega)]; grind)
theorem sz_top {K : Type} [Lean.Grind.CommRing K] {f : Nat → K} {k : Nat} (h : sz_ f k) : (∀ i, f i = 0) ∨ ∃ t, t < k ∧ f t ≠ 0 ∧ sz_ f (t + 1) := by
  induction k with
  | zero => exact Or.inl (fun i => h i (Nat.zero_le i))
  | succ k ih =>
    by_cases h0 : f k = 0
    · rcases ih (fun i hi => by
        by_cases hik : i = k
        · rw [hik]; exact h0
        · exact h i (by omega)) with h1 | ⟨t, h1, h2, h3⟩
      · exact Or.inl h1
      · exact Or.inr ⟨t, by omega, h2, h3⟩
    · exact Or.inr ⟨k, by omega, h0, h⟩
/-- a polynomial moves a series -/
def ac_ {K : Type} [Lean.Grind.CommRing K] (f : Nat → K) (k : Nat) (s : Nat → K) : Nat → K := fun n => sm k (fun i => f i * s (n + i))
theorem ac_any {K : Type} [Lean.Grind.CommRing K] {f : Nat → K} {k l : Nat} (h : sz_ f k) (hl : k ≤ l) (s : Nat → K) (n : Nat) : ac_ f l s n = ac_ f k s n := sm_cut hl (fun i h1 _ => by rw [h i h1]; grind)
theorem ac_cv {K : Type} [Lean.Grind.CommRing K] {f g : Nat → K} {a b : Nat} (hf : sz_ f a) (hg : sz_ g b) (s : Nat → K) (n : Nat) : ac_ (cv_ f g) (a + b) s n = ac_ f a (ac_ g b s) n := by
  have h1 : ac_ (cv_ f g) (a + b) s n = sm (a + b) (fun k => sm (k + 1) (fun i => (fun i j => f i * (g j * s (n + i + j))) i (k - i))) := by
    refine sm_congr (fun k hk => ?_)
    show cv_ f g k * s (n + k) = _
    unfold cv_
    rw [← sm_mulr]
    refine sm_congr (fun i hi => ?_)
    show f i * g (k - i) * s (n + k) = f i * (g (k - i) * s (n + i + (k - i)))
    rw [show n + i + (k - i) = n + k by omega]
    grind
  rw [h1, sm_tri (a + b) (fun i j => f i * (g j * s (n + i + j)))]
  have h2 : sm (a + b) (fun i => sm (a + b - i) (fun j => f i * (g j * s (n + i + j)))) = sm a (fun i => sm (a + b - i) (fun j => f i * (g j * s (n + i + j)))) := sm_cut (by omega) (fun i h1 _ => sm_zero (fun j hj => by rw [hf i h1]; grind))
  show sm (a + b) (fun i => sm (a + b - i) (fun j => f i * (g j * s (n + i + j)))) = _
  rw [h2]
  refine sm_congr (fun i hi => ?_)
  rw [sm_cut (m := b) (by omega) (fun j h1 _ => by rw [hg j h1]; grind), sm_mul]
  rfl
theorem ac_lin {K : Type} [Lean.Grind.CommRing K] {f g h : Nat → K} (k : Nat) (e : ∀ i, f i = g i + h i) (s : Nat → K) (n : Nat) : ac_ f k s n = ac_ g k s n + ac_ h k s n := by
  unfold ac_
  rw [← sm_add]
  exact sm_congr (fun i hi => by rw [e i]; grind)
theorem ac_zero {K : Type} [Lean.Grind.CommRing K] {f : Nat → K} {k : Nat} {s : Nat → K} (h : ∀ n, s n = 0) (n : Nat) : ac_ f k s n = 0 := sm_zero (fun i hi => by rw [h]; grind)
/-- the polynomial of a recurrence -/
def pl_ {K : Type} [Lean.Grind.CommRing K] (r : Nat) (c : Nat → K) : Nat → K := fun i => if i < r then - c (r - 1 - i) else if i = r then 1 else 0
theorem pl_sz {K : Type} [Lean.Grind.CommRing K] (r : Nat) (c : Nat → K) : sz_ (pl_ r c) (r + 1) := fun i hi => by
  unfold pl_
  rw [if_neg (by omega), if_neg (by omega)]
theorem pl_top {K : Type} [Lean.Grind.CommRing K] (r : Nat) (c : Nat → K) : pl_ r c r = 1 := by
  unfold pl_
  rw [if_neg (by omega), if_pos rfl]
theorem pl_ac {K : Type} [Lean.Grind.CommRing K] (r : Nat) (c s : Nat → K) (n : Nat) : ac_ (pl_ r c) (r + 1) s n = ms_ r c s n := by
  unfold ac_ ms_
  rw [sm_s, pl_top, sm_rev r (fun i => c i * s (n + r - 1 - i))]
  have e : sm r (fun i => pl_ r c i * s (n + i)) = - sm r (fun i => c (r - 1 - i) * s (n + r - 1 - (r - 1 - i))) := by
    rw [← sm_neg]
    refine sm_congr (fun i hi => ?_)
    unfold pl_
    rw [if_pos hi, show n + r - 1 - (r - 1 - i) = n + i by omega]
    grind
  rw [e]
  grind
theorem pl_ob {K : Type} [Lean.Grind.CommRing K] {f s : Nat → K} {r : Nat} {w : K} (hf : sz_ f (r + 1)) (hw : f r * w = 1) (h : ∀ n, ac_ f (r + 1) s n = 0) : ob r (fun i => - (w * f (r - 1 - i))) s := by
  intro n
  have h1 := h n
  unfold ac_ at h1
  rw [sm_s] at h1
  rw [sm_rev]
  have e : sm r (fun i => (fun i => - (w * f (r - 1 - i)) * s (n + r - 1 - i)) (r - 1 - i)) = - (w * sm r (fun i => f i * s (n + i))) := by
    rw [← sm_mul, ← sm_neg]
    refine sm_congr (fun i hi => ?_)
    show - (w * f (r - 1 - (r - 1 - i))) * s (n + r - 1 - (r - 1 - i)) = _
    rw [show r - 1 - (r - 1 - i) = i by omega, show n + r - 1 - (r - 1 - i) = n + i by omega]
    grind
  show s (n + r) = sm r (fun i => (fun i => - (w * f (r - 1 - i)) * s (n + r - 1 - i)) (r - 1 - i))
  rw [e]
  grind
/-- one power alone -/
def mo_ {K : Type} [Lean.Grind.CommRing K] (m : Nat) (a : K) : Nat → K := fun i => if i = m then a else 0
theorem mo_cv {K : Type} [Lean.Grind.CommRing K] (m : Nat) (a : K) (g : Nat → K) (n : Nat) : cv_ (mo_ m a) g n = if m ≤ n then a * g (n - m) else 0 := by
  unfold cv_
  by_cases h : m ≤ n
  · rw [if_pos h, sm_one (p := m) (by omega) (fun i hi hne => by unfold mo_; rw [if_neg hne]; grind)]
    unfold mo_
    rw [if_pos rfl]
  · rw [if_neg h]
    exact sm_zero (fun i hi => by unfold mo_; rw [if_neg (by omega)]; grind)
theorem dv_ {K : Type} [Lean.Grind.CommRing K] {g : Nat → K} {e : Nat} {w : K} (hg : sz_ g (e + 1)) (hw : g e * w = 1) (d : Nat) : ∀ f : Nat → K, sz_ f d → ∃ q rm : Nat → K, sz_ q d ∧ sz_ rm e ∧ ∀ n, f n = cv_ q g n + rm n := by
  induction d with
  | zero =>
    intro f hf
    refine ⟨fun _ => 0, fun _ => 0, fun _ _ => rfl, fun _ _ => rfl, fun n => ?_⟩
    rw [hf n (Nat.zero_le n)]
    have : cv_ (fun _ => (0 : K)) g n = 0 := sm_zero (fun i hi => by grind)
    rw [this]
    grind
  | succ d ih =>
    intro f hf
    by_cases hd : d < e
    · refine ⟨fun _ => 0, f, fun _ _ => rfl, fun i hi => hf i (by omega), fun n => ?_⟩
      have : cv_ (fun _ => (0 : K)) g n = 0 := sm_zero (fun i hi => by grind)
      rw [this]
      grind
    · obtain ⟨q, rm, h1, h2, h3⟩ := ih (fun n => f n - cv_ (mo_ (d - e) (f d * w)) g n) (fun i hi => by
        show f i - cv_ (mo_ (d - e) (f d * w)) g i = 0
        rw [mo_cv, if_pos (by omega)]
        by_cases hid : i = d
        · subst hid
          rw [show i - (i - e) = e by omega]
          grind
        · rw [hf i (by omega), hg (i - (d - e)) (by omega)]
          grind)
      refine ⟨fun i => q i + mo_ (d - e) (f d * w) i, rm, fun i hi => ?_, h2, fun n => ?_⟩
      · show q i + mo_ (d - e) (f d * w) i = 0
        rw [h1 i (by omega)]
        unfold mo_
        rw [if_neg (by omega)]
        grind
      · have := h3 n
        rw [cv_add]
        grind
/-- the least recurrence's polynomial divides all that bring the series to 0 -/
theorem lo_dvd {K : Type} [Lean.Grind.CommRing K] (hI : ∀ x : K, x ≠ 0 → ∃ y, x * y = 1) {s c f : Nat → K} {r d : Nat} (h : lo_ s r c) (hf : sz_ f d) (ha : ∀ n, ac_ f d s n = 0) : ∃ q, sz_ q d ∧ ∀ n, f n = cv_ q (pl_ r c) n := by
  obtain ⟨q, rm, h1, h2, h3⟩ := dv_ (w := 1) (pl_sz r c) (by rw [pl_top]; grind) d f hf
  have hrm : ∀ n, ac_ rm (d + (r + 1)) s n = 0 := by
    intro n
    have e1 := ac_lin (d + (r + 1)) h3 s n
    rw [ac_any hf (by omega), ha n, ac_cv h1 (pl_sz r c)] at e1
    rw [ac_zero (f := q) (k := d) (s := ac_ (pl_ r c) (r + 1) s) (fun n => by rw [pl_ac]; exact ob_iff.mp h.1 n)] at e1
    grind
  rcases sz_top h2 with h4 | ⟨t, h4, h5, h6⟩
  · exact ⟨q, h1, fun n => by rw [h3 n, h4 n]; grind⟩
  · obtain ⟨w, hw⟩ := hI _ h5
    exact absurd (pl_ob h6 hw (fun n => by rw [← ac_any h6 (show t + 1 ≤ d + (r + 1) by omega)]; exact hrm n)) (h.2 t _ h4)
/-- what two series share: G is a common divisor of their polynomials, and made of them -/
theorem sh_ {K : Type} [Lean.Grind.CommRing K] (hI : ∀ x : K, x ≠ 0 → ∃ y, x * y = 1) {a b ca cb G u v al be : Nat → K} {ra rb d N : Nat} (ha : lo_ a ra ca) (hb : lo_ b rb cb) (hG : sz_ G (d + 1)) (hG0 : G d ≠ 0)
    (hu : sz_ u N) (hv : sz_ v N) (hal : sz_ al N) (hbe : sz_ be N) (e1 : ∀ n, G n = cv_ u (pl_ ra ca) n + cv_ v (pl_ rb cb) n) (e2 : ∀ n, pl_ ra ca n = cv_ al G n) (e3 : ∀ n, pl_ rb cb n = cv_ be G n) :
    d ≤ ra ∧ (∃ c : Nat → K, ob (ra + rb - d) c a ∧ ob (ra + rb - d) c b) ∧ ∀ (r : Nat) (c : Nat → K), ob r c a → ob r c b → ra + rb - d ≤ r := by
  have hnz : ∀ x y : K, x ≠ 0 → y ≠ 0 → x * y ≠ 0 := by
    intro x y hx hy h
    obtain ⟨z, hz⟩ := hI x hx
    exact hy (by grind)
  have h10 : (1 : K) ≠ 0 := by
    intro h
    exact hG0 (by grind)
  -- al has the degree ra - d
  obtain ⟨t, ht, ht0, hts⟩ : ∃ t, t + d = ra ∧ al t ≠ 0 ∧ sz_ al (t + 1) := by
    rcases sz_top hal with h | ⟨t, h1, h2, h3⟩
    · have := e2 ra
      rw [pl_top] at this
      have h0 : cv_ al G ra = 0 := sm_zero (fun i hi => by rw [h i]; grind)
      exact absurd (this.trans h0) h10
    · obtain ⟨g1, g2⟩ := sz_cv h3 hG
      refine ⟨t, ?_, h2, h3⟩
      have g3 : pl_ ra ca (t + d) ≠ 0 := by rw [e2, g2]; exact hnz _ _ h2 hG0
      have g4 : t + d ≤ ra := Nat.le_of_not_lt (fun h => g3 (pl_sz ra ca _ (by omega)))
      have g5 : ra ≤ t + d := Nat.le_of_not_lt (fun h => h10 (by rw [← pl_top ra ca, e2 ra]; exact g1 ra (by omega)))
      omega
  refine ⟨by omega, ?_, fun r c hca hcb => ?_⟩
  · obtain ⟨g1, g2⟩ := sz_cv hts (pl_sz rb cb)
    rw [pl_top] at g2
    obtain ⟨w, hw⟩ := hI (cv_ al (pl_ rb cb) (t + rb)) (by rw [g2]; exact hnz _ _ ht0 h10)
    rw [show ra + rb - d = t + rb by omega]
    refine ⟨_, pl_ob g1 hw (fun n => ?_), pl_ob g1 hw (fun n => ?_)⟩
    · have e4 : cv_ al (pl_ rb cb) = cv_ be (pl_ ra ca) := by
        have x1 : pl_ rb cb = cv_ be G := funext e3
        have x2 : pl_ ra ca = cv_ al G := funext e2
        funext m
        rw [x1, x2, ← cv_assoc, ← cv_assoc]
        have x3 : cv_ al be = cv_ be al := funext (cv_comm al be)
        rw [x3]
      have h1 := ac_cv hbe (pl_sz ra ca) a n
      rw [ac_zero (f := be) (k := N) (s := ac_ (pl_ ra ca) (ra + 1) a) (fun n => by rw [pl_ac]; exact ob_iff.mp ha.1 n), ← e4] at h1
      have h2 := ac_any g1 (show t + rb + 1 ≤ (t + rb + 1) + (N + (ra + 1)) by omega) a n
      have h3 : sz_ (cv_ al (pl_ rb cb)) (N + (ra + 1)) := by rw [e4]; exact sz_cv0 hbe (pl_sz ra ca)
      have h4 := ac_any h3 (show N + (ra + 1) ≤ (t + rb + 1) + (N + (ra + 1)) by omega) a n
      rw [← h2, h4, h1]
    · have h1 := ac_cv hts (pl_sz rb cb) b n
      rw [ac_zero (f := al) (k := t + 1) (s := ac_ (pl_ rb cb) (rb + 1) b) (fun n => by rw [pl_ac]; exact ob_iff.mp hb.1 n)] at h1
      have h2 := ac_any g1 (show t + rb + 1 ≤ t + 1 + (rb + 1) by omega) b n
      rw [← h2, h1]
  · obtain ⟨h, hh, eh⟩ := lo_dvd hI ha (pl_sz r c) (fun n => by rw [pl_ac]; exact ob_iff.mp hca n)
    obtain ⟨k, hk, ek⟩ := lo_dvd hI hb (pl_sz r c) (fun n => by rw [pl_ac]; exact ob_iff.mp hcb n)
    -- f G = pa pb (k u + h v)
    have key : ∀ n, cv_ (pl_ r c) G n = cv_ (cv_ (pl_ ra ca) (pl_ rb cb)) (fun i => cv_ k u i + cv_ h v i) n := by
      intro n
      have xG : G = fun n => cv_ u (pl_ ra ca) n + cv_ v (pl_ rb cb) n := funext e1
      have y1 : cv_ (pl_ r c) G n = cv_ (pl_ r c) (cv_ u (pl_ ra ca)) n + cv_ (pl_ r c) (cv_ v (pl_ rb cb)) n := by
        rw [cv_comm, xG]
        show cv_ (fun i => cv_ u (pl_ ra ca) i + cv_ v (pl_ rb cb) i) (pl_ r c) n = _
        rw [cv_add, cv_comm, cv_comm (cv_ v (pl_ rb cb))]
      have f1 : pl_ r c = cv_ k (pl_ rb cb) := funext ek
      have f2 : pl_ r c = cv_ h (pl_ ra ca) := funext eh
      have c1 : cv_ u (pl_ ra ca) = cv_ (pl_ ra ca) u := funext (cv_comm _ _)
      have c2 : cv_ v (pl_ rb cb) = cv_ (pl_ rb cb) v := funext (cv_comm _ _)
      have c3 : cv_ k (pl_ rb cb) = cv_ (pl_ rb cb) k := funext (cv_comm _ _)
      have c4 : cv_ h (pl_ ra ca) = cv_ (pl_ ra ca) h := funext (cv_comm _ _)
      have c5 : cv_ (pl_ rb cb) (pl_ ra ca) = cv_ (pl_ ra ca) (pl_ rb cb) := funext (cv_comm _ _)
      have y2 : cv_ (pl_ r c) (cv_ u (pl_ ra ca)) n = cv_ (cv_ (pl_ ra ca) (pl_ rb cb)) (cv_ k u) n := by
        rw [f1, c1, c3]
        have z1 : cv_ (cv_ (pl_ rb cb) k) (cv_ (pl_ ra ca) u) = cv_ (cv_ (pl_ ra ca) (pl_ rb cb)) (cv_ k u) := by
          funext m
          have w1 : cv_ k (cv_ (pl_ ra ca) u) = cv_ (pl_ ra ca) (cv_ k u) := by
            funext j
            rw [← cv_assoc, ← cv_assoc]
            have : cv_ k (pl_ ra ca) = cv_ (pl_ ra ca) k := funext (cv_comm _ _)
            rw [this]
          rw [cv_assoc, w1, ← cv_assoc, c5]
        exact congrFun z1 n
      have y3 : cv_ (pl_ r c) (cv_ v (pl_ rb cb)) n = cv_ (cv_ (pl_ ra ca) (pl_ rb cb)) (cv_ h v) n := by
        rw [f2, c2, c4]
        have z1 : cv_ (cv_ (pl_ ra ca) h) (cv_ (pl_ rb cb) v) = cv_ (cv_ (pl_ ra ca) (pl_ rb cb)) (cv_ h v) := by
          funext m
          have w1 : cv_ h (cv_ (pl_ rb cb) v) = cv_ (pl_ rb cb) (cv_ h v) := by
            funext j
            rw [← cv_assoc, ← cv_assoc]
            have : cv_ h (pl_ rb cb) = cv_ (pl_ rb cb) h := funext (cv_comm _ _)
            rw [this]
          rw [cv_assoc, w1, ← cv_assoc]
        exact congrFun z1 n
      rw [y1, y2, y3, cv_comm (cv_ (pl_ ra ca) (pl_ rb cb)) (fun i => cv_ k u i + cv_ h v i), cv_add, cv_comm (cv_ k u), cv_comm (cv_ h v)]
    obtain ⟨p1, p2⟩ := sz_cv (pl_sz r c) hG
    rw [pl_top] at p2
    obtain ⟨q1, q2⟩ := sz_cv (pl_sz ra ca) (pl_sz rb cb)
    rw [pl_top, pl_top] at q2
    have hW : sz_ (fun i => cv_ k u i + cv_ h v i) (r + 1 + N) := fun i hi => by
      show cv_ k u i + cv_ h v i = 0
      rw [sz_cv0 hk hu i hi, sz_cv0 hh hv i hi]
      grind
    rcases sz_top hW with h0 | ⟨t2, k1, k2, k3⟩
    · exfalso
      have : cv_ (pl_ r c) G (r + d) = 0 := by
        rw [key]
        exact sm_zero (fun i hi => by dsimp only; rw [h0]; grind)
      rw [p2] at this
      exact hnz _ _ h10 hG0 this
    · obtain ⟨s1, s2⟩ := sz_cv q1 k3
      rw [q2] at s2
      have h5 : cv_ (pl_ r c) G (ra + rb + t2) ≠ 0 := by
        rw [key, s2]
        exact hnz _ _ (hnz _ _ h10 h10) k2
      have h6 : ra + rb + t2 ≤ r + d := Nat.le_of_not_lt (fun hlt => h5 (p1 _ (by omega)))
      omega
end
section
/-! The programs' own sums, in numbers below 2147483647 -/
def fo_ (c v : Nat → Nat) (n : Nat) : Nat → Nat
  | 0 => 0
  | i + 1 => (fo_ c v n i + c i * v (n - 1 - i)) % 2147483647
theorem fo_lt (c v : Nat → Nat) (n r : Nat) : fo_ c v n r < 2147483647 := by
  cases r with
  | zero => show 0 < 2147483647; omega
  | succ r => exact Nat.mod_lt _ (by omega)
theorem fo_ph (c v : Nat → Nat) (n r : Nat) : ph (fo_ c v n r) = sm r (fun i => ph (c i) * ph (v (n - 1 - i))) := by
  induction r with
  | zero => rfl
  | succ r ih => show ph ((fo_ c v n r + c r * v (n - 1 - r)) % 2147483647) = _; rw [ph_mod, ph_add, ph_mul, ih, sm_s]
theorem fo_congr {c c' v v' : Nat → Nat} {n r : Nat} (hc : ∀ i, i < r → c i = c' i) (hv : ∀ i, i < r → v (n - 1 - i) = v' (n - 1 - i)) : fo_ c v n r = fo_ c' v' n r := by
  induction r with
  | zero => rfl
  | succ r ih =>
    show (fo_ c v n r + c r * v (n - 1 - r)) % 2147483647 = (fo_ c' v' n r + c' r * v' (n - 1 - r)) % 2147483647
    rw [ih (fun i hi => hc i (by omega)) (fun i hi => hv i (by omega)), hc r (by omega), hv r (by omega)]
/-- a series of numbers: its first o terms f, and the coefficients c -/
def wt_ (o : Nat) (c f : Nat → Nat) : Nat → Nat → Nat
  | 0 => fun _ => 0
  | n + 1 => va_up (wt_ o c f n) n (if n < o then f n else fo_ c (wt_ o c f n) n o)
def se_ (o : Nat) (c f : Nat → Nat) (n : Nat) : Nat := wt_ o c f (n + 1) n
theorem wt_se (o : Nat) (c f : Nat → Nat) : ∀ m j, j < m → wt_ o c f m j = se_ o c f j := by
  intro m
  induction m with
  | zero => intro j hj; omega
  | succ m ih =>
    intro j hj
    by_cases hjm : j = m
    · subst hjm; rfl
    · show va_up (wt_ o c f m) m _ j = _
      rw [va_up, if_neg hjm]
      exact ih j (by omega)
theorem se_lo {o : Nat} {c f : Nat → Nat} {n : Nat} (h : n < o) : se_ o c f n = f n := by
  show va_up (wt_ o c f n) n _ n = _
  rw [va_up, if_pos rfl, if_pos h]
theorem se_hi {o : Nat} {c f : Nat → Nat} {n : Nat} (h : o ≤ n) : se_ o c f n = fo_ c (se_ o c f) n o := by
  show va_up (wt_ o c f n) n _ n = _
  rw [va_up, if_pos rfl, if_neg (by omega)]
  exact fo_congr (fun _ _ => rfl) (fun i hi => wt_se o c f n _ (by omega))
theorem se_ob (o : Nat) (c f : Nat → Nat) : ob o (fun i => ph (c i)) (fun n => ph (se_ o c f n)) := by
  intro n
  show ph (se_ o c f (n + o)) = _
  rw [se_hi (by omega), fo_ph]
end
section
/-! More rows: shifts, masks, compares of longs, counting down -/
theorem zr_sm : ∀ k, k < 64 → (((nI k).toInt64 &&& 63).toBitVec.smod 64).toNat = k := by decide +kernel
theorem zr_shr {a k : Nat} (ha : a < 2 ^ 63) (hk : k < 64) : lN a >>> ((nI k).toInt64 &&& 63) = lN (a / 2 ^ k) := by
  have hd : a / 2 ^ k ≤ a := Nat.div_le_self _ _
  apply Int64.toInt_inj.mp
  have e : (lN a >>> ((nI k).toInt64 &&& 63)).toInt = (lN a).toInt >>> k := by
    have h := zr_sm k hk
    generalize (nI k).toInt64 &&& 63 = D at h
    rw [← h]
    exact BitVec.toInt_sshiftRight ..
  rw [e, Int.shiftRight_eq_div_pow, pk_lT ha, pk_lT (by omega)]
  rfl
theorem zr_and1 {n : Nat} (hn : n < 2 ^ 63) : lN n &&& lN 1 = lN (n % 2) := by
  apply Int64.toBitVec_inj.mp
  rw [Int64.toBitVec_and]
  show BitVec.ofNat 64 n &&& BitVec.ofNat 64 1 = BitVec.ofNat 64 (n % 2)
  apply BitVec.eq_of_toNat_eq
  rw [BitVec.toNat_and, BitVec.toNat_ofNat, BitVec.toNat_ofNat, BitVec.toNat_ofNat, Nat.mod_eq_of_lt (show n < 2 ^ 64 by omega), Nat.mod_eq_of_lt (show 1 < 2 ^ 64 by decide), Nat.mod_eq_of_lt (show n % 2 < 2 ^ 64 by omega)]
  exact Nat.and_one_is_mod n
theorem zr_iand1 {n : Nat} (hn : n < 2 ^ 31) : nI n &&& nI 1 = nI (n % 2) := by
  have := pk_andN (n := n) (by omega) (m := nI 1) 1 (by decide)
  exact this
section ZM
variable {M : zMI} {Po : Option Value → Nat → zWd → Prop} {kc ks n pc q : Nat} {σ : zWd} {lv : List (Option Value)} {st : List Value}
theorem zn_lshr {x y : Nat} (hd : decode (mB M) pc = .ok (.lshr, 1)) (hq : pc + 1 = q) (hx : x < 2 ^ 63) (hy : y < 64) (k : Z M Po kc ks n σ q lv (.long (lN (x / 2 ^ y)) :: st)) : Z M Po kc ks n σ pc lv (.int (nI y) :: .long (lN x) :: st) := z_lshr hd hq (by rw [zr_shr hx hy]; exact k)
theorem zn_land1 {x : Nat} (hd : decode (mB M) pc = .ok (.land, 1)) (hq : pc + 1 = q) (hx : x < 2 ^ 63) (k : Z M Po kc ks n σ q lv (.long (lN (x % 2)) :: st)) : Z M Po kc ks n σ pc lv (.long (lN 1) :: .long (lN x) :: st) := z_land hd hq (by rw [zr_and1 hx]; exact k)
theorem zn_iand1 {x : Nat} (hd : decode (mB M) pc = .ok (.iand, 1)) (hq : pc + 1 = q) (hx : x < 2 ^ 31) (k : Z M Po kc ks n σ q lv (.int (nI (x % 2)) :: st)) : Z M Po kc ks n σ pc lv (.int (nI 1) :: .int (nI x) :: st) := z_iand hd hq (by rw [zr_iand1 hx]; exact k)
theorem zc_if_eq {x y : Nat} {off : Int} {tgt : Nat} (hd : decode (mB M) pc = .ok (.ifCond .eq off, 3)) (hq : pc + 3 = q) (ht : (pc : Int) + off = (tgt : Int)) (hx : x < 2 ^ 63) (hy : y < 2 ^ 63) (kt : x = y → Z M Po kc ks n σ tgt lv st) (kf : ¬ (x = y) → Z M Po kc ks n σ q lv st) : Z M Po kc ks n σ pc lv (.int (lg_cmp (lN x) (lN y)) :: st) := z_if_eq hd hq ht (fun h => kt (((lg_cmp_eq _ _).trans (pk_lEQ hx hy)).mp h)) (fun h => kf (fun g => h (((lg_cmp_eq _ _).trans (pk_lEQ hx hy)).mpr g)))
theorem zc_if_lt {x y : Nat} {off : Int} {tgt : Nat} (hd : decode (mB M) pc = .ok (.ifCond .lt off, 3)) (hq : pc + 3 = q) (ht : (pc : Int) + off = (tgt : Int)) (hx : x < 2 ^ 63) (hy : y < 2 ^ 63) (kt : x < y → Z M Po kc ks n σ tgt lv st) (kf : ¬ (x < y) → Z M Po kc ks n σ q lv st) : Z M Po kc ks n σ pc lv (.int (lg_cmp (lN x) (lN y)) :: st) := z_if_lt hd hq ht (fun h => kt (((lg_cmp_lt _ _).trans (pk_lLT hx hy)).mp h)) (fun h => kf (fun g => h (((lg_cmp_lt _ _).trans (pk_lLT hx hy)).mpr g)))
theorem zc_if_ge {x y : Nat} {off : Int} {tgt : Nat} (hd : decode (mB M) pc = .ok (.ifCond .ge off, 3)) (hq : pc + 3 = q) (ht : (pc : Int) + off = (tgt : Int)) (hx : x < 2 ^ 63) (hy : y < 2 ^ 63) (kt : y ≤ x → Z M Po kc ks n σ tgt lv st) (kf : ¬ (y ≤ x) → Z M Po kc ks n σ q lv st) : Z M Po kc ks n σ pc lv (.int (lg_cmp (lN x) (lN y)) :: st) := z_if_ge hd hq ht (fun h => kt (((lg_cmp_ge _ _).trans (pk_lLE hy hx)).mp h)) (fun h => kf (fun g => h (((lg_cmp_ge _ _).trans (pk_lLE hy hx)).mpr g)))
theorem zc_if_gt {x y : Nat} {off : Int} {tgt : Nat} (hd : decode (mB M) pc = .ok (.ifCond .gt off, 3)) (hq : pc + 3 = q) (ht : (pc : Int) + off = (tgt : Int)) (hx : x < 2 ^ 63) (hy : y < 2 ^ 63) (kt : y < x → Z M Po kc ks n σ tgt lv st) (kf : ¬ (y < x) → Z M Po kc ks n σ q lv st) : Z M Po kc ks n σ pc lv (.int (lg_cmp (lN x) (lN y)) :: st) := z_if_gt hd hq ht (fun h => kt (((lg_cmp_gt _ _).trans (pk_lLT hy hx)).mp h)) (fun h => kf (fun g => h (((lg_cmp_gt _ _).trans (pk_lLT hy hx)).mpr g)))
theorem zc_if_le {x y : Nat} {off : Int} {tgt : Nat} (hd : decode (mB M) pc = .ok (.ifCond .le off, 3)) (hq : pc + 3 = q) (ht : (pc : Int) + off = (tgt : Int)) (hx : x < 2 ^ 63) (hy : y < 2 ^ 63) (kt : x ≤ y → Z M Po kc ks n σ tgt lv st) (kf : ¬ (x ≤ y) → Z M Po kc ks n σ q lv st) : Z M Po kc ks n σ pc lv (.int (lg_cmp (lN x) (lN y)) :: st) := z_if_le hd hq ht (fun h => kt (((lg_cmp_le _ _).trans (pk_lLE hx hy)).mp h)) (fun h => kf (fun g => h (((lg_cmp_le _ _).trans (pk_lLE hx hy)).mpr g)))
theorem zc_if_ne {x y : Nat} {off : Int} {tgt : Nat} (hd : decode (mB M) pc = .ok (.ifCond .ne off, 3)) (hq : pc + 3 = q) (ht : (pc : Int) + off = (tgt : Int)) (hx : x < 2 ^ 63) (hy : y < 2 ^ 63) (kt : ¬ x = y → Z M Po kc ks n σ tgt lv st) (kf : x = y → Z M Po kc ks n σ q lv st) : Z M Po kc ks n σ pc lv (.int (lg_cmp (lN x) (lN y)) :: st) := z_if_ne hd hq ht (fun h => kt (fun g => h (((lg_cmp_eq _ _).trans (pk_lEQ hx hy)).mpr g))) (fun h => kf (((lg_cmp_eq _ _).trans (pk_lEQ hx hy)).mp h))
theorem zi_if_eq {x : Nat} {off : Int} {tgt : Nat} (hd : decode (mB M) pc = .ok (.ifCond .eq off, 3)) (hq : pc + 3 = q) (ht : (pc : Int) + off = (tgt : Int)) (hx : x < 2 ^ 31) (kt : x = 0 → Z M Po kc ks n σ tgt lv st) (kf : ¬ x = 0 → Z M Po kc ks n σ q lv st) : Z M Po kc ks n σ pc lv (.int (nI x) :: st) := z_if_eq hd hq ht (fun h => kt ((nI_eq hx (by decide)).mp (h.trans nI_0.symm))) (fun h => kf (fun g => h (by rw [g]; rfl)))
theorem zi_if_ne {x : Nat} {off : Int} {tgt : Nat} (hd : decode (mB M) pc = .ok (.ifCond .ne off, 3)) (hq : pc + 3 = q) (ht : (pc : Int) + off = (tgt : Int)) (hx : x < 2 ^ 31) (kt : ¬ x = 0 → Z M Po kc ks n σ tgt lv st) (kf : x = 0 → Z M Po kc ks n σ q lv st) : Z M Po kc ks n σ pc lv (.int (nI x) :: st) := z_if_ne hd hq ht (fun h => kt (fun g => h (by rw [g]; rfl))) (fun h => kf ((nI_eq hx (by decide)).mp (h.trans nI_0.symm)))
theorem zi_if_ge {x : Nat} {off : Int} {tgt : Nat} (hd : decode (mB M) pc = .ok (.ifCond .ge off, 3)) (ht : (pc : Int) + off = (tgt : Int)) (hx : x < 2 ^ 31) (kt : Z M Po kc ks n σ tgt lv st) : Z M Po kc ks n σ pc lv (.int (nI x) :: st) := z_if_ge hd rfl ht (fun _ => kt) (fun h => absurd (nI_pos' hx) h)
theorem zi_if_lt {x : Nat} {off : Int} (hd : decode (mB M) pc = .ok (.ifCond .lt off, 3)) {tgt : Nat} (hq : pc + 3 = q) (ht : (pc : Int) + off = (tgt : Int)) (hx : x < 2 ^ 31) (kf : Z M Po kc ks n σ q lv st) : Z M Po kc ks n σ pc lv (.int (nI x) :: st) := z_if_lt hd hq ht (fun h => absurd h (nI_pos hx)) (fun _ => kf)
theorem zn_idec0 {t : List (Option Value)} {x : Nat} (hd : decode (mB M) pc = .ok (.iinc 0 (-1), 3)) (hq : pc + 3 = q) (k : Z M Po kc ks n σ q (some (.int (nI x)) :: t) st) : Z M Po kc ks n σ pc (some (.int (nI (x + 1))) :: t) st := z_iinc (i := 0) hd rfl (pk_m1 x) (by simp only [List.length_cons]; omega) rfl hq k
theorem zn_idec1 {a0 : Option Value} {t : List (Option Value)} {x : Nat} (hd : decode (mB M) pc = .ok (.iinc 1 (-1), 3)) (hq : pc + 3 = q) (hk : zn2 a0 = true) (k : Z M Po kc ks n σ q (a0 :: some (.int (nI x)) :: t) st) : Z M Po kc ks n σ pc (a0 :: some (.int (nI (x + 1))) :: t) st := z_iinc (i := 1) hd rfl (pk_m1 x) (by simp only [List.length_cons]; omega) hk hq k
theorem zn_idec2 {a0 a1 : Option Value} {t : List (Option Value)} {x : Nat} (hd : decode (mB M) pc = .ok (.iinc 2 (-1), 3)) (hq : pc + 3 = q) (hk : zn2 a1 = true) (k : Z M Po kc ks n σ q (a0 :: a1 :: some (.int (nI x)) :: t) st) : Z M Po kc ks n σ pc (a0 :: a1 :: some (.int (nI (x + 1))) :: t) st := z_iinc (i := 2) hd rfl (pk_m1 x) (by simp only [List.length_cons]; omega) hk hq k
theorem zn_idec3 {a0 a1 a2 : Option Value} {t : List (Option Value)} {x : Nat} (hd : decode (mB M) pc = .ok (.iinc 3 (-1), 3)) (hq : pc + 3 = q) (hk : zn2 a2 = true) (k : Z M Po kc ks n σ q (a0 :: a1 :: a2 :: some (.int (nI x)) :: t) st) : Z M Po kc ks n σ pc (a0 :: a1 :: a2 :: some (.int (nI (x + 1))) :: t) st := z_iinc (i := 3) hd rfl (pk_m1 x) (by simp only [List.length_cons]; omega) hk hq k
theorem zn_idec4 {a0 a1 a2 a3 : Option Value} {t : List (Option Value)} {x : Nat} (hd : decode (mB M) pc = .ok (.iinc 4 (-1), 3)) (hq : pc + 3 = q) (hk : zn2 a3 = true) (k : Z M Po kc ks n σ q (a0 :: a1 :: a2 :: a3 :: some (.int (nI x)) :: t) st) : Z M Po kc ks n σ pc (a0 :: a1 :: a2 :: a3 :: some (.int (nI (x + 1))) :: t) st := z_iinc (i := 4) hd rfl (pk_m1 x) (by simp only [List.length_cons]; omega) hk hq k
theorem zn_idec5 {a0 a1 a2 a3 a4 : Option Value} {t : List (Option Value)} {x : Nat} (hd : decode (mB M) pc = .ok (.iinc 5 (-1), 3)) (hq : pc + 3 = q) (hk : zn2 a4 = true) (k : Z M Po kc ks n σ q (a0 :: a1 :: a2 :: a3 :: a4 :: some (.int (nI x)) :: t) st) : Z M Po kc ks n σ pc (a0 :: a1 :: a2 :: a3 :: a4 :: some (.int (nI (x + 1))) :: t) st := z_iinc (i := 5) hd rfl (pk_m1 x) (by simp only [List.length_cons]; omega) hk hq k
theorem zn_idec6 {a0 a1 a2 a3 a4 a5 : Option Value} {t : List (Option Value)} {x : Nat} (hd : decode (mB M) pc = .ok (.iinc 6 (-1), 3)) (hq : pc + 3 = q) (hk : zn2 a5 = true) (k : Z M Po kc ks n σ q (a0 :: a1 :: a2 :: a3 :: a4 :: a5 :: some (.int (nI x)) :: t) st) : Z M Po kc ks n σ pc (a0 :: a1 :: a2 :: a3 :: a4 :: a5 :: some (.int (nI (x + 1))) :: t) st := z_iinc (i := 6) hd rfl (pk_m1 x) (by simp only [List.length_cons]; omega) hk hq k
theorem zn_idec7 {a0 a1 a2 a3 a4 a5 a6 : Option Value} {t : List (Option Value)} {x : Nat} (hd : decode (mB M) pc = .ok (.iinc 7 (-1), 3)) (hq : pc + 3 = q) (hk : zn2 a6 = true) (k : Z M Po kc ks n σ q (a0 :: a1 :: a2 :: a3 :: a4 :: a5 :: a6 :: some (.int (nI x)) :: t) st) : Z M Po kc ks n σ pc (a0 :: a1 :: a2 :: a3 :: a4 :: a5 :: a6 :: some (.int (nI (x + 1))) :: t) st := z_iinc (i := 7) hd rfl (pk_m1 x) (by simp only [List.length_cons]; omega) hk hq k
theorem zn_idec8 {a0 a1 a2 a3 a4 a5 a6 a7 : Option Value} {t : List (Option Value)} {x : Nat} (hd : decode (mB M) pc = .ok (.iinc 8 (-1), 3)) (hq : pc + 3 = q) (hk : zn2 a7 = true) (k : Z M Po kc ks n σ q (a0 :: a1 :: a2 :: a3 :: a4 :: a5 :: a6 :: a7 :: some (.int (nI x)) :: t) st) : Z M Po kc ks n σ pc (a0 :: a1 :: a2 :: a3 :: a4 :: a5 :: a6 :: a7 :: some (.int (nI (x + 1))) :: t) st := z_iinc (i := 8) hd rfl (pk_m1 x) (by simp only [List.length_cons]; omega) hk hq k
theorem zn_idec9 {a0 a1 a2 a3 a4 a5 a6 a7 a8 : Option Value} {t : List (Option Value)} {x : Nat} (hd : decode (mB M) pc = .ok (.iinc 9 (-1), 3)) (hq : pc + 3 = q) (hk : zn2 a8 = true) (k : Z M Po kc ks n σ q (a0 :: a1 :: a2 :: a3 :: a4 :: a5 :: a6 :: a7 :: a8 :: some (.int (nI x)) :: t) st) : Z M Po kc ks n σ pc (a0 :: a1 :: a2 :: a3 :: a4 :: a5 :: a6 :: a7 :: a8 :: some (.int (nI (x + 1))) :: t) st := z_iinc (i := 9) hd rfl (pk_m1 x) (by simp only [List.length_cons]; omega) hk hq k
theorem zn_idec10 {a0 a1 a2 a3 a4 a5 a6 a7 a8 a9 : Option Value} {t : List (Option Value)} {x : Nat} (hd : decode (mB M) pc = .ok (.iinc 10 (-1), 3)) (hq : pc + 3 = q) (hk : zn2 a9 = true) (k : Z M Po kc ks n σ q (a0 :: a1 :: a2 :: a3 :: a4 :: a5 :: a6 :: a7 :: a8 :: a9 :: some (.int (nI x)) :: t) st) : Z M Po kc ks n σ pc (a0 :: a1 :: a2 :: a3 :: a4 :: a5 :: a6 :: a7 :: a8 :: a9 :: some (.int (nI (x + 1))) :: t) st := z_iinc (i := 10) hd rfl (pk_m1 x) (by simp only [List.length_cons]; omega) hk hq k
theorem zn_idec11 {a0 a1 a2 a3 a4 a5 a6 a7 a8 a9 a10 : Option Value} {t : List (Option Value)} {x : Nat} (hd : decode (mB M) pc = .ok (.iinc 11 (-1), 3)) (hq : pc + 3 = q) (hk : zn2 a10 = true) (k : Z M Po kc ks n σ q (a0 :: a1 :: a2 :: a3 :: a4 :: a5 :: a6 :: a7 :: a8 :: a9 :: a10 :: some (.int (nI x)) :: t) st) : Z M Po kc ks n σ pc (a0 :: a1 :: a2 :: a3 :: a4 :: a5 :: a6 :: a7 :: a8 :: a9 :: a10 :: some (.int (nI (x + 1))) :: t) st := z_iinc (i := 11) hd rfl (pk_m1 x) (by simp only [List.length_cons]; omega) hk hq k
theorem zn_idec12 {a0 a1 a2 a3 a4 a5 a6 a7 a8 a9 a10 a11 : Option Value} {t : List (Option Value)} {x : Nat} (hd : decode (mB M) pc = .ok (.iinc 12 (-1), 3)) (hq : pc + 3 = q) (hk : zn2 a11 = true) (k : Z M Po kc ks n σ q (a0 :: a1 :: a2 :: a3 :: a4 :: a5 :: a6 :: a7 :: a8 :: a9 :: a10 :: a11 :: some (.int (nI x)) :: t) st) : Z M Po kc ks n σ pc (a0 :: a1 :: a2 :: a3 :: a4 :: a5 :: a6 :: a7 :: a8 :: a9 :: a10 :: a11 :: some (.int (nI (x + 1))) :: t) st := z_iinc (i := 12) hd rfl (pk_m1 x) (by simp only [List.length_cons]; omega) hk hq k
theorem zn_idec13 {a0 a1 a2 a3 a4 a5 a6 a7 a8 a9 a10 a11 a12 : Option Value} {t : List (Option Value)} {x : Nat} (hd : decode (mB M) pc = .ok (.iinc 13 (-1), 3)) (hq : pc + 3 = q) (hk : zn2 a12 = true) (k : Z M Po kc ks n σ q (a0 :: a1 :: a2 :: a3 :: a4 :: a5 :: a6 :: a7 :: a8 :: a9 :: a10 :: a11 :: a12 :: some (.int (nI x)) :: t) st) : Z M Po kc ks n σ pc (a0 :: a1 :: a2 :: a3 :: a4 :: a5 :: a6 :: a7 :: a8 :: a9 :: a10 :: a11 :: a12 :: some (.int (nI (x + 1))) :: t) st := z_iinc (i := 13) hd rfl (pk_m1 x) (by simp only [List.length_cons]; omega) hk hq k
theorem zn_idec14 {a0 a1 a2 a3 a4 a5 a6 a7 a8 a9 a10 a11 a12 a13 : Option Value} {t : List (Option Value)} {x : Nat} (hd : decode (mB M) pc = .ok (.iinc 14 (-1), 3)) (hq : pc + 3 = q) (hk : zn2 a13 = true) (k : Z M Po kc ks n σ q (a0 :: a1 :: a2 :: a3 :: a4 :: a5 :: a6 :: a7 :: a8 :: a9 :: a10 :: a11 :: a12 :: a13 :: some (.int (nI x)) :: t) st) : Z M Po kc ks n σ pc (a0 :: a1 :: a2 :: a3 :: a4 :: a5 :: a6 :: a7 :: a8 :: a9 :: a10 :: a11 :: a12 :: a13 :: some (.int (nI (x + 1))) :: t) st := z_iinc (i := 14) hd rfl (pk_m1 x) (by simp only [List.length_cons]; omega) hk hq k
theorem zn_idec15 {a0 a1 a2 a3 a4 a5 a6 a7 a8 a9 a10 a11 a12 a13 a14 : Option Value} {t : List (Option Value)} {x : Nat} (hd : decode (mB M) pc = .ok (.iinc 15 (-1), 3)) (hq : pc + 3 = q) (hk : zn2 a14 = true) (k : Z M Po kc ks n σ q (a0 :: a1 :: a2 :: a3 :: a4 :: a5 :: a6 :: a7 :: a8 :: a9 :: a10 :: a11 :: a12 :: a13 :: a14 :: some (.int (nI x)) :: t) st) : Z M Po kc ks n σ pc (a0 :: a1 :: a2 :: a3 :: a4 :: a5 :: a6 :: a7 :: a8 :: a9 :: a10 :: a11 :: a12 :: a13 :: a14 :: some (.int (nI (x + 1))) :: t) st := z_iinc (i := 15) hd rfl (pk_m1 x) (by simp only [List.length_cons]; omega) hk hq k
theorem zn_idec16 {a0 a1 a2 a3 a4 a5 a6 a7 a8 a9 a10 a11 a12 a13 a14 a15 : Option Value} {t : List (Option Value)} {x : Nat} (hd : decode (mB M) pc = .ok (.iinc 16 (-1), 3)) (hq : pc + 3 = q) (hk : zn2 a15 = true) (k : Z M Po kc ks n σ q (a0 :: a1 :: a2 :: a3 :: a4 :: a5 :: a6 :: a7 :: a8 :: a9 :: a10 :: a11 :: a12 :: a13 :: a14 :: a15 :: some (.int (nI x)) :: t) st) : Z M Po kc ks n σ pc (a0 :: a1 :: a2 :: a3 :: a4 :: a5 :: a6 :: a7 :: a8 :: a9 :: a10 :: a11 :: a12 :: a13 :: a14 :: a15 :: some (.int (nI (x + 1))) :: t) st := z_iinc (i := 16) hd rfl (pk_m1 x) (by simp only [List.length_cons]; omega) hk hq k
theorem zn_idec17 {a0 a1 a2 a3 a4 a5 a6 a7 a8 a9 a10 a11 a12 a13 a14 a15 a16 : Option Value} {t : List (Option Value)} {x : Nat} (hd : decode (mB M) pc = .ok (.iinc 17 (-1), 3)) (hq : pc + 3 = q) (hk : zn2 a16 = true) (k : Z M Po kc ks n σ q (a0 :: a1 :: a2 :: a3 :: a4 :: a5 :: a6 :: a7 :: a8 :: a9 :: a10 :: a11 :: a12 :: a13 :: a14 :: a15 :: a16 :: some (.int (nI x)) :: t) st) : Z M Po kc ks n σ pc (a0 :: a1 :: a2 :: a3 :: a4 :: a5 :: a6 :: a7 :: a8 :: a9 :: a10 :: a11 :: a12 :: a13 :: a14 :: a15 :: a16 :: some (.int (nI (x + 1))) :: t) st := z_iinc (i := 17) hd rfl (pk_m1 x) (by simp only [List.length_cons]; omega) hk hq k
end ZM
end
section
/-! RecurrentSeries.Numbers -/
theorem ct_plus (n : Nat) (σ : zWd) {a b : Nat} (ha : a < 2147483647) (hb : b < 2147483647) : Ct m_nu_plus [.long (lN a), .long (lN b)] n σ (zEq (some (.long (lN ((a + b) % 2147483647)))) n σ) := by
  refine Ct.of (lv := [some (.long (lN a)), none, some (.long (lN b)), none]) 0 (by decide) rfl (Nat.le_of_ble_eq_true rfl) ?_
  refine z_lld0 (q := 1) d_nu_plus_0 rfl ?_
  refine z_lld2 (q := 2) d_nu_plus_1 rfl ?_
  first | refine zn_ladd (q := 3) d_nu_plus_2 rfl ?_ | refine z_ladd (q := 3) d_nu_plus_2 rfl ?_
  refine z_ldc2 (q := 6) d_nu_plus_3 rfl cl_nu_9 ?_
  refine zn_lrem (q := 7) d_nu_plus_6 rfl (by omega) (by omega) (by omega) ?_
  exact z_lret d_nu_plus_7 rfl (Nat.le_refl _) (Nat.le_refl _) ⟨rfl, rfl, rfl⟩
theorem ct_minus (n : Nat) (σ : zWd) {a b : Nat} (ha : a < 2147483647) (hb : b < 2147483647) : Ct m_nu_minus [.long (lN a), .long (lN b)] n σ (zEq (some (.long (lN ((a + 2147483647 - b) % 2147483647)))) n σ) := by
  refine Ct.of (lv := [some (.long (lN a)), none, some (.long (lN b)), none]) 0 (by decide) rfl (Nat.le_of_ble_eq_true rfl) ?_
  refine z_lld0 (q := 1) d_nu_minus_0 rfl ?_
  refine z_ldc2 (q := 4) d_nu_minus_1 rfl cl_nu_9 ?_
  first | refine zn_ladd (q := 5) d_nu_minus_4 rfl ?_ | refine z_ladd (q := 5) d_nu_minus_4 rfl ?_
  refine z_lld2 (q := 6) d_nu_minus_5 rfl ?_
  first | refine zn_lsub (q := 7) d_nu_minus_6 rfl (by omega) ?_ | refine z_lsub (q := 7) d_nu_minus_6 rfl ?_
  refine z_ldc2 (q := 10) d_nu_minus_7 rfl cl_nu_9 ?_
  refine zn_lrem (q := 11) d_nu_minus_10 rfl (by omega) (by omega) (by omega) ?_
  exact z_lret d_nu_minus_11 rfl (Nat.le_refl _) (Nat.le_refl _) ⟨rfl, rfl, rfl⟩
theorem mul_lt {a b : Nat} (ha : a < 2147483647) (hb : b < 2147483647) : a * b ≤ 4611686009837453316 := Nat.mul_le_mul (Nat.le_of_lt_succ ha) (Nat.le_of_lt_succ hb)
theorem ct_times (n : Nat) (σ : zWd) {a b : Nat} (ha : a < 2147483647) (hb : b < 2147483647) : Ct m_nu_times [.long (lN a), .long (lN b)] n σ (zEq (some (.long (lN (a * b % 2147483647)))) n σ) := by
  have hm := mul_lt ha hb
  refine Ct.of (lv := [some (.long (lN a)), none, some (.long (lN b)), none]) 0 (by decide) rfl (Nat.le_of_ble_eq_true rfl) ?_
  refine z_lld0 (q := 1) d_nu_times_0 rfl ?_
  refine z_lld2 (q := 2) d_nu_times_1 rfl ?_
  first | refine zn_lmul (q := 3) d_nu_times_2 rfl ?_ | refine z_lmul (q := 3) d_nu_times_2 rfl ?_
  refine z_ldc2 (q := 6) d_nu_times_3 rfl cl_nu_9 ?_
  refine zn_lrem (q := 7) d_nu_times_6 rfl (by omega) (by omega) (by omega) ?_
  exact z_lret d_nu_times_7 rfl (Nat.le_refl _) (Nat.le_refl _) ⟨rfl, rfl, rfl⟩
theorem ct_plusTimes (n : Nat) (σ : zWd) {a b c : Nat} (ha : a < 2147483647) (hb : b < 2147483647) (hc : c < 2147483647) : Ct m_nu_plusTimes [.long (lN a), .long (lN b), .long (lN c)] n σ (zEq (some (.long (lN ((a + b * c) % 2147483647)))) n σ) := by
  have hm := mul_lt hb hc
  refine Ct.of (lv := [some (.long (lN a)), none, some (.long (lN b)), none, some (.long (lN c)), none]) 0 (by decide) rfl (Nat.le_of_ble_eq_true rfl) ?_
  refine z_lld0 (q := 1) d_nu_plusTimes_0 rfl ?_
  refine z_lld2 (q := 2) d_nu_plusTimes_1 rfl ?_
  refine z_lld4 (q := 4) d_nu_plusTimes_2 rfl ?_
  first | refine zn_lmul (q := 5) d_nu_plusTimes_4 rfl ?_ | refine z_lmul (q := 5) d_nu_plusTimes_4 rfl ?_
  first | refine zn_ladd (q := 6) d_nu_plusTimes_5 rfl ?_ | refine z_ladd (q := 6) d_nu_plusTimes_5 rfl ?_
  refine z_ldc2 (q := 9) d_nu_plusTimes_6 rfl cl_nu_9 ?_
  refine zn_lrem (q := 10) d_nu_plusTimes_9 rfl (by omega) (by omega) (by omega) ?_
  exact z_lret d_nu_plusTimes_10 rfl (Nat.le_refl _) (Nat.le_refl _) ⟨rfl, rfl, rfl⟩
theorem ct_foretold {n : Nat} {σ : zWd} {i j Nc Nv r k : Nat} {c v : Nat → Nat} (hc : σ i = zN Nc c) (hv : σ j = zN Nv v) (hi : i < n) (hj : j < n) (hNc : Nc < 10000) (hNv : Nv < 10000) (hr : r ≤ Nc) (hk : k ≤ Nv) (hrk : r ≤ k) (hcP : ∀ x, c x < 2147483647) (hvP : ∀ x, v x < 2147483647) : Ct m_nu_foretold [.ref i, .int (nI r), .ref j, .int (nI k)] n σ (zEq (some (.long (lN (fo_ c v k r)))) n σ) := by
  refine Ct.of (lv := [some (.ref i), some (.int (nI r)), some (.ref j), some (.int (nI k)), none, none, none]) 3 (by decide) rfl (Nat.le_of_ble_eq_true rfl) ?_
  refine z_lconst (v := lN 0) (q := 1) d_nu_foretold_0 rfl rfl ?_
  refine z_lst4 (q := 3) d_nu_foretold_1 rfl rfl ?_
  refine z_iconst (v := nI 0) (q := 4) d_nu_foretold_3 rfl (by decide) ?_
  refine z_ist6 (q := 6) d_nu_foretold_4 rfl rfl ?_
  have loop : ∀ d x, x + d = r → Z m_nu_foretold (zEq (some (.long (lN (fo_ c v k r)))) n σ) 0 0 n σ 6 [some (.ref i), some (.int (nI r)), some (.ref j), some (.int (nI k)), some (.long (lN (fo_ c v k x))), none, some (.int (nI x))] [] := by
    intro d
    induction d with
    | zero =>
      intro x hx
      refine z_ild6 (q := 8) d_nu_foretold_6 rfl ?_
      refine z_ild1 (q := 9) d_nu_foretold_8 rfl ?_
      refine zn_icmp_ge (q := 12) (tgt := 37) d_nu_foretold_9 rfl (by decide) (by omega) (by omega) (fun hb => ?_) (fun hb => ?_)
      · refine z_lld4 (q := 39) d_nu_foretold_37 rfl ?_
        obtain rfl : x = r := by omega
        exact z_lret d_nu_foretold_39 rfl (Nat.le_refl _) (Nat.le_refl _) ⟨rfl, rfl, rfl⟩
      · exact absurd hb (by omega)
    | succ d ih =>
      intro x hx
      refine z_ild6 (q := 8) d_nu_foretold_6 rfl ?_
      refine z_ild1 (q := 9) d_nu_foretold_8 rfl ?_
      refine zn_icmp_ge (q := 12) (tgt := 37) d_nu_foretold_9 rfl (by decide) (by omega) (by omega) (fun hb => ?_) (fun hb => ?_)
      · exact absurd hb (by omega)
      · refine z_lld4 (q := 14) d_nu_foretold_12 rfl ?_
        refine z_ald0 (q := 15) d_nu_foretold_14 rfl ?_
        refine z_ild6 (q := 17) d_nu_foretold_15 rfl ?_
        refine z_laload (q := 18) d_nu_foretold_17 rfl (by first | assumption | omega) (by first | assumption | omega) (by omega) (by omega) ?_
        refine z_ald2 (q := 19) d_nu_foretold_18 rfl ?_
        refine z_ild3 (q := 20) d_nu_foretold_19 rfl ?_
        refine z_iconst (v := nI 1) (q := 21) d_nu_foretold_20 rfl (by decide) ?_
        first | refine zn_isub (q := 22) d_nu_foretold_21 rfl (by omega) ?_ | refine z_isub (q := 22) d_nu_foretold_21 rfl ?_
        refine z_ild6 (q := 24) d_nu_foretold_22 rfl ?_
        first | refine zn_isub (q := 25) d_nu_foretold_24 rfl (by omega) ?_ | refine z_isub (q := 25) d_nu_foretold_24 rfl ?_
        refine z_laload (q := 26) d_nu_foretold_25 rfl (by first | assumption | omega) (by first | assumption | omega) (by omega) (by omega) ?_
        refine z_cS3 (q := 29) d_nu_foretold_26 rfl (ct_plusTimes n σ (fo_lt c v k x) (hcP x) (hvP (k - 1 - x))) ck_nu_plusTimes lk_nu_17 st_nu_plusTimes ⟨by decide, by decide⟩ (Nat.le_of_ble_eq_true rfl) rfl rfl ?_
        refine z_lst4 (q := 31) d_nu_foretold_29 rfl rfl ?_
        refine zn_iinc6 (d := 1) (q := 34) d_nu_foretold_31 rfl rfl ?_
        refine z_goto (tgt := 6) d_nu_foretold_34 (by decide) ?_
        exact ih (x + 1) (by omega)
  exact loop r 0 (by omega)
/-- an inverse by powers: the bits of l, from the lowest -/
def iv_ : Nat → Nat → Nat → Nat → Nat
  | 0, _, p, _ => p
  | f + 1, l, p, s => if l = 0 then p else iv_ f (l / 2) (if l % 2 = 1 then p * s % 2147483647 else p) (s * s % 2147483647)
def in_ (a : Nat) : Nat := iv_ 31 2147483645 1 a
theorem iv_lt : ∀ f l p s, p < 2147483647 → iv_ f l p s < 2147483647
  | 0, _, p, _, h => h
  | f + 1, l, p, s, h => by
    unfold iv_
    split
    · exact h
    · refine iv_lt f _ _ _ ?_
      split
      · exact Nat.mod_lt _ (by omega)
      · exact h
theorem in_lt (a : Nat) : in_ a < 2147483647 := iv_lt _ _ _ _ (by omega)
theorem iv_ph : ∀ f l p s, l < 2 ^ f → ph (iv_ f l p s) = ph p * pw_ (ph s) l
  | 0, l, p, s, h => by
    have : l = 0 := by simp at h; omega
    subst this
    show ph p = ph p * 1
    grind
  | f + 1, l, p, s, h => by
    unfold iv_
    by_cases h0 : l = 0
    · rw [if_pos h0, h0]
      show ph p = ph p * 1
      grind
    · rw [if_neg h0, iv_ph f _ _ _ (by rw [Nat.pow_succ] at h; omega), ph_mod, ph_mul, pw_sq]
      by_cases h1 : l % 2 = 1
      · rw [if_pos h1, ph_mod, ph_mul]
        have e : pw_ (ph s) l = pw_ (ph s) (2 * (l / 2)) * ph s := by
          have : l = 2 * (l / 2) + 1 := by omega
          rw [this]
          rw [show (2 * (l / 2) + 1) / 2 = l / 2 by omega]
          rfl
        rw [e]
        grind
      · rw [if_neg h1, show 2 * (l / 2) = l by omega]
theorem in_ph {a : Nat} (h : ph a ≠ 0) : ph a * ph (in_ a) = 1 := by
  unfold in_
  rw [iv_ph 31 2147483645 1 a (by decide), ph_1]
  have := pw_inv 2147483645 (by omega) h
  grind
theorem ct_inverse (n : Nat) (σ : zWd) {a : Nat} (ha : a < 2147483647) : Ct m_nu_inverse [.long (lN a)] n σ (zEq (some (.long (lN (in_ a)))) n σ) := by
  refine Ct.of (lv := [some (.long (lN a)), none, none, none, none, none, none, none]) 6 (by decide) rfl (Nat.le_of_ble_eq_true rfl) ?_
  refine z_lconst (v := lN 1) (q := 1) d_nu_inverse_0 rfl rfl ?_
  refine z_lst2 (q := 2) d_nu_inverse_1 rfl rfl ?_
  refine z_lld0 (q := 3) d_nu_inverse_2 rfl ?_
  refine z_lst4 (q := 5) d_nu_inverse_3 rfl rfl ?_
  refine z_ldc2 (q := 8) d_nu_inverse_5 rfl cl_nu_11 ?_
  refine z_lst6 (q := 10) d_nu_inverse_8 rfl rfl ?_
  have loop : ∀ f l p s, l < 2 ^ f → l < 2147483647 → p < 2147483647 → s < 2147483647 → Z m_nu_inverse (zEq (some (.long (lN (iv_ f l p s)))) n σ) 0 0 n σ 10 [some (.long (lN a)), none, some (.long (lN p)), none, some (.long (lN s)), none, some (.long (lN l)), none] [] := by
    intro f
    induction f with
    | zero =>
      intro l p s hl _ hp hs
      have : l = 0 := by simp at hl; omega
      subst this
      refine z_lld6 (q := 12) d_nu_inverse_10 rfl ?_
      refine z_lconst (v := lN 0) (q := 13) d_nu_inverse_12 rfl rfl ?_
      refine z_lcmp (q := 14) d_nu_inverse_13 rfl ?_
      refine zc_if_le (q := 17) (tgt := 51) d_nu_inverse_14 rfl (by decide) (by omega) (by omega) (fun hb => ?_) (fun hb => absurd (Nat.le_refl 0) hb)
      refine z_lld2 (q := 52) d_nu_inverse_51 rfl ?_
      exact z_lret d_nu_inverse_52 rfl (Nat.le_refl _) (Nat.le_refl _) ⟨rfl, rfl, rfl⟩
    | succ f ih =>
      intro l p s hl hl2 hp hs
      refine z_lld6 (q := 12) d_nu_inverse_10 rfl ?_
      refine z_lconst (v := lN 0) (q := 13) d_nu_inverse_12 rfl rfl ?_
      refine z_lcmp (q := 14) d_nu_inverse_13 rfl ?_
      refine zc_if_le (q := 17) (tgt := 51) d_nu_inverse_14 rfl (by decide) (by omega) (by omega) (fun hb => ?_) (fun hb => ?_)
      · have : l = 0 := by omega
        subst this
        refine z_lld2 (q := 52) d_nu_inverse_51 rfl ?_
        exact z_lret d_nu_inverse_52 rfl (Nat.le_refl _) (Nat.le_refl _) ⟨rfl, rfl, rfl⟩
      · have hl0 : l ≠ 0 := by omega
        have tail : ∀ p', p' < 2147483647 → p' = (if l % 2 = 1 then p * s % 2147483647 else p) → Z m_nu_inverse (zEq (some (.long (lN (iv_ (f + 1) l p s)))) n σ) 0 0 n σ 33 [some (.long (lN a)), none, some (.long (lN p')), none, some (.long (lN s)), none, some (.long (lN l)), none] [] := by
          intro p' hp' hpe
          refine z_lld4 (q := 35) d_nu_inverse_33 rfl ?_
          refine z_lld4 (q := 37) d_nu_inverse_35 rfl ?_
          refine z_cS2 (q := 40) d_nu_inverse_37 rfl (ct_times n σ hs hs) ck_nu_times lk_nu_13 st_nu_times ⟨by decide, by decide⟩ (Nat.le_of_ble_eq_true rfl) rfl rfl ?_
          refine z_lst4 (q := 42) d_nu_inverse_40 rfl rfl ?_
          refine z_lld6 (q := 44) d_nu_inverse_42 rfl ?_
          refine z_iconst (v := nI 1) (q := 45) d_nu_inverse_44 rfl (by decide) ?_
          refine zn_lshr (q := 46) d_nu_inverse_45 rfl (by omega) (by omega) ?_
          refine z_lst6 (q := 48) d_nu_inverse_46 rfl rfl ?_
          refine z_goto (tgt := 10) d_nu_inverse_48 (by decide) ?_
          have e : iv_ (f + 1) l p s = iv_ f (l / 2 ^ 1) p' (s * s % 2147483647) := by
            rw [hpe]
            show (if l = 0 then p else _) = _
            rw [if_neg hl0]
          rw [e]
          exact ih (l / 2 ^ 1) p' _ (by rw [Nat.pow_succ] at hl; omega) (by omega) hp' (Nat.mod_lt _ (by omega))
        refine z_lld6 (q := 19) d_nu_inverse_17 rfl ?_
        refine z_lconst (v := lN 1) (q := 20) d_nu_inverse_19 rfl rfl ?_
        refine zn_land1 (q := 21) d_nu_inverse_20 rfl (by omega) ?_
        refine z_lconst (v := lN 1) (q := 22) d_nu_inverse_21 rfl rfl ?_
        refine z_lcmp (q := 23) d_nu_inverse_22 rfl ?_
        refine zc_if_ne (q := 26) (tgt := 33) d_nu_inverse_23 rfl (by decide) (by omega) (by omega) (fun hb => ?_) (fun hb => ?_)
        · exact tail p hp (by rw [if_neg hb])
        · refine z_lld2 (q := 27) d_nu_inverse_26 rfl ?_
          refine z_lld4 (q := 29) d_nu_inverse_27 rfl ?_
          refine z_cS2 (q := 32) d_nu_inverse_29 rfl (ct_times n σ hp hs) ck_nu_times lk_nu_13 st_nu_times ⟨by decide, by decide⟩ (Nat.le_of_ble_eq_true rfl) rfl rfl ?_
          refine z_lst2 (q := 33) d_nu_inverse_32 rfl rfl ?_
          exact tail _ (Nat.mod_lt _ (by omega)) (by rw [if_pos hb])
  exact loop 31 2147483645 1 a (by decide) (by omega) (by omega) ha
end
section
/-! Cells that change; RecurrentSeries.Numbers.of, Series.writeTerms, Finder -/
theorem zu_same {α : Type} {f : Nat → α} {k : Nat} {v : α} : va_up f k v k = v := by simp [va_up]
theorem zu_ne {α : Type} {f : Nat → α} {k j : Nat} {v : α} (h : j ≠ k) : va_up f k v j = f j := by simp [va_up, h]
theorem zu_up {α : Type} {f : Nat → α} {k : Nat} {v w : α} : va_up (va_up f k v) k w = va_up f k w := by
  funext j
  by_cases h : j = k <;> simp [va_up, h]
theorem zu_comm {α : Type} {f : Nat → α} {k l : Nat} {v w : α} (h : k ≠ l) : va_up (va_up f k v) l w = va_up (va_up f l w) k v := by
  funext j
  by_cases h1 : j = k
  · subst h1; simp [va_up, h]
  · by_cases h2 : j = l <;> simp [va_up, h1, h2, Ne.symm h]
theorem zu_id {α : Type} {f : Nat → α} {k : Nat} {v : α} (h : f k = v) : f = va_up f k v := by
  funext j
  by_cases h1 : j = k
  · subst h1; simp [va_up, h]
  · simp [va_up, h1]
def fl_ (s g : Nat → Nat) (x : Nat) : Nat → Nat := fun j => if j < x then s j else g j
theorem fl_0 (s g : Nat → Nat) : fl_ s g 0 = g := by funext j; simp [fl_]
theorem fl_s (s g : Nat → Nat) (x : Nat) : va_up (fl_ s g x) x (s x) = fl_ s g (x + 1) := by
  funext j
  by_cases h : j = x
  · subst h; simp [va_up, fl_]
  · by_cases h2 : j < x
    · simp [va_up, fl_, h, h2, show j < x + 1 by omega]
    · simp [va_up, fl_, h, h2, show ¬ j < x + 1 by omega]
theorem fl_hi {s g : Nat → Nat} {x j : Nat} (h : x ≤ j) : fl_ s g x j = g j := by simp [fl_, show ¬ j < x by omega]
theorem fl_lo {s g : Nat → Nat} {x j : Nat} (h : j < x) : fl_ s g x j = s j := by simp [fl_, h]
theorem fl_lt {s g : Nat → Nat} {x B : Nat} (hs : ∀ j, s j < B) (hg : ∀ j, g j < B) : ∀ j, fl_ s g x j < B := by
  intro j
  unfold fl_
  split
  · exact hs j
  · exact hg j
/-- a number given: its rest -/
def nu_ (v : Int32) : Nat := (v.toInt % 2147483647).toNat
theorem nu_lt (v : Int32) : nu_ v < 2147483647 := by
  unfold nu_
  have h1 := Int.emod_nonneg v.toInt (show (2147483647 : Int) ≠ 0 by decide)
  have h2 := Int.emod_lt_of_pos v.toInt (show (0 : Int) < 2147483647 by decide)
  omega
theorem zr_rem (v : Int32) : (v.toInt64 - v.toInt64 / lN 2147483647 * lN 2147483647).toInt = v.toInt.tmod 2147483647 := by
  have hv1 := v.le_toInt
  have hv2 := v.toInt_lt
  have e1 : v.toInt64.toInt = v.toInt := Int32.toInt_toInt64 v
  have e2 : (lN 2147483647).toInt = 2147483647 := pk_lT (by decide)
  have e3 : (v.toInt64 / lN 2147483647).toInt = v.toInt.tdiv 2147483647 := by
    rw [Jvm.Kit.i64_div (by omega), e1, e2]
  have h4 := Int.tmod_def v.toInt 2147483647
  have h5 : -2147483647 < v.toInt.tmod 2147483647 ∧ v.toInt.tmod 2147483647 < 2147483647 := tmod_bounds (by decide)
  have e4 : (v.toInt64 / lN 2147483647 * lN 2147483647).toInt = v.toInt.tdiv 2147483647 * 2147483647 := by
    rw [Jvm.Kit.i64_mul (by rw [e3, e2]; omega) (by rw [e3, e2]; omega), e3, e2]
  rw [Jvm.Kit.i64_sub (by rw [e1, e4]; omega) (by rw [e1, e4]; omega), e1, e4]
  omega
theorem zr_num {x : Int64} {k : Nat} (hk : k < 2 ^ 63) (h : x.toInt = (k : Int)) : x = lN k := Int64.toInt_inj.mp (by rw [h, pk_lT hk])
theorem nu_pos {v : Int32} (h : 0 ≤ v.toInt.tmod 2147483647) : v.toInt.tmod 2147483647 = (nu_ v : Int) := by
  have h1 := Int.emod_nonneg v.toInt (show (2147483647 : Int) ≠ 0 by decide)
  have h2 := Int.emod_lt_of_pos v.toInt (show (0 : Int) < 2147483647 by decide)
  have h5 : -2147483647 < v.toInt.tmod 2147483647 ∧ v.toInt.tmod 2147483647 < 2147483647 := tmod_bounds (by decide)
  have h3 := Int.tmod_def v.toInt 2147483647
  have h4 := Int.emod_def v.toInt 2147483647
  unfold nu_
  omega
theorem nu_neg {v : Int32} (h : v.toInt.tmod 2147483647 < 0) : v.toInt.tmod 2147483647 + 2147483647 = (nu_ v : Int) := by
  have h1 := Int.emod_nonneg v.toInt (show (2147483647 : Int) ≠ 0 by decide)
  have h2 := Int.emod_lt_of_pos v.toInt (show (0 : Int) < 2147483647 by decide)
  have h5 : -2147483647 < v.toInt.tmod 2147483647 ∧ v.toInt.tmod 2147483647 < 2147483647 := tmod_bounds (by decide)
  have h3 := Int.tmod_def v.toInt 2147483647
  have h4 := Int.emod_def v.toInt 2147483647
  unfold nu_
  omega
theorem ct_of (n : Nat) (σ : zWd) (v : Int32) : Ct m_nu_of [.int v] n σ (zEq (some (.long (lN (nu_ v)))) n σ) := by
  refine Ct.of (lv := [some (.int v), none, none]) 2 (by decide) rfl (Nat.le_of_ble_eq_true rfl) ?_
  have hr := zr_rem v
  have hb5 : -2147483647 < v.toInt.tmod 2147483647 ∧ v.toInt.tmod 2147483647 < 2147483647 := tmod_bounds (by decide)
  refine z_ild0 (q := 1) d_nu_of_0 rfl ?_
  first | refine zn_i2l (q := 2) d_nu_of_1 rfl (by omega) ?_ | refine z_i2l (q := 2) d_nu_of_1 rfl ?_
  refine z_ldc2 (q := 5) d_nu_of_2 rfl cl_nu_9 ?_
  refine z_lrem (q := 6) d_nu_of_5 rfl (z_lne0 (by decide) (by decide)) ?_
  generalize v.toInt64 - v.toInt64 / lN 2147483647 * lN 2147483647 = x at hr ⊢
  refine z_lst1 (q := 7) d_nu_of_6 rfl rfl ?_
  refine z_lld1 (q := 8) d_nu_of_7 rfl ?_
  refine z_lconst (v := lN 0) (q := 9) d_nu_of_8 rfl rfl ?_
  refine z_lcmp (q := 10) d_nu_of_9 rfl ?_
  refine z_if_ge (q := 13) (tgt := 21) d_nu_of_10 rfl (by decide) (fun hb => ?_) (fun hb => ?_)
  · have h0 : 0 ≤ x.toInt := by
      have := (lg_cmp_ge x (lN 0)).mp hb
      rw [Int64.le_iff_toInt_le] at this
      exact this
    have e : x = lN (nu_ v) := zr_num (by have := nu_lt v; omega) (by rw [hr]; exact nu_pos (by omega))
    refine z_lld1 (q := 22) d_nu_of_21 rfl ?_
    exact z_lret d_nu_of_22 rfl (Nat.le_refl _) (Nat.le_refl _) ⟨by rw [e], rfl, rfl⟩
  · have h0 : x.toInt < 0 := by
      refine Int.not_le.mp (fun h => hb ((lg_cmp_ge x (lN 0)).mpr ?_))
      rw [Int64.le_iff_toInt_le]
      exact h
    have e : x + lN 2147483647 = lN (nu_ v) := zr_num (by have := nu_lt v; omega) (by
      have e2 : (lN 2147483647).toInt = 2147483647 := pk_lT (by decide)
      rw [Jvm.Kit.i64_add (by rw [e2]; omega) (by rw [e2]; omega), e2, hr]
      exact nu_neg (by omega))
    refine z_lld1 (q := 14) d_nu_of_13 rfl ?_
    refine z_ldc2 (q := 17) d_nu_of_14 rfl cl_nu_9 ?_
    first | refine zn_ladd (q := 18) d_nu_of_17 rfl ?_ | refine z_ladd (q := 18) d_nu_of_17 rfl ?_
    refine z_goto (tgt := 22) d_nu_of_18 (by decide) ?_
    exact z_lret d_nu_of_22 rfl (Nat.le_refl _) (Nat.le_refl _) ⟨by rw [e], rfl, rfl⟩
/-- the terms of a series, written out -/
theorem ct_writeTerms {n : Nat} {σ : zWd} {i ci ti v o N len : Nat} {c f g s : Nat → Nat} (hi : σ i = zO 1 [.int (nI o), .ref ci, .ref ti]) (hc : σ ci = zN 48 c) (hv : σ v = zN N g) (hin : i < n) (hcn : ci < n) (htn : ti < n) (hvn : v < n) (hvi : i ≠ v) (hvc : ci ≠ v) (hN : N < 10000) (hlen : len ≤ N) (ho : o ≤ 48)
    (hread : ∀ x, x < o → x < len → va_up σ v (zN N (fl_ s g x)) ti = zN 88 (if ti = v then fl_ s g x else f) ∧ f x = s x ∧ (ti = v → g x = s x)) (hcP : ∀ x, c x < 2147483647) (hsP : ∀ x, s x < 2147483647) (hgP : ∀ x, g x < 2147483647) (hs : ∀ x, o ≤ x → s x = fo_ c s x o) :
    Ct m_se_writeTerms [.ref i, .ref v, .int (nI len)] n σ (zEq none n (va_up σ v (zN N (fl_ s g len)))) := by
  refine Ct.of (lv := [some (.ref i), some (.ref v), some (.int (nI len)), none]) 1 (by decide) rfl (Nat.le_of_ble_eq_true rfl) ?_
  refine z_iconst (v := nI 0) (q := 1) d_se_writeTerms_0 rfl (by decide) ?_
  refine z_ist3 (q := 2) d_se_writeTerms_1 rfl rfl ?_
  refine Z.eqw (σ' := va_up σ v (zN N (fl_ s g 0))) (by rw [fl_0]; exact zu_id hv) ?_
  have loop : ∀ d x, x + d = len → Z m_se_writeTerms (zEq none n (va_up σ v (zN N (fl_ s g len)))) 0 0 n (va_up σ v (zN N (fl_ s g x))) 2 [some (.ref i), some (.ref v), some (.int (nI len)), some (.int (nI x))] [] := by
    intro d
    induction d with
    | zero =>
      intro x hx
      refine z_ild3 (q := 3) d_se_writeTerms_2 rfl ?_
      refine z_ild2 (q := 4) d_se_writeTerms_3 rfl ?_
      refine zn_icmp_ge (q := 7) (tgt := 46) d_se_writeTerms_4 rfl (by decide) (by omega) (by omega) (fun hb => ?_) (fun hb => ?_)
      · obtain rfl : x = len := by omega
        exact z_vret d_se_writeTerms_46 rfl (Nat.le_refl _) (Nat.le_refl _) ⟨rfl, rfl, rfl⟩
      · exact absurd hb (by omega)
    | succ d ih =>
      intro x hx
      have hs0 : va_up σ v (zN N (fl_ s g x)) v = zN N (fl_ s g x) := zu_same
      have hs1 : va_up σ v (zN N (fl_ s g x)) i = zO 1 [.int (nI o), .ref ci, .ref ti] := by rw [zu_ne hvi]; exact hi
      have hs2 : va_up σ v (zN N (fl_ s g x)) ci = zN 48 c := by rw [zu_ne hvc]; exact hc
      have fin : Z m_se_writeTerms (zEq none n (va_up σ v (zN N (fl_ s g len)))) 0 0 n (va_up σ v (zN N (fl_ s g x))) 39 [some (.ref i), some (.ref v), some (.int (nI len)), some (.int (nI x))] [.long (lN (s x)), .int (nI x), .ref v] := by
        refine z_lastore (q := 40) d_se_writeTerms_39 rfl (by first | assumption | omega) (by first | assumption | omega) (by omega) (by omega) ?_
        refine zn_iinc3 (d := 1) (q := 43) d_se_writeTerms_40 rfl rfl ?_
        refine z_goto (tgt := 2) d_se_writeTerms_43 (by decide) ?_
        refine Z.eqw ?_ (ih (x + 1) (by omega))
        rw [zu_up, fl_s]
      refine z_ild3 (q := 3) d_se_writeTerms_2 rfl ?_
      refine z_ild2 (q := 4) d_se_writeTerms_3 rfl ?_
      refine zn_icmp_ge (q := 7) (tgt := 46) d_se_writeTerms_4 rfl (by decide) (by omega) (by omega) (fun hb => ?_) (fun hb => ?_)
      · exact absurd hb (by omega)
      · refine z_ald1 (q := 8) d_se_writeTerms_7 rfl ?_
        refine z_ild3 (q := 9) d_se_writeTerms_8 rfl ?_
        refine z_ild3 (q := 10) d_se_writeTerms_9 rfl ?_
        refine z_ald0 (q := 11) d_se_writeTerms_10 rfl ?_
        refine z_get 0 (q := 14) d_se_writeTerms_11 rfl fg_se_18 (by first | assumption | omega) (by first | assumption | omega) (by rfl) ?_
        refine zn_icmp_ge (q := 17) (tgt := 26) d_se_writeTerms_14 rfl (by decide) (by omega) (by omega) (fun hb => ?_) (fun hb => ?_)
        · refine z_ald0 (q := 27) d_se_writeTerms_26 rfl ?_
          refine z_get 1 (q := 30) d_se_writeTerms_27 rfl fg_se_9 (by first | assumption | omega) (by first | assumption | omega) (by rfl) ?_
          refine z_ald0 (q := 31) d_se_writeTerms_30 rfl ?_
          refine z_get 0 (q := 34) d_se_writeTerms_31 rfl fg_se_18 (by first | assumption | omega) (by first | assumption | omega) (by rfl) ?_
          refine z_ald1 (q := 35) d_se_writeTerms_34 rfl ?_
          refine z_ild3 (q := 36) d_se_writeTerms_35 rfl ?_
          refine z_cS4 (q := 39) d_se_writeTerms_36 rfl (ct_foretold hs2 hs0 (by omega) (by omega) (by omega) (by omega) (by omega) (by omega) (by omega) hcP (fl_lt hsP hgP)) ck_nu_foretold lk_se_22 st_nu_foretold ⟨by decide, by decide⟩ (Nat.le_of_ble_eq_true rfl) rfl rfl ?_
          have e : fo_ c (fl_ s g x) x o = s x := by
            rw [hs x (by omega)]
            exact fo_congr (fun _ _ => rfl) (fun y hy => fl_lo (by omega))
          rw [e]
          exact fin
        · obtain ⟨hs3, e1, e2⟩ := hread x (by omega) (by omega)
          refine z_ald0 (q := 18) d_se_writeTerms_17 rfl ?_
          refine z_get 2 (q := 21) d_se_writeTerms_18 rfl fg_se_15 (by first | assumption | omega) (by first | assumption | omega) (by rfl) ?_
          refine z_ild3 (q := 22) d_se_writeTerms_21 rfl ?_
          refine z_laload (q := 23) d_se_writeTerms_22 rfl (by first | assumption | omega) (by first | assumption | omega) (by omega) (by omega) ?_
          refine z_goto (tgt := 39) d_se_writeTerms_23 (by decide) ?_
          have e : (if ti = v then fl_ s g x else f) x = s x := by
            by_cases h : ti = v
            · rw [if_pos h, fl_hi (Nat.le_refl x)]; exact e2 h
            · rw [if_neg h]; exact e1
          rw [e]
          exact fin
  exact loop len 0 (by omega)
theorem ct_erase {n : Nat} {σ : zWd} {v : Nat} {g : Nat → Nat} (hv : σ v = zN 48 g) (hvn : v < n) : Ct m_fi_erase [.ref v] n σ (zEq none n (va_up σ v (zN 48 (fl_ (fun _ => 0) g 48)))) := by
  refine Ct.of (lv := [some (.ref v), none]) 1 (by decide) rfl (Nat.le_of_ble_eq_true rfl) ?_
  refine z_iconst (v := nI 0) (q := 1) d_fi_erase_0 rfl (by decide) ?_
  refine z_ist1 (q := 2) d_fi_erase_1 rfl rfl ?_
  refine Z.eqw (σ' := va_up σ v (zN 48 (fl_ (fun _ => 0) g 0))) (by rw [fl_0]; exact zu_id hv) ?_
  have loop : ∀ d x, x + d = 48 → Z m_fi_erase (zEq none n (va_up σ v (zN 48 (fl_ (fun _ => 0) g 48)))) 0 0 n (va_up σ v (zN 48 (fl_ (fun _ => 0) g x))) 2 [some (.ref v), some (.int (nI x))] [] := by
    intro d
    induction d with
    | zero =>
      intro x hx
      refine z_ild1 (q := 3) d_fi_erase_2 rfl ?_
      refine z_bipush (v := nI 48) (q := 5) d_fi_erase_3 rfl (by decide) ?_
      refine zn_icmp_ge (q := 8) (tgt := 18) d_fi_erase_5 rfl (by decide) (by omega) (by omega) (fun hb => ?_) (fun hb => ?_)
      · obtain rfl : x = 48 := by omega
        exact z_vret d_fi_erase_18 rfl (Nat.le_refl _) (Nat.le_refl _) ⟨rfl, rfl, rfl⟩
      · exact absurd hb (by omega)
    | succ d ih =>
      intro x hx
      have hs0 : va_up σ v (zN 48 (fl_ (fun _ => 0) g x)) v = zN 48 (fl_ (fun _ => 0) g x) := zu_same
      refine z_ild1 (q := 3) d_fi_erase_2 rfl ?_
      refine z_bipush (v := nI 48) (q := 5) d_fi_erase_3 rfl (by decide) ?_
      refine zn_icmp_ge (q := 8) (tgt := 18) d_fi_erase_5 rfl (by decide) (by omega) (by omega) (fun hb => ?_) (fun hb => ?_)
      · exact absurd hb (by omega)
      · refine z_ald0 (q := 9) d_fi_erase_8 rfl ?_
        refine z_ild1 (q := 10) d_fi_erase_9 rfl ?_
        refine z_lconst (v := lN 0) (q := 11) d_fi_erase_10 rfl rfl ?_
        refine z_lastore (q := 12) d_fi_erase_11 rfl (by first | assumption | omega) (by first | assumption | omega) (by omega) (by omega) ?_
        refine zn_iinc1 (d := 1) (q := 15) d_fi_erase_12 rfl rfl ?_
        refine z_goto (tgt := 2) d_fi_erase_15 (by decide) ?_
        refine Z.eqw ?_ (ih (x + 1) (by omega))
        rw [zu_up, ← fl_s]
  exact loop 48 0 (by omega)
theorem ct_keepUnmended {n : Nat} {σ : zWd} {p1 p2 p3 : Nat} (h5 : σ 5 = zO 2 [.ref p1, .ref p2, .ref p3]) (hn : 5 < n) : Ct m_fi_keepUnmended [.ref 5] n σ (zEq none n (va_up σ 5 (zO 2 [.ref p1, .ref p3, .ref p2]))) := by
  refine Ct.of (lv := [some (.ref 5), none]) 1 (by decide) rfl (Nat.le_of_ble_eq_true rfl) ?_
  refine z_ald0 (q := 1) d_fi_keepUnmended_0 rfl ?_
  refine z_get 1 (q := 4) d_fi_keepUnmended_1 rfl fg_fi_15 (by first | assumption | omega) (by first | assumption | omega) (by rfl) ?_
  refine z_ast1 (q := 5) d_fi_keepUnmended_4 rfl rfl ?_
  refine z_ald0 (q := 6) d_fi_keepUnmended_5 rfl ?_
  refine z_ald0 (q := 7) d_fi_keepUnmended_6 rfl ?_
  refine z_get 2 (q := 10) d_fi_keepUnmended_7 rfl fg_fi_18 (by first | assumption | omega) (by first | assumption | omega) (by rfl) ?_
  refine z_put 1 (q := 13) d_fi_keepUnmended_10 rfl fg_fi_15 ft_fi fk_fi_15 (by first | assumption | omega) (by first | assumption | omega) (fun _ => rfl) (fun _ => rfl) (by simp) ?_
  have hs1 : va_up σ 5 (zO 2 [.ref p1, .ref p3, .ref p3]) 5 = zO 2 [.ref p1, .ref p3, .ref p3] := zu_same
  refine Z.eqw (σ' := va_up σ 5 (zO 2 [.ref p1, .ref p3, .ref p3])) rfl ?_
  refine z_ald0 (q := 14) d_fi_keepUnmended_13 rfl ?_
  refine z_ald1 (q := 15) d_fi_keepUnmended_14 rfl ?_
  refine z_put 2 (q := 18) d_fi_keepUnmended_15 rfl fg_fi_18 ft_fi fk_fi_18 (by first | assumption | omega) (by first | assumption | omega) (fun _ => rfl) (fun _ => rfl) (by simp) ?_
  refine z_vret d_fi_keepUnmended_18 rfl (Nat.le_refl _) (Nat.le_refl _) ⟨rfl, rfl, ?_⟩
  rw [zu_up]
  rfl
end
section
/-! RecurrentSeries.Finder: mend and find -/
def md_ (a b : Nat → Nat) (f lag x : Nat) : Nat → Nat := fun i => if i + 1 < lag then a i else if i + 1 = lag then (a i + f) % 2147483647 else if i < x then (a i + 2147483647 - f * b (i - lag) % 2147483647) % 2147483647 else a i
theorem md_0 (a b : Nat → Nat) (f lag : Nat) (h : 1 ≤ lag) : va_up a (lag - 1) ((a (lag - 1) + f) % 2147483647) = md_ a b f lag lag := by
  funext j
  by_cases h1 : j = lag - 1
  · subst h1
    simp [va_up, md_, show ¬ (lag - 1 + 1 < lag) by omega, show lag - 1 + 1 = lag by omega]
  · by_cases h2 : j + 1 < lag
    · simp [va_up, md_, h1, h2]
    · simp [va_up, md_, h1, h2, show ¬ (j + 1 = lag) by omega, show ¬ (j < lag) by omega]
theorem md_at {a b : Nat → Nat} {f lag x : Nat} (h : lag ≤ x) : md_ a b f lag x x = a x := by
  simp [md_, show ¬ (x + 1 < lag) by omega, show ¬ (x + 1 = lag) by omega]
theorem md_s {a b : Nat → Nat} {f lag x : Nat} (h : lag ≤ x) : va_up (md_ a b f lag x) x ((a x + 2147483647 - f * b (x - lag) % 2147483647) % 2147483647) = md_ a b f lag (x + 1) := by
  funext j
  by_cases h1 : j = x
  · subst h1
    simp [va_up, md_, show ¬ (j + 1 < lag) by omega, show ¬ (j + 1 = lag) by omega]
  · by_cases h2 : j + 1 < lag
    · simp [va_up, md_, h1, h2]
    · by_cases h3 : j + 1 = lag
      · simp [va_up, md_, h1, h2, h3]
      · by_cases h4 : j < x
        · simp [va_up, md_, h1, h2, h3, h4, show j < x + 1 by omega]
        · simp [va_up, md_, h1, h2, h3, h4, show ¬ (j < x + 1) by omega]
theorem md_lt {a b : Nat → Nat} {f lag x : Nat} (ha : ∀ j, a j < 2147483647) : ∀ j, md_ a b f lag x j < 2147483647 := by
  intro j
  unfold md_
  split
  · exact ha j
  · split
    · exact Nat.mod_lt _ (by omega)
    · split
      · exact Nat.mod_lt _ (by omega)
      · exact ha j
theorem ct_mend {n : Nat} {σ : zWd} {p1 p2 p3 f lag k : Nat} {a b c : Nat → Nat} (h5 : σ 5 = zO 2 [.ref p1, .ref p2, .ref p3]) (h1 : σ p1 = zN 48 a) (h2 : σ p2 = zN 48 b) (h3 : σ p3 = zN 48 c) (g1 : 6 ≤ p1) (g2 : 6 ≤ p2) (g3 : 6 ≤ p3) (e12 : p1 ≠ p2) (e13 : p1 ≠ p3) (e23 : p2 ≠ p3) (b1 : p1 < n) (b2 : p2 < n) (b3 : p3 < n) (hf : f < 2147483647) (hl1 : 1 ≤ lag) (hl2 : lag ≤ k + 1) (hk : k < 48) (ha : ∀ j, a j < 2147483647) (hb' : ∀ j, b j < 2147483647) :
    Ct m_fi_mend [.ref 5, .long (lN f), .int (nI lag), .int (nI k)] n σ (zEq none n (va_up (va_up σ p3 (zN 48 (fl_ a c 48))) p1 (zN 48 (md_ a b f lag (k + 1))))) := by
  refine Ct.of (lv := [some (.ref 5), some (.long (lN f)), none, some (.int (nI lag)), some (.int (nI k)), none]) 1 (by decide) rfl (Nat.le_of_ble_eq_true rfl) ?_
  generalize hPo : zEq none n (va_up (va_up σ p3 (zN 48 (fl_ a c 48))) p1 (zN 48 (md_ a b f lag (k + 1)))) = Po
  -- the last loop
  have loop2 : ∀ d x, x + d = k + 1 → lag ≤ x → Z m_fi_mend Po 0 0 n (va_up (va_up σ p3 (zN 48 (fl_ a c 48))) p1 (zN 48 (md_ a b f lag x))) 53 [some (.ref 5), some (.long (lN f)), none, some (.int (nI lag)), some (.int (nI k)), some (.int (nI x))] [] := by
    intro d
    induction d with
    | zero =>
      intro x hx hlx
      refine z_ild5 (q := 55) d_fi_mend_53 rfl ?_
      refine z_ild4 (q := 57) d_fi_mend_55 rfl ?_
      refine zn_icmp_gt (q := 60) (tgt := 96) d_fi_mend_57 rfl (by decide) (by omega) (by omega) (fun hb => ?_) (fun hb => ?_)
      · obtain rfl : x = k + 1 := by omega
        exact z_vret d_fi_mend_96 rfl (Nat.le_refl _) (Nat.le_refl _) (by rw [← hPo]; exact ⟨rfl, rfl, rfl⟩)
      · exact absurd hb (by omega)
    | succ d ih =>
      intro x hx hlx
      have s5 : va_up (va_up σ p3 (zN 48 (fl_ a c 48))) p1 (zN 48 (md_ a b f lag x)) 5 = zO 2 [.ref p1, .ref p2, .ref p3] := by rw [zu_ne (by omega), zu_ne (by omega)]; exact h5
      have s1 : va_up (va_up σ p3 (zN 48 (fl_ a c 48))) p1 (zN 48 (md_ a b f lag x)) p1 = zN 48 (md_ a b f lag x) := zu_same
      have s2 : va_up (va_up σ p3 (zN 48 (fl_ a c 48))) p1 (zN 48 (md_ a b f lag x)) p2 = zN 48 b := by rw [zu_ne (by omega), zu_ne (by omega)]; exact h2
      refine z_ild5 (q := 55) d_fi_mend_53 rfl ?_
      refine z_ild4 (q := 57) d_fi_mend_55 rfl ?_
      refine zn_icmp_gt (q := 60) (tgt := 96) d_fi_mend_57 rfl (by decide) (by omega) (by omega) (fun hb => ?_) (fun hb => ?_)
      · exact absurd hb (by omega)
      · refine z_ald0 (q := 61) d_fi_mend_60 rfl ?_
        refine z_get 0 (q := 64) d_fi_mend_61 rfl fg_fi_9 (by first | assumption | omega) (by first | assumption | omega) (by rfl) ?_
        refine z_ild5 (q := 66) d_fi_mend_64 rfl ?_
        refine z_ald0 (q := 67) d_fi_mend_66 rfl ?_
        refine z_get 0 (q := 70) d_fi_mend_67 rfl fg_fi_9 (by first | assumption | omega) (by first | assumption | omega) (by rfl) ?_
        refine z_ild5 (q := 72) d_fi_mend_70 rfl ?_
        refine z_laload (q := 73) d_fi_mend_72 rfl (by first | assumption | omega) (by first | assumption | omega) (by omega) (by omega) ?_
        refine z_lld1 (q := 74) d_fi_mend_73 rfl ?_
        refine z_ald0 (q := 75) d_fi_mend_74 rfl ?_
        refine z_get 1 (q := 78) d_fi_mend_75 rfl fg_fi_15 (by first | assumption | omega) (by first | assumption | omega) (by rfl) ?_
        refine z_ild5 (q := 80) d_fi_mend_78 rfl ?_
        refine z_ild3 (q := 81) d_fi_mend_80 rfl ?_
        first | refine zn_isub (q := 82) d_fi_mend_81 rfl (by omega) ?_ | refine z_isub (q := 82) d_fi_mend_81 rfl ?_
        refine z_laload (q := 83) d_fi_mend_82 rfl (by first | assumption | omega) (by first | assumption | omega) (by omega) (by omega) ?_
        refine z_cS2 (q := 86) d_fi_mend_83 rfl (ct_times n _ hf (hb' (x - lag))) ck_nu_times lk_fi_39 st_nu_times ⟨by decide, by decide⟩ (Nat.le_of_ble_eq_true rfl) rfl rfl ?_
        refine z_cS2 (q := 89) d_fi_mend_86 rfl (ct_minus n _ (md_lt ha x) (Nat.mod_lt _ (by omega))) ck_nu_minus lk_fi_31 st_nu_minus ⟨by decide, by decide⟩ (Nat.le_of_ble_eq_true rfl) rfl rfl ?_
        refine z_lastore (q := 90) d_fi_mend_89 rfl (by first | assumption | omega) (by first | assumption | omega) (by omega) (by omega) ?_
        refine zn_iinc5 (d := 1) (q := 93) d_fi_mend_90 rfl rfl ?_
        refine z_goto (tgt := 53) d_fi_mend_93 (by decide) ?_
        refine Z.eqw ?_ (ih (x + 1) (by omega) (by omega))
        rw [zu_up, md_at hlx, md_s hlx]
  -- from the copy on
  have mid : Z m_fi_mend Po 0 0 n (va_up σ p3 (zN 48 (fl_ a c 48))) 30 [some (.ref 5), some (.long (lN f)), none, some (.int (nI lag)), some (.int (nI k)), some (.int (nI 48))] [] := by
    have s5 : va_up σ p3 (zN 48 (fl_ a c 48)) 5 = zO 2 [.ref p1, .ref p2, .ref p3] := by rw [zu_ne (by omega)]; exact h5
    have s1 : va_up σ p3 (zN 48 (fl_ a c 48)) p1 = zN 48 a := by rw [zu_ne (by omega)]; exact h1
    refine z_ald0 (q := 31) d_fi_mend_30 rfl ?_
    refine z_get 0 (q := 34) d_fi_mend_31 rfl fg_fi_9 (by first | assumption | omega) (by first | assumption | omega) (by rfl) ?_
    refine z_ild3 (q := 35) d_fi_mend_34 rfl ?_
    refine z_iconst (v := nI 1) (q := 36) d_fi_mend_35 rfl (by decide) ?_
    first | refine zn_isub (q := 37) d_fi_mend_36 rfl (by omega) ?_ | refine z_isub (q := 37) d_fi_mend_36 rfl ?_
    refine z_ald0 (q := 38) d_fi_mend_37 rfl ?_
    refine z_get 0 (q := 41) d_fi_mend_38 rfl fg_fi_9 (by first | assumption | omega) (by first | assumption | omega) (by rfl) ?_
    refine z_ild3 (q := 42) d_fi_mend_41 rfl ?_
    refine z_iconst (v := nI 1) (q := 43) d_fi_mend_42 rfl (by decide) ?_
    first | refine zn_isub (q := 44) d_fi_mend_43 rfl (by omega) ?_ | refine z_isub (q := 44) d_fi_mend_43 rfl ?_
    refine z_laload (q := 45) d_fi_mend_44 rfl (by first | assumption | omega) (by first | assumption | omega) (by omega) (by omega) ?_
    refine z_lld1 (q := 46) d_fi_mend_45 rfl ?_
    refine z_cS2 (q := 49) d_fi_mend_46 rfl (ct_plus n _ (ha (lag - 1)) hf) ck_nu_plus lk_fi_58 st_nu_plus ⟨by decide, by decide⟩ (Nat.le_of_ble_eq_true rfl) rfl rfl ?_
    refine z_lastore (q := 50) d_fi_mend_49 rfl (by first | assumption | omega) (by first | assumption | omega) (by omega) (by omega) ?_
    refine z_ild3 (q := 51) d_fi_mend_50 rfl ?_
    refine z_ist5 (q := 53) d_fi_mend_51 rfl rfl ?_
    refine Z.eqw ?_ (loop2 (k + 1 - lag) lag (by omega) (Nat.le_refl _))
    rw [md_0 a b f lag hl1]
  have loop1 : ∀ d x, x + d = 48 → Z m_fi_mend Po 0 0 n (va_up σ p3 (zN 48 (fl_ a c x))) 3 [some (.ref 5), some (.long (lN f)), none, some (.int (nI lag)), some (.int (nI k)), some (.int (nI x))] [] := by
    intro d
    induction d with
    | zero =>
      intro x hx
      refine z_ild5 (q := 5) d_fi_mend_3 rfl ?_
      refine z_bipush (v := nI 48) (q := 7) d_fi_mend_5 rfl (by decide) ?_
      refine zn_icmp_ge (q := 10) (tgt := 30) d_fi_mend_7 rfl (by decide) (by omega) (by omega) (fun hb => ?_) (fun hb => ?_)
      · obtain rfl : x = 48 := by omega
        exact mid
      · exact absurd hb (by omega)
    | succ d ih =>
      intro x hx
      have s5 : va_up σ p3 (zN 48 (fl_ a c x)) 5 = zO 2 [.ref p1, .ref p2, .ref p3] := by rw [zu_ne (by omega)]; exact h5
      have s1 : va_up σ p3 (zN 48 (fl_ a c x)) p1 = zN 48 a := by rw [zu_ne (by omega)]; exact h1
      have s3 : va_up σ p3 (zN 48 (fl_ a c x)) p3 = zN 48 (fl_ a c x) := zu_same
      refine z_ild5 (q := 5) d_fi_mend_3 rfl ?_
      refine z_bipush (v := nI 48) (q := 7) d_fi_mend_5 rfl (by decide) ?_
      refine zn_icmp_ge (q := 10) (tgt := 30) d_fi_mend_7 rfl (by decide) (by omega) (by omega) (fun hb => ?_) (fun hb => ?_)
      · exact absurd hb (by omega)
      · refine z_ald0 (q := 11) d_fi_mend_10 rfl ?_
        refine z_get 2 (q := 14) d_fi_mend_11 rfl fg_fi_18 (by first | assumption | omega) (by first | assumption | omega) (by rfl) ?_
        refine z_ild5 (q := 16) d_fi_mend_14 rfl ?_
        refine z_ald0 (q := 17) d_fi_mend_16 rfl ?_
        refine z_get 0 (q := 20) d_fi_mend_17 rfl fg_fi_9 (by first | assumption | omega) (by first | assumption | omega) (by rfl) ?_
        refine z_ild5 (q := 22) d_fi_mend_20 rfl ?_
        refine z_laload (q := 23) d_fi_mend_22 rfl (by first | assumption | omega) (by first | assumption | omega) (by omega) (by omega) ?_
        refine z_lastore (q := 24) d_fi_mend_23 rfl (by first | assumption | omega) (by first | assumption | omega) (by omega) (by omega) ?_
        refine zn_iinc5 (d := 1) (q := 27) d_fi_mend_24 rfl rfl ?_
        refine z_goto (tgt := 3) d_fi_mend_27 (by decide) ?_
        refine Z.eqw ?_ (ih (x + 1) (by omega))
        rw [zu_up, fl_s]
  refine z_iconst (v := nI 0) (q := 1) d_fi_mend_0 rfl (by decide) ?_
  refine z_ist5 (q := 3) d_fi_mend_1 rfl rfl ?_
  refine Z.eqw (σ' := va_up σ p3 (zN 48 (fl_ a c 0))) (by rw [fl_0]; exact zu_id h3) ?_
  exact loop1 48 0 (by omega)
end
section
/-! RecurrentSeries.Finder.find -/
def wf_ (σ : zWd) (p1 pb ps : Nat) (A B S : Nat → Nat) : zWd := va_up (va_up (va_up (va_up σ 5 (zO 2 [.ref p1, .ref pb, .ref ps])) p1 (zN 48 A)) pb (zN 48 B)) ps (zN 48 S)
theorem wf_5 {σ : zWd} {p1 pb ps : Nat} {A B S : Nat → Nat} (g1 : 6 ≤ p1) (gb : 6 ≤ pb) (gs : 6 ≤ ps) : wf_ σ p1 pb ps A B S 5 = zO 2 [.ref p1, .ref pb, .ref ps] := by
  unfold wf_
  rw [zu_ne (by omega), zu_ne (by omega), zu_ne (by omega), zu_same]
theorem wf_1 {σ : zWd} {p1 pb ps : Nat} {A B S : Nat → Nat} (e1 : p1 ≠ pb) (e2 : p1 ≠ ps) : wf_ σ p1 pb ps A B S p1 = zN 48 A := by
  unfold wf_
  rw [zu_ne e2, zu_ne e1, zu_same]
theorem wf_b {σ : zWd} {p1 pb ps : Nat} {A B S : Nat → Nat} (e : pb ≠ ps) : wf_ σ p1 pb ps A B S pb = zN 48 B := by
  unfold wf_
  rw [zu_ne e, zu_same]
theorem wf_s {σ : zWd} {p1 pb ps : Nat} {A B S : Nat → Nat} : wf_ σ p1 pb ps A B S ps = zN 48 S := by
  unfold wf_
  rw [zu_same]
theorem wf_o {σ : zWd} {p1 pb ps j : Nat} {A B S : Nat → Nat} (h5 : j ≠ 5) (h1 : j ≠ p1) (hb : j ≠ pb) (hs : j ≠ ps) : wf_ σ p1 pb ps A B S j = σ j := by
  unfold wf_
  rw [zu_ne hs, zu_ne hb, zu_ne h1, zu_ne h5]
theorem wf_mend {σ : zWd} {p1 pb ps : Nat} {A B S A' S' : Nat → Nat} (e1 : p1 ≠ pb) (e2 : p1 ≠ ps) (e3 : pb ≠ ps) : va_up (va_up (wf_ σ p1 pb ps A B S) ps (zN 48 S')) p1 (zN 48 A') = wf_ σ p1 pb ps A' B S' := by
  funext j
  unfold wf_
  by_cases h1 : j = p1
  · subst h1; simp [va_up, e1, e2]
  · by_cases h2 : j = ps
    · subst h2; simp [va_up, h1]
    · by_cases h3 : j = pb
      · subst h3; simp [va_up, h1, h2]
      · simp [va_up, h1, h2, h3]
theorem wf_keep {σ : zWd} {p1 pb ps : Nat} {A B S : Nat → Nat} (g1 : 6 ≤ p1) (gb : 6 ≤ pb) (gs : 6 ≤ ps) (e3 : pb ≠ ps) : va_up (wf_ σ p1 pb ps A B S) 5 (zO 2 [.ref p1, .ref ps, .ref pb]) = wf_ σ p1 ps pb A S B := by
  funext j
  unfold wf_
  by_cases h5 : j = 5
  · subst h5
    simp [va_up, show ¬ (5 = pb) by omega, show ¬ (5 = ps) by omega, show ¬ (5 = p1) by omega]
  · by_cases h2 : j = ps
    · subst h2; simp [va_up, h5, Ne.symm e3]
    · by_cases h3 : j = pb
      · subst h3; simp [va_up, h5, h2]
      · simp [va_up, h5, h2, h3]
/-- the mended row, in numbers and modulo P -/
theorem md_ph {a b : Nat → Nat} {f lag x L Lm u : Nat} {AK BK : Nat → FP} (hA : ∀ j, j < 48 → ph (a j) = AK j) (hB : ∀ j, j < 48 → ph (b j) = BK j) (hu : u ≤ x) (hlag : lag = x + 1 - u) (hLx : L ≤ x) (hLm : Lm ≤ u) (hA0 : ∀ i, L ≤ i → AK i = 0) (hB0 : ∀ i, Lm ≤ i → BK i = 0) (hb : ∀ j, b j < 2147483647) : ∀ j, j < 48 → ph (md_ a b f lag (x + 1) j) = mn_ AK BK (ph f) (x - u) j := by
  intro j hj
  unfold md_ mn_
  by_cases h1 : j + 1 < lag
  · rw [if_pos h1, if_pos (by omega)]; exact hA j hj
  · rw [if_neg h1, if_neg (show ¬ j < x - u by omega)]
    by_cases h2 : j + 1 = lag
    · rw [if_pos h2, if_pos (by omega), ph_mod, ph_add, hA j hj, show x - u = j by omega]
    · rw [if_neg h2, if_neg (show ¬ j = x - u by omega)]
      by_cases h3 : j < x + 1
      · have hm : f * b (j - lag) % 2147483647 < 2147483647 := Nat.mod_lt _ (by omega)
        rw [if_pos h3, ph_mod, ph_sub (by omega), ph_add, ph_P, ph_mod, ph_mul, hA j hj, hB (j - lag) (by omega), show j - (x - u) - 1 = j - lag by omega]
        grind
      · rw [if_neg h3, hA j hj, hA0 j (by omega), hB0 (j - (x - u) - 1) (by omega)]
        grind
def fd_ (σ : zWd) (p1 p2 p3 se ci ti len R : Nat) (cf s : Nat → Nat) (n : Nat) : Option Value → Nat → zWd → Prop := fun r n' σ' => r = none ∧ n' = n ∧ ∃ (A B S : Nat → Nat) (pb ps L u Lm : Nat) (AK BK : Nat → FP) (d : FP), ((pb = p2 ∧ ps = p3) ∨ (pb = p3 ∧ ps = p2)) ∧ (∀ j, A j < 2147483647) ∧ (∀ j, B j < 2147483647) ∧ (∀ j, S j < 2147483647) ∧ (∀ j, j < 48 → ph (A j) = AK j) ∧
  bi_ (fun n => ph (s n)) len L u Lm AK BK d ∧ L ≤ R ∧ σ' = va_up (va_up (wf_ σ p1 pb ps A B S) se (zO 1 [.int (nI L), .ref ci, .ref ti])) ci (zN 48 (fl_ A cf L))
theorem ct_find {n : Nat} {σ : zWd} {p1 p2 p3 se ci ti len R : Nat} {o0 : Int32} {a0 b0 c0 vals cf s : Nat → Nat} {cR : Nat → FP} (h5 : σ 5 = zO 2 [.ref p1, .ref p2, .ref p3]) (h1 : σ p1 = zN 48 a0) (h2 : σ p2 = zN 48 b0) (h3 : σ p3 = zN 48 c0) (hv : σ 3 = zN 48 vals) (hse : σ se = zO 1 [.int o0, .ref ci, .ref ti]) (hci : σ ci = zN 48 cf)
    (g1 : 6 ≤ p1) (g2 : 6 ≤ p2) (g3 : 6 ≤ p3) (f1 : p1 ≤ 8) (f2 : p2 ≤ 8) (f3 : p3 ≤ 8) (e12 : p1 ≠ p2) (e13 : p1 ≠ p3) (e23 : p2 ≠ p3) (gse : 18 ≤ se) (gci : se < ci) (bci : ci < n) (hlen : len ≤ 48) (hR48 : R ≤ 48) (hs : ∀ j, j < len → vals j = s j) (ha0 : ∀ j, a0 j < 2147483647) (hb0 : ∀ j, b0 j < 2147483647) (hc0 : ∀ j, c0 j < 2147483647) (hvP : ∀ j, vals j < 2147483647) (hob : ob R cR (fun n => ph (s n))) :
    Ct m_fi_find [.ref 5, .ref 3, .int (nI len), .ref se] n σ (fd_ σ p1 p2 p3 se ci ti len R cf s n) := by
  refine Ct.of (lv := [some (.ref 5), some (.ref 3), some (.int (nI len)), some (.ref se), none, none, none, none, none, none, none, none, none, none]) 10 (by decide) rfl (Nat.le_of_ble_eq_true rfl) ?_
  generalize hPo : fd_ σ p1 p2 p3 se ci ti len R cf s n = Po
  -- the coefficients are written
  have fin : ∀ (A B S : Nat → Nat) (pb ps L u Lm : Nat) (AK BK : Nat → FP) (d : FP) (t5 t6 t9 t10 t11 t12 t13 : Option Value), ((pb = p2 ∧ ps = p3) ∨ (pb = p3 ∧ ps = p2)) → (∀ j, A j < 2147483647) → (∀ j, B j < 2147483647) → (∀ j, S j < 2147483647) → (∀ j, j < 48 → ph (A j) = AK j) → bi_ (fun n => ph (s n)) len L u Lm AK BK d → L ≤ R → ∀ e x, x + e = L →
      Z m_fi_find Po 0 0 n (va_up (va_up (wf_ σ p1 pb ps A B S) se (zO 1 [.int (nI L), .ref ci, .ref ti])) ci (zN 48 (fl_ A cf x))) 147 [some (.ref 5), some (.ref 3), some (.int (nI len)), some (.ref se), some (.int (nI L)), t5, t6, none, some (.int (nI x)), t9, t10, t11, t12, t13] [] := by
    intro A B S pb ps L u Lm AK BK d t5 t6 t9 t10 t11 t12 t13 hpp hA hB hS hAK hbi hLR e
    induction e with
    | zero =>
      intro x hx
      refine z_ild8 (q := 149) d_fi_find_147 rfl ?_
      refine z_ild4 (q := 151) d_fi_find_149 rfl ?_
      refine zn_icmp_ge (q := 154) (tgt := 174) d_fi_find_151 rfl (by decide) (by omega) (by omega) (fun hb => ?_) (fun hb => ?_)
      · obtain rfl : x = L := by omega
        exact z_vret d_fi_find_174 rfl (Nat.le_refl _) (Nat.le_refl _) (by rw [← hPo]; exact ⟨rfl, rfl, A, B, S, pb, ps, x, u, Lm, AK, BK, d, hpp, hA, hB, hS, hAK, hbi, hLR, rfl⟩)
      · exact absurd hb (by omega)
    | succ e ih =>
      intro x hx
      have w5 : va_up (va_up (wf_ σ p1 pb ps A B S) se (zO 1 [.int (nI L), .ref ci, .ref ti])) ci (zN 48 (fl_ A cf x)) 5 = zO 2 [.ref p1, .ref pb, .ref ps] := by
        rw [zu_ne (by omega), zu_ne (by omega)]
        exact wf_5 g1 (by omega) (by omega)
      have w1 : va_up (va_up (wf_ σ p1 pb ps A B S) se (zO 1 [.int (nI L), .ref ci, .ref ti])) ci (zN 48 (fl_ A cf x)) p1 = zN 48 A := by
        rw [zu_ne (by omega), zu_ne (by omega)]
        exact wf_1 (by omega) (by omega)
      have wse : va_up (va_up (wf_ σ p1 pb ps A B S) se (zO 1 [.int (nI L), .ref ci, .ref ti])) ci (zN 48 (fl_ A cf x)) se = zO 1 [.int (nI L), .ref ci, .ref ti] := by
        rw [zu_ne (by omega), zu_same]
      have wci : va_up (va_up (wf_ σ p1 pb ps A B S) se (zO 1 [.int (nI L), .ref ci, .ref ti])) ci (zN 48 (fl_ A cf x)) ci = zN 48 (fl_ A cf x) := zu_same
      refine z_ild8 (q := 149) d_fi_find_147 rfl ?_
      refine z_ild4 (q := 151) d_fi_find_149 rfl ?_
      refine zn_icmp_ge (q := 154) (tgt := 174) d_fi_find_151 rfl (by decide) (by omega) (by omega) (fun hb => ?_) (fun hb => ?_)
      · exact absurd hb (by omega)
      · refine z_ald3 (q := 155) d_fi_find_154 rfl ?_
        refine z_get 1 (q := 158) d_fi_find_155 rfl fg_fi_55 (by first | assumption | omega) (by first | assumption | omega) (by rfl) ?_
        refine z_ild8 (q := 160) d_fi_find_158 rfl ?_
        refine z_ald0 (q := 161) d_fi_find_160 rfl ?_
        refine z_get 0 (q := 164) d_fi_find_161 rfl fg_fi_9 (by first | assumption | omega) (by first | assumption | omega) (by rfl) ?_
        refine z_ild8 (q := 166) d_fi_find_164 rfl ?_
        refine z_laload (q := 167) d_fi_find_166 rfl (by first | assumption | omega) (by first | assumption | omega) (by omega) (by omega) ?_
        refine z_lastore (q := 168) d_fi_find_167 rfl (by first | assumption | omega) (by first | assumption | omega) (by omega) (by omega) ?_
        refine zn_iinc8 (d := 1) (q := 171) d_fi_find_168 rfl rfl ?_
        refine z_goto (tgt := 147) d_fi_find_171 (by decide) ?_
        refine Z.eqw ?_ (ih (x + 1) (by omega))
        rw [zu_up, fl_s]
  -- the main loop
  have loop : ∀ (k x : Nat) (A B S : Nat → Nat) (pb ps L lag u Lm d : Nat) (AK BK : Nat → FP) (t9 t10 t11 t12 t13 : Option Value), x + k = len → ((pb = p2 ∧ ps = p3) ∨ (pb = p3 ∧ ps = p2)) → (∀ j, A j < 2147483647) → (∀ j, B j < 2147483647) → (∀ j, S j < 2147483647) → (∀ j, j < 48 → ph (A j) = AK j) → (∀ j, j < 48 → ph (B j) = BK j) → d < 2147483647 → bi_ (fun n => ph (s n)) x L u Lm AK BK (ph d) → L ≤ R → lag = x + 1 - u →
      Z m_fi_find Po 0 0 n (wf_ σ p1 pb ps A B S) 26 [some (.ref 5), some (.ref 3), some (.int (nI len)), some (.ref se), some (.int (nI L)), some (.int (nI lag)), some (.long (lN d)), none, some (.int (nI x)), t9, t10, t11, t12, t13] [] := by
    intro k
    induction k with
    | zero =>
      intro x A B S pb ps L lag u Lm d AK BK t9 t10 t11 t12 t13 hx hpp hA hB hS hAK hBK hd hbi hLR hlag
      obtain rfl : x = len := by omega
      have wse : wf_ σ p1 pb ps A B S se = zO 1 [.int o0, .ref ci, .ref ti] := by rw [wf_o (by omega) (by omega) (by omega) (by omega)]; exact hse
      refine z_ild8 (q := 28) d_fi_find_26 rfl ?_
      refine z_ild2 (q := 29) d_fi_find_28 rfl ?_
      refine zn_icmp_ge (q := 32) (tgt := 138) d_fi_find_29 rfl (by decide) (by omega) (by omega) (fun hb => ?_) (fun hb => ?_)
      · refine z_ald3 (q := 139) d_fi_find_138 rfl ?_
        refine z_ild4 (q := 141) d_fi_find_139 rfl ?_
        refine z_put 0 (q := 144) d_fi_find_141 rfl fg_fi_49 ft_se fk_fi_49 (by first | assumption | omega) (by first | assumption | omega) (fun _ => rfl) (fun _ => rfl) (by simp) ?_
        refine z_iconst (v := nI 0) (q := 145) d_fi_find_144 rfl (by decide) ?_
        refine z_ist8 (q := 147) d_fi_find_145 rfl rfl ?_
        refine Z.eqw ?_ (fin A B S pb ps L u Lm AK BK (ph d) _ _ _ _ _ _ _ hpp hA hB hS hAK hbi hLR L 0 (by omega))
        rw [fl_0]
        refine zu_id ?_
        rw [zu_ne (by omega), wf_o (by omega) (by omega) (by omega) (by omega)]
        exact hci
      · exact absurd hb (by omega)
    | succ k ih =>
      intro x A B S pb ps L lag u Lm d AK BK t9 t10 t11 t12 t13 hx hpp hA hB hS hAK hBK hd hbi hLR hlag
      have hbi0 := hbi
      obtain ⟨i1, i2, i3, i4, i5, i6, i7, i8⟩ := hbi
      have w5 : wf_ σ p1 pb ps A B S 5 = zO 2 [.ref p1, .ref pb, .ref ps] := wf_5 g1 (by omega) (by omega)
      have w1 : wf_ σ p1 pb ps A B S p1 = zN 48 A := wf_1 (by omega) (by omega)
      have wb : wf_ σ p1 pb ps A B S pb = zN 48 B := wf_b (by omega)
      have ws : wf_ σ p1 pb ps A B S ps = zN 48 S := wf_s
      have w3 : wf_ σ p1 pb ps A B S 3 = zN 48 vals := by rw [wf_o (by omega) (by omega) (by omega) (by omega)]; exact hv
      have hfo := fo_lt A vals x L
      -- the miss
      have hft : ph (fo_ A vals x L) = ft_ (fun n => ph (s n)) AK x := by
        rw [fo_ph, ft_cut i4 i1]
        refine sm_congr (fun i hi => ?_)
        rw [hAK i (by omega), hs (x - 1 - i) (by omega)]
      have hvx := hvP x
      have hmph : ph ((vals x + 2147483647 - fo_ A vals x L) % 2147483647) = ph (s x) - ft_ (fun n => ph (s n)) AK x := by
        rw [ph_mod, ph_sub (by omega), ph_add, ph_P, hft, hs x (by omega)]
        grind
      generalize hmi : (vals x + 2147483647 - fo_ A vals x L) % 2147483647 = mi at hmph
      have hmiP : mi < 2147483647 := by rw [← hmi]; exact Nat.mod_lt _ (by omega)
      refine z_ild8 (q := 28) d_fi_find_26 rfl ?_
      refine z_ild2 (q := 29) d_fi_find_28 rfl ?_
      refine zn_icmp_ge (q := 32) (tgt := 138) d_fi_find_29 rfl (by decide) (by omega) (by omega) (fun hb => ?_) (fun hb => ?_)
      · exact absurd hb (by omega)
      · refine z_ald1 (q := 33) d_fi_find_32 rfl ?_
        refine z_ild8 (q := 35) d_fi_find_33 rfl ?_
        refine z_laload (q := 36) d_fi_find_35 rfl (by first | assumption | omega) (by first | assumption | omega) (by omega) (by omega) ?_
        refine z_ald0 (q := 37) d_fi_find_36 rfl ?_
        refine z_get 0 (q := 40) d_fi_find_37 rfl fg_fi_9 (by first | assumption | omega) (by first | assumption | omega) (by rfl) ?_
        refine z_ild4 (q := 42) d_fi_find_40 rfl ?_
        refine z_ald1 (q := 43) d_fi_find_42 rfl ?_
        refine z_ild8 (q := 45) d_fi_find_43 rfl ?_
        refine z_cS4 (q := 48) d_fi_find_45 rfl (ct_foretold w1 w3 (by omega) (by omega) (by omega) (by omega) (by omega) (by omega) (by omega) hA hvP) ck_nu_foretold lk_fi_25 st_nu_foretold ⟨by decide, by decide⟩ (Nat.le_of_ble_eq_true rfl) rfl rfl ?_
        refine z_cS2 (q := 51) d_fi_find_48 rfl (ct_minus n _ (hvP x) hfo) ck_nu_minus lk_fi_31 st_nu_minus ⟨by decide, by decide⟩ (Nat.le_of_ble_eq_true rfl) rfl rfl ?_
        rw [hmi]
        refine z_lst9 (q := 53) d_fi_find_51 rfl rfl ?_
        refine z_lld9 (q := 55) d_fi_find_53 rfl ?_
        refine z_lconst (v := lN 0) (q := 56) d_fi_find_55 rfl rfl ?_
        refine z_lcmp (q := 57) d_fi_find_56 rfl ?_
        refine zc_if_ne (q := 60) (tgt := 66) d_fi_find_57 rfl (by decide) (by omega) (by omega) (fun hb => ?_) (fun hb => ?_)
        · -- a miss
          have hm0 : ph mi ≠ 0 := fun h => hb ((ph_eq hmiP (by omega)).mp (h.trans ph_0.symm))
          have hne : ph (s x) ≠ ft_ (fun n => ph (s n)) AK x := fun h => hm0 (by rw [hmph, h]; grind)
          have hge := bi_le hbi0 hob hne i4
          refine z_lld9 (q := 68) d_fi_find_66 rfl ?_
          refine z_lld6 (q := 70) d_fi_find_68 rfl ?_
          refine z_cS1 (q := 73) d_fi_find_70 rfl (ct_inverse n _ hd) ck_nu_inverse lk_fi_35 st_nu_inverse ⟨by decide, by decide⟩ (Nat.le_of_ble_eq_true rfl) rfl rfl ?_
          refine z_cS2 (q := 76) d_fi_find_73 rfl (ct_times n _ hmiP (in_lt d)) ck_nu_times lk_fi_39 st_nu_times ⟨by decide, by decide⟩ (Nat.le_of_ble_eq_true rfl) rfl rfl ?_
          have hfP : mi * in_ d % 2147483647 < 2147483647 := Nat.mod_lt _ (by omega)
          have hff : ph (mi * in_ d % 2147483647) * ph d = ph mi := by
            rw [ph_mod, ph_mul]
            have := in_ph i7
            grind
          generalize mi * in_ d % 2147483647 = f at hfP hff
          have hmd := md_ph (f := f) hAK hBK i5 hlag i4 (show Lm ≤ u by omega) i1 i2 hB
          have aft : ∀ g : Nat, ((g = 1 ∧ 2 * L ≤ x) ∨ (g = 0 ∧ x < 2 * L)) → Z m_fi_find Po 0 0 n (wf_ σ p1 pb ps A B S) 92 [some (.ref 5), some (.ref 3), some (.int (nI len)), some (.ref se), some (.int (nI L)), some (.int (nI lag)), some (.long (lN d)), none, some (.int (nI x)), some (.long (lN mi)), none, some (.long (lN f)), none, t13] [.int (nI g)] := by
            intro g hg
            refine z_ist13 (q := 94) d_fi_find_92 rfl rfl ?_
            refine z_ald0 (q := 95) d_fi_find_94 rfl ?_
            refine z_lld11 (q := 97) d_fi_find_95 rfl ?_
            refine z_ild5 (q := 99) d_fi_find_97 rfl ?_
            refine z_ild8 (q := 101) d_fi_find_99 rfl ?_
            refine z_cV3v (q := 104) d_fi_find_101 rfl (ct_mend w5 w1 wb ws g1 (by omega) (by omega) (by omega) (by omega) (by omega) (by omega) (by omega) (by omega) hfP (by omega) (by omega) (by omega) hA hB) (by first | assumption | omega) (by first | assumption | omega) rfl ck_fi_mend lk_fi_42 im_fi_mend sl_fi_mend ⟨by decide, by decide⟩ (Nat.le_of_ble_eq_true rfl) rfl rfl ?_
            rw [wf_mend (by omega) (by omega) (by omega)]
            refine zn_iinc5 (d := 1) (q := 107) d_fi_find_104 rfl rfl ?_
            refine z_ild13 (q := 109) d_fi_find_107 rfl ?_
            refine zi_if_eq (q := 112) (tgt := 132) d_fi_find_109 rfl (by decide) (by omega) (fun hb2 => ?_) (fun hb2 => ?_)
            · have hst := bi_stay hbi0 (hff.trans hmph) (show x < 2 * L by omega)
              refine zn_iinc8 (d := 1) (q := 135) d_fi_find_132 rfl rfl ?_
              refine z_goto (tgt := 26) d_fi_find_135 (by decide) ?_
              exact ih (x + 1) _ B (fl_ A S 48) pb ps L (lag + 1) u Lm d _ BK _ _ _ _ _ (by omega) hpp (md_lt hA) hB (fl_lt hA hS) hmd hBK hd hst hLR (by omega)
            · have hgr := bi_grow hbi0 hmph hm0 hff (show 2 * L ≤ x by omega)
              have v5 : wf_ σ p1 pb ps (md_ A B f lag (x + 1)) B (fl_ A S 48) 5 = zO 2 [.ref p1, .ref pb, .ref ps] := wf_5 g1 (by omega) (by omega)
              refine z_ald0 (q := 113) d_fi_find_112 rfl ?_
              refine z_cV0v (q := 116) d_fi_find_113 rfl (ct_keepUnmended v5 (by omega)) (by first | assumption | omega) (by first | assumption | omega) rfl ck_fi_keepUnmended lk_fi_46 im_fi_keepUnmended sl_fi_keepUnmended ⟨by decide, by decide⟩ (Nat.le_of_ble_eq_true rfl) rfl rfl ?_
              rw [wf_keep g1 (by omega) (by omega) (by omega)]
              refine z_ild8 (q := 118) d_fi_find_116 rfl ?_
              refine z_iconst (v := nI 1) (q := 119) d_fi_find_118 rfl (by decide) ?_
              first | refine zn_iadd (q := 120) d_fi_find_119 rfl ?_ | refine z_iadd (q := 120) d_fi_find_119 rfl ?_
              refine z_ild4 (q := 122) d_fi_find_120 rfl ?_
              first | refine zn_isub (q := 123) d_fi_find_122 rfl (by omega) ?_ | refine z_isub (q := 123) d_fi_find_122 rfl ?_
              refine z_ist4 (q := 125) d_fi_find_123 rfl rfl ?_
              refine z_lld9 (q := 127) d_fi_find_125 rfl ?_
              refine z_lst6 (q := 129) d_fi_find_127 rfl rfl ?_
              refine z_iconst (v := nI 1) (q := 130) d_fi_find_129 rfl (by decide) ?_
              refine z_ist5 (q := 132) d_fi_find_130 rfl rfl ?_
              refine zn_iinc8 (d := 1) (q := 135) d_fi_find_132 rfl rfl ?_
              refine z_goto (tgt := 26) d_fi_find_135 (by decide) ?_
              exact ih (x + 1) _ (fl_ A S 48) B ps pb (x + 1 - L) 1 (x + 1) L mi _ AK _ _ _ _ _ (by omega) (by omega) (md_lt hA) (fl_lt hA hS) hB hmd (fun j hj => by rw [fl_lo hj]; exact hAK j hj) hmiP hgr hge (by omega)
          refine z_lst11 (q := 78) d_fi_find_76 rfl rfl ?_
          refine z_iconst (v := nI 2) (q := 79) d_fi_find_78 rfl (by decide) ?_
          refine z_ild4 (q := 81) d_fi_find_79 rfl ?_
          first | refine zn_imul (q := 82) d_fi_find_81 rfl ?_ | refine z_imul (q := 82) d_fi_find_81 rfl ?_
          refine z_ild8 (q := 84) d_fi_find_82 rfl ?_
          refine zn_icmp_gt (q := 87) (tgt := 91) d_fi_find_84 rfl (by decide) (by omega) (by omega) (fun hb3 => ?_) (fun hb3 => ?_)
          · refine z_iconst (v := nI 0) (q := 92) d_fi_find_91 rfl (by decide) ?_
            exact aft 0 (by omega)
          · refine z_iconst (v := nI 1) (q := 88) d_fi_find_87 rfl (by decide) ?_
            refine z_goto (tgt := 92) d_fi_find_88 (by decide) ?_
            exact aft 1 (by omega)
        · -- foretold
          have hsame := bi_same hbi0 (show (fun n => ph (s n)) x = ft_ (fun n => ph (s n)) AK x by
            rw [hb, ph_0] at hmph
            show ph (s x) = _
            grind)
          refine zn_iinc5 (d := 1) (q := 63) d_fi_find_60 rfl rfl ?_
          refine z_goto (tgt := 132) d_fi_find_63 (by decide) ?_
          refine zn_iinc8 (d := 1) (q := 135) d_fi_find_132 rfl rfl ?_
          refine z_goto (tgt := 26) d_fi_find_135 (by decide) ?_
          exact ih (x + 1) A B S pb ps L (lag + 1) u Lm d AK BK _ _ _ _ _ (by omega) hpp hA hB hS hAK hBK hd hsame hLR (by omega)
  refine z_ald0 (q := 1) d_fi_find_0 rfl ?_
  refine z_get 0 (q := 4) d_fi_find_1 rfl fg_fi_9 (by first | assumption | omega) (by first | assumption | omega) (by rfl) ?_
  refine z_cS1v (q := 7) d_fi_find_4 rfl (ct_erase h1 (by omega)) ck_fi_erase lk_fi_21 st_fi_erase ⟨by decide, by decide⟩ (Nat.le_of_ble_eq_true rfl) rfl rfl ?_
  have y5 : va_up σ p1 (zN 48 (fl_ (fun _ => 0) a0 48)) 5 = zO 2 [.ref p1, .ref p2, .ref p3] := by rw [zu_ne (by omega)]; exact h5
  have y2 : va_up σ p1 (zN 48 (fl_ (fun _ => 0) a0 48)) p2 = zN 48 b0 := by rw [zu_ne (by omega)]; exact h2
  refine z_ald0 (q := 8) d_fi_find_7 rfl ?_
  refine z_get 1 (q := 11) d_fi_find_8 rfl fg_fi_15 (by first | assumption | omega) (by first | assumption | omega) (by rfl) ?_
  refine z_cS1v (q := 14) d_fi_find_11 rfl (ct_erase y2 (by omega)) ck_fi_erase lk_fi_21 st_fi_erase ⟨by decide, by decide⟩ (Nat.le_of_ble_eq_true rfl) rfl rfl ?_
  refine z_iconst (v := nI 0) (q := 15) d_fi_find_14 rfl (by decide) ?_
  refine z_ist4 (q := 17) d_fi_find_15 rfl rfl ?_
  refine z_iconst (v := nI 1) (q := 18) d_fi_find_17 rfl (by decide) ?_
  refine z_ist5 (q := 20) d_fi_find_18 rfl rfl ?_
  refine z_lconst (v := lN 1) (q := 21) d_fi_find_20 rfl rfl ?_
  refine z_lst6 (q := 23) d_fi_find_21 rfl rfl ?_
  refine z_iconst (v := nI 0) (q := 24) d_fi_find_23 rfl (by decide) ?_
  refine z_ist8 (q := 26) d_fi_find_24 rfl rfl ?_
  refine Z.eqw ?_ (loop len 0 (fl_ (fun _ => 0) a0 48) (fl_ (fun _ => 0) b0 48) c0 p2 p3 0 1 0 0 1 (fun _ => 0) (fun _ => 0) _ _ _ _ _ (by omega) (Or.inl ⟨rfl, rfl⟩) (fl_lt (fun _ => by omega) ha0) (fl_lt (fun _ => by omega) hb0) hc0 (fun j hj => by rw [fl_lo hj, ph_0]) (fun j hj => by rw [fl_lo hj, ph_0]) (by omega) (by rw [ph_1]; exact bi_start _ (fun h => by have := (ph_eq (a := 1) (b := 0) (by omega) (by omega)).mp (ph_1.trans (h.trans ph_0.symm)); omega)) (Nat.zero_le _) rfl)
  unfold wf_
  funext j
  by_cases j1 : j = p1
  · subst j1; simp [va_up, e12, e13]
  · by_cases j3 : j = p3
    · subst j3; simp [va_up, j1, Ne.symm e23, h3]
    · by_cases j2 : j = p2
      · subst j2; simp [va_up, j3]
      · by_cases j5 : j = 5
        · subst j5; simp [va_up, j1, j2, j3, h5]
        · simp [va_up, j1, j2, j3, j5]
end
section
/-! The class's state: what its cells hold -/
/-- a series of order o: coefficients c, terms s -/
def SR (o : Nat) (c s : Nat → Nat) : Prop := o ≤ 24 ∧ (∀ n, s n < 2147483647) ∧ (∀ i, c i < 2147483647) ∧ (∀ n, o ≤ n → s n = fo_ c s n o) ∧ lo_ (fun n => ph (s n)) o (fun i => ph (c i))
def SC (σ : zWd) (k : Nat) (o : Int32) (c f : Nat → Nat) : Prop := σ (18 + 3 * k) = zO 1 [.int o, .ref (19 + 3 * k), .ref (20 + 3 * k)] ∧ σ (19 + 3 * k) = zN 48 c ∧ σ (20 + 3 * k) = zN 88 f ∧ (∀ j, c j < 2147483647) ∧ (∀ j, f j < 2147483647)
def FI (σ : zWd) : Prop := ∃ (p1 p2 p3 : Nat) (a b c : Nat → Nat), σ 5 = zO 2 [.ref p1, .ref p2, .ref p3] ∧ σ p1 = zN 48 a ∧ σ p2 = zN 48 b ∧ σ p3 = zN 48 c ∧ (6 ≤ p1 ∧ p1 ≤ 8) ∧ (6 ≤ p2 ∧ p2 ≤ 8) ∧ (6 ≤ p3 ∧ p3 ≤ 8) ∧ p1 ≠ p2 ∧ p1 ≠ p3 ∧ p2 ≠ p3 ∧ (∀ j, a j < 2147483647) ∧ (∀ j, b j < 2147483647) ∧ (∀ j, c j < 2147483647)
def SK (σ : zWd) : Prop := ∃ (q1 q2 q3 q4 : Nat) (a1 a2 a3 a4 a5 : Nat → Nat), σ 9 = zO 3 [.ref q1, .ref q2, .ref q3, .ref q4, .ref 14] ∧ σ q1 = zN 49 a1 ∧ σ q2 = zN 49 a2 ∧ σ q3 = zN 49 a3 ∧ σ q4 = zN 49 a4 ∧ σ 14 = zN 49 a5 ∧ (10 ≤ q1 ∧ q1 ≤ 13) ∧ (10 ≤ q2 ∧ q2 ≤ 13) ∧ (10 ≤ q3 ∧ q3 ≤ 13) ∧ (10 ≤ q4 ∧ q4 ≤ 13) ∧ q1 ≠ q2 ∧ q1 ≠ q3 ∧ q1 ≠ q4 ∧ q2 ≠ q3 ∧ q2 ≠ q4 ∧ q3 ≠ q4 ∧ (∀ j, a1 j < 2147483647) ∧ (∀ j, a2 j < 2147483647) ∧ (∀ j, a3 j < 2147483647) ∧ (∀ j, a4 j < 2147483647) ∧ (∀ j, a5 j < 2147483647)
def DV (σ : zWd) : Prop := σ 15 = zO 4 [.ref 16, .ref 17] ∧ ∃ a b : Nat → Nat, σ 16 = zN 49 a ∧ σ 17 = zN 49 b ∧ (∀ j, a j < 2147483647) ∧ (∀ j, b j < 2147483647)
def c0_ (li gi : Nat) : va_E := zO 0 [.ref 1, .ref 2, .ref 3, .ref 4, .ref 5, .ref 9, .ref 15, .int (nI li), .int (nI gi)]
def LI (σ : zWd) : Prop := ∃ f : Nat → Option Nat, σ 1 = zR 20 f ∧ ∀ k, k < 20 → f k = some (18 + 3 * k)
def AR (σ : zWd) (p N : Nat) : Prop := ∃ g : Nat → Nat, σ p = zN N g ∧ ∀ j, g j < 2147483647
def SS (σ : zWd) (k o : Nat) (cf ts : Nat → Nat) : Prop := ∃ c f : Nat → Nat, SC σ k (nI o) c f ∧ (∀ i, i < o → c i = cf i) ∧ ∀ j, j < 88 → f j = ts j
def CS (li gi : Nat) (row od : Nat → Nat) (cf ts : Nat → Nat → Nat) (σ : zWd) : Prop :=
  σ 0 = c0_ li gi ∧ LI σ ∧ (σ 2 = zN 40 row ∧ ∀ j, row j < 2147483647) ∧ AR σ 3 48 ∧ AR σ 4 2129 ∧ FI σ ∧ SK σ ∧ DV σ ∧ (∀ k, k < 20 → ∃ (o : Int32) (c f : Nat → Nat), SC σ k o c f) ∧ (∀ k, k < li → SS σ k (od k) (cf k) (ts k)) ∧ (∀ k, k < li → SR (od k) (cf k) (ts k)) ∧ li ≤ 20 ∧ gi ≤ 40
theorem SC.congr {σ σ' : zWd} {k : Nat} {o : Int32} {c f : Nat → Nat} (h : SC σ k o c f) (e : ∀ j, 18 + 3 * k ≤ j → j ≤ 20 + 3 * k → σ' j = σ j) : SC σ' k o c f := by
  obtain ⟨h1, h2, h3, h4⟩ := h
  exact ⟨by rw [e _ (by omega) (by omega)]; exact h1, by rw [e _ (by omega) (by omega)]; exact h2, by rw [e _ (by omega) (by omega)]; exact h3, h4⟩
theorem SS.congr {σ σ' : zWd} {k o : Nat} {c f : Nat → Nat} (h : SS σ k o c f) (e : ∀ j, 18 + 3 * k ≤ j → j ≤ 20 + 3 * k → σ' j = σ j) : SS σ' k o c f := by
  obtain ⟨c', f', h1, h2⟩ := h
  exact ⟨c', f', h1.congr e, h2⟩
theorem FI.congr {σ σ' : zWd} (h : FI σ) (e : ∀ j, 5 ≤ j → j ≤ 8 → σ' j = σ j) : FI σ' := by
  obtain ⟨p1, p2, p3, a, b, c, h1, h2, h3, h4, h5⟩ := h
  exact ⟨p1, p2, p3, a, b, c, by rw [e _ (by omega) (by omega)]; exact h1, by rw [e _ (by omega) (by omega)]; exact h2, by rw [e _ (by omega) (by omega)]; exact h3, by rw [e _ (by omega) (by omega)]; exact h4, h5⟩
theorem SK.congr {σ σ' : zWd} (h : SK σ) (e : ∀ j, 9 ≤ j → j ≤ 14 → σ' j = σ j) : SK σ' := by
  obtain ⟨q1, q2, q3, q4, a1, a2, a3, a4, a5, h1, h2, h3, h4, h5, h6, h7⟩ := h
  exact ⟨q1, q2, q3, q4, a1, a2, a3, a4, a5, by rw [e _ (by omega) (by omega)]; exact h1, by rw [e _ (by omega) (by omega)]; exact h2, by rw [e _ (by omega) (by omega)]; exact h3, by rw [e _ (by omega) (by omega)]; exact h4, by rw [e _ (by omega) (by omega)]; exact h5, by rw [e _ (by omega) (by omega)]; exact h6, h7⟩
theorem DV.congr {σ σ' : zWd} (h : DV σ) (e : ∀ j, 15 ≤ j → j ≤ 17 → σ' j = σ j) : DV σ' := by
  obtain ⟨h1, a, b, h2, h3, h4⟩ := h
  exact ⟨by rw [e _ (by omega) (by omega)]; exact h1, a, b, by rw [e _ (by omega) (by omega)]; exact h2, by rw [e _ (by omega) (by omega)]; exact h3, h4⟩
theorem LI.congr {σ σ' : zWd} (h : LI σ) (e : σ' 1 = σ 1) : LI σ' := by
  obtain ⟨f, h1, h2⟩ := h
  exact ⟨f, by rw [e]; exact h1, h2⟩
theorem AR.congr {σ σ' : zWd} {p N : Nat} (h : AR σ p N) (e : σ' p = σ p) : AR σ' p N := by
  obtain ⟨g, h1, h2⟩ := h
  exact ⟨g, by rw [e]; exact h1, h2⟩
theorem CS.congr {li gi : Nat} {row od : Nat → Nat} {cf ts : Nat → Nat → Nat} {σ σ' : zWd} (h : CS li gi row od cf ts σ) (e : ∀ j, j < 78 → σ' j = σ j) : CS li gi row od cf ts σ' := by
  obtain ⟨h0, h1, ⟨h2, h2'⟩, h3, h4, h5, h6, h7, h8, h9, h10, h11, h12⟩ := h
  refine ⟨by rw [e 0 (by omega)]; exact h0, h1.congr (e 1 (by omega)), ⟨by rw [e 2 (by omega)]; exact h2, h2'⟩, h3.congr (e 3 (by omega)), h4.congr (e 4 (by omega)), h5.congr (fun j _ _ => e j (by omega)), h6.congr (fun j _ _ => e j (by omega)), h7.congr (fun j _ _ => e j (by omega)), fun k hk => ?_, fun k hk => (h9 k hk).congr (fun j _ _ => e j (by omega)), h10, h11, h12⟩
  obtain ⟨o, c, f, hs⟩ := h8 k hk
  exact ⟨o, c, f, hs.congr (fun j _ _ => e j (by omega))⟩
/-- made changes -/
theorem CS.made {li gi : Nat} {row od : Nat → Nat} {cf ts : Nat → Nat → Nat} {σ : zWd} {g : Nat → Nat} (h : CS li gi row od cf ts σ) (hg : ∀ j, g j < 2147483647) : CS li gi row od cf ts (va_up σ 3 (zN 48 g)) := by
  obtain ⟨h0, h1, ⟨h2, h2'⟩, h3, h4, h5, h6, h7, h8, h9, h10, h11, h12⟩ := h
  have e : ∀ j, j ≠ 3 → va_up σ 3 (zN 48 g) j = σ j := fun j hj => zu_ne hj
  refine ⟨by rw [e 0 (by omega)]; exact h0, h1.congr (e 1 (by omega)), ⟨by rw [e 2 (by omega)]; exact h2, h2'⟩, ⟨g, zu_same, hg⟩, h4.congr (e 4 (by omega)), h5.congr (fun j _ _ => e j (by omega)), h6.congr (fun j _ _ => e j (by omega)), h7.congr (fun j _ _ => e j (by omega)), fun k hk => ?_, fun k hk => (h9 k hk).congr (fun j _ _ => e j (by omega)), h10, h11, h12⟩
  obtain ⟨o, c, f, hs⟩ := h8 k hk
  exact ⟨o, c, f, hs.congr (fun j _ _ => e j (by omega))⟩
theorem CS.walk {li gi : Nat} {row od : Nat → Nat} {cf ts : Nat → Nat → Nat} {σ : zWd} {g : Nat → Nat} (h : CS li gi row od cf ts σ) (hg : ∀ j, g j < 2147483647) : CS li gi row od cf ts (va_up σ 4 (zN 2129 g)) := by
  obtain ⟨h0, h1, ⟨h2, h2'⟩, h3, h4, h5, h6, h7, h8, h9, h10, h11, h12⟩ := h
  have e : ∀ j, j ≠ 4 → va_up σ 4 (zN 2129 g) j = σ j := fun j hj => zu_ne hj
  refine ⟨by rw [e 0 (by omega)]; exact h0, h1.congr (e 1 (by omega)), ⟨by rw [e 2 (by omega)]; exact h2, h2'⟩, h3.congr (e 3 (by omega)), ⟨g, zu_same, hg⟩, h5.congr (fun j _ _ => e j (by omega)), h6.congr (fun j _ _ => e j (by omega)), h7.congr (fun j _ _ => e j (by omega)), fun k hk => ?_, fun k hk => (h9 k hk).congr (fun j _ _ => e j (by omega)), h10, h11, h12⟩
  obtain ⟨o, c, f, hs⟩ := h8 k hk
  exact ⟨o, c, f, hs.congr (fun j _ _ => e j (by omega))⟩
/-- the row and the counters change -/
theorem CS.row {li gi : Nat} {row od : Nat → Nat} {cf ts : Nat → Nat → Nat} {σ : zWd} {li' gi' : Nat} {row' : Nat → Nat} (h : CS li gi row od cf ts σ) (hg : ∀ j, row' j < 2147483647) (hl : li' ≤ li) (hg' : gi' ≤ 40) : CS li' gi' row' od cf ts (va_up (va_up σ 2 (zN 40 row')) 0 (c0_ li' gi')) := by
  obtain ⟨h0, h1, ⟨h2, h2'⟩, h3, h4, h5, h6, h7, h8, h9, h10, h11, h12⟩ := h
  have e : ∀ j, j ≠ 0 → j ≠ 2 → va_up (va_up σ 2 (zN 40 row')) 0 (c0_ li' gi') j = σ j := fun j hj hj2 => by rw [zu_ne hj, zu_ne hj2]
  refine ⟨zu_same, h1.congr (e 1 (by omega) (by omega)), ⟨by rw [zu_ne (by omega)]; exact zu_same, hg⟩, h3.congr (e 3 (by omega) (by omega)), h4.congr (e 4 (by omega) (by omega)), h5.congr (fun j _ _ => e j (by omega) (by omega)), h6.congr (fun j _ _ => e j (by omega) (by omega)), h7.congr (fun j _ _ => e j (by omega) (by omega)), fun k hk => ?_, fun k hk => (h9 k (by omega)).congr (fun j _ _ => e j (by omega) (by omega)), fun k hk => h10 k (by omega), by omega, hg'⟩
  obtain ⟨o, c, f, hs⟩ := h8 k hk
  exact ⟨o, c, f, hs.congr (fun j _ _ => e j (by omega) (by omega))⟩
theorem lo_congr {K : Type} [Lean.Grind.CommRing K] {s : Nat → K} {R : Nat} {c c' : Nat → K} (h : lo_ s R c) (e : ∀ i, i < R → c i = c' i) : lo_ s R c' := by
  refine ⟨fun n => ?_, h.2⟩
  rw [h.1 n]
  exact sm_congr (fun i hi => by rw [e i hi])
/-- in the list -/
def isL (li : Nat) (k : Int32) : Prop := ∃ a, a < li ∧ k = nI a
theorem isL_no {li : Nat} (hli : li ≤ 20) {k : Int32} (h : ¬ isL li k) : k < 0 ∨ nI li ≤ k := by
  rcases pk_ix k (n := li) (by omega) with h1 | h1 | ⟨j, h1, h2⟩
  · exact Or.inl h1
  · exact Or.inr h1
  · exact absurd ⟨j, h1, h2⟩ h
theorem ct_isListed_yes {n : Nat} {σ : zWd} {li gi a : Nat} (h0 : σ 0 = c0_ li gi) (hn : 0 < n) (hli : li ≤ 20) (ha : a < li) : Ct m_rs_isListed [.ref 0, .int (nI a)] n σ (zEq (some (.int (nI 1))) n σ) := by
  have h0 : σ 0 = zO 0 [.ref 1, .ref 2, .ref 3, .ref 4, .ref 5, .ref 9, .ref 15, .int (nI li), .int (nI gi)] := h0
  refine Ct.of (lv := [some (.ref 0), some (.int (nI a))]) 0 (by decide) rfl (Nat.le_of_ble_eq_true rfl) ?_
  refine z_ild1 (q := 1) d_rs_isListed_0 rfl ?_
  refine zi_if_lt (q := 4) (tgt := 16) d_rs_isListed_1 rfl (by decide) (by omega) ?_
  refine z_ild1 (q := 5) d_rs_isListed_4 rfl ?_
  refine z_ald0 (q := 6) d_rs_isListed_5 rfl ?_
  refine z_get 7 (q := 9) d_rs_isListed_6 rfl fg_rs_47 (by first | assumption | omega) (by first | assumption | omega) (by rfl) ?_
  refine zn_icmp_ge (q := 12) (tgt := 16) d_rs_isListed_9 rfl (by decide) (by omega) (by omega) (fun hb => ?_) (fun hb => ?_)
  · exact absurd hb (by omega)
  · refine z_iconst (v := nI 1) (q := 13) d_rs_isListed_12 rfl (by decide) ?_
    refine z_goto (tgt := 17) d_rs_isListed_13 (by decide) ?_
    exact z_zret d_rs_isListed_17 rfl rfl (Nat.le_refl _) (Nat.le_refl _) ⟨rfl, rfl, rfl⟩
theorem ct_isListed_no {n : Nat} {σ : zWd} {li gi : Nat} {k : Int32} (h0 : σ 0 = c0_ li gi) (hn : 0 < n) (hli : li ≤ 20) (hk : ¬ isL li k) : Ct m_rs_isListed [.ref 0, .int k] n σ (zEq (some (.int (nI 0))) n σ) := by
  have h0 : σ 0 = zO 0 [.ref 1, .ref 2, .ref 3, .ref 4, .ref 5, .ref 9, .ref 15, .int (nI li), .int (nI gi)] := h0
  have hk := isL_no hli hk
  refine Ct.of (lv := [some (.ref 0), some (.int k)]) 0 (by decide) rfl (Nat.le_of_ble_eq_true rfl) ?_
  have fin : Z m_rs_isListed (zEq (some (.int (nI 0))) n σ) 0 0 n σ 16 [some (.ref 0), some (.int k)] [] := by
    refine z_iconst (v := nI 0) (q := 17) d_rs_isListed_16 rfl (by decide) ?_
    exact z_zret d_rs_isListed_17 rfl rfl (Nat.le_refl _) (Nat.le_refl _) ⟨rfl, rfl, rfl⟩
  refine z_ild1 (q := 1) d_rs_isListed_0 rfl ?_
  refine z_if_lt (q := 4) (tgt := 16) d_rs_isListed_1 rfl (by decide) (fun hb => ?_) (fun hb => ?_)
  · exact fin
  · refine z_ild1 (q := 5) d_rs_isListed_4 rfl ?_
    refine z_ald0 (q := 6) d_rs_isListed_5 rfl ?_
    refine z_get 7 (q := 9) d_rs_isListed_6 rfl fg_rs_47 (by first | assumption | omega) (by first | assumption | omega) (by rfl) ?_
    refine z_icmp_ge (q := 12) (tgt := 16) d_rs_isListed_9 rfl (by decide) (fun hb => ?_) (fun hb => ?_)
    · exact fin
    · rcases hk with h | h
      · exact absurd h (by assumption)
      · exact absurd h hb
def nf_ (li B : Nat) : Int32 := if 20 ≤ li then -2 else if 24 < B then -3 else nI li
theorem ct_numberFor {n : Nat} {σ : zWd} {li gi B : Nat} (h0 : σ 0 = c0_ li gi) (hn : 0 < n) (hli : li ≤ 20) (hB : B < 100000) : Ct m_rs_numberFor [.ref 0, .int (nI B)] n σ (zEq (some (.int (nf_ li B))) n σ) := by
  have h0 : σ 0 = zO 0 [.ref 1, .ref 2, .ref 3, .ref 4, .ref 5, .ref 9, .ref 15, .int (nI li), .int (nI gi)] := h0
  refine Ct.of (lv := [some (.ref 0), some (.int (nI B))]) 0 (by decide) rfl (Nat.le_of_ble_eq_true rfl) ?_
  refine z_ald0 (q := 1) d_rs_numberFor_0 rfl ?_
  refine z_get 7 (q := 4) d_rs_numberFor_1 rfl fg_rs_47 (by first | assumption | omega) (by first | assumption | omega) (by rfl) ?_
  refine z_bipush (v := nI 20) (q := 6) d_rs_numberFor_4 rfl (by decide) ?_
  refine zn_icmp_lt (q := 9) (tgt := 12) d_rs_numberFor_6 rfl (by decide) (by omega) (by omega) (fun hb => ?_) (fun hb => ?_)
  · refine z_ild1 (q := 13) d_rs_numberFor_12 rfl ?_
    refine z_bipush (v := nI 24) (q := 15) d_rs_numberFor_13 rfl (by decide) ?_
    refine zn_icmp_le (q := 18) (tgt := 23) d_rs_numberFor_15 rfl (by decide) (by omega) (by omega) (fun hb2 => ?_) (fun hb2 => ?_)
    · refine z_ald0 (q := 24) d_rs_numberFor_23 rfl ?_
      refine z_get 7 (q := 27) d_rs_numberFor_24 rfl fg_rs_47 (by first | assumption | omega) (by first | assumption | omega) (by rfl) ?_
      exact z_iret d_rs_numberFor_27 rfl (Nat.le_refl _) (Nat.le_refl _) ⟨by unfold nf_; rw [if_neg (by omega), if_neg (by omega)], rfl, rfl⟩
    · refine z_bipush (v := (-3)) (q := 20) d_rs_numberFor_18 rfl (by decide) ?_
      refine z_goto (tgt := 27) d_rs_numberFor_20 (by decide) ?_
      exact z_iret d_rs_numberFor_27 rfl (Nat.le_refl _) (Nat.le_refl _) ⟨by unfold nf_; rw [if_neg (by omega), if_pos (by omega)], rfl, rfl⟩
  · refine z_bipush (v := (-2)) (q := 11) d_rs_numberFor_9 rfl (by decide) ?_
    exact z_iret d_rs_numberFor_11 rfl (Nat.le_refl _) (Nat.le_refl _) ⟨by unfold nf_; rw [if_pos (by omega)], rfl, rfl⟩
end
section
/-! RecurrentSeries.enlist: the series whose first terms stand in made -/
def EN (SP : Nat → Nat → (Nat → Nat) → (Nat → Nat) → (Nat → Nat → Nat) → (Nat → Nat → Nat) → zWd → Prop) (Fr : zWd → zWd → Prop) (σ : zWd) (li gi : Nat) (row od : Nat → Nat) (cf ts : Nat → Nat → Nat) (B : Nat) (s : Nat → Nat) : Option Value → Nat → zWd → Prop := fun r n' σ' =>
  n' = 90 ∧ Fr σ σ' ∧ r = some (.int (nI li)) ∧ ∃ (o : Nat) (c : Nat → Nat), o ≤ B ∧ SR o c s ∧ SP (li + 1) gi row (va_up od li o) (va_up cf li c) (va_up ts li s) σ'
/-- the model's cells stay -/
def FrC (σ σ' : zWd) : Prop := ∀ j, 78 ≤ j → σ' j = σ j
theorem SR_of {o : Nat} {c s : Nat → Nat} (ho : o ≤ 24) (hs : ∀ n, s n < 2147483647) (hc : ∀ i, c i < 2147483647) (h : lo_ (fun n => ph (s n)) o (fun i => ph (c i))) : SR o c s := by
  refine ⟨ho, hs, hc, fun n hn => ?_, h⟩
  have h1 := h.1 (n - o)
  rw [show n - o + o = n by omega] at h1
  refine (ph_eq (hs n) (fo_lt c s n o)).mp ?_
  rw [fo_ph]
  exact h1
theorem ct_enlist {σ : zWd} {li gi B : Nat} {row od g s : Nat → Nat} {cf ts : Nat → Nat → Nat} (h : CS li gi row od cf ts σ) (hli : li < 20) (hB : B ≤ 24) (h3 : σ 3 = zN 48 g) (hgP : ∀ j, g j < 2147483647) (hg : ∀ j, j < 2 * B → g j = s j) (hsP : ∀ j, s j < 2147483647) (hob : ∃ r, r ≤ B ∧ ∃ c : Nat → FP, ob r c (fun n => ph (s n))) :
    Ct m_rs_enlist [.ref 0, .int (nI B)] 90 σ (EN CS FrC σ li gi row od cf ts B s) := by
  obtain ⟨R, hRB, cR, hlo⟩ := lo_ex hob
  obtain ⟨h0, ⟨f, hf1, hf2⟩, ⟨h2, h2'⟩, -, h4, hFI, hSK, hDV, h8, h9, h10, h11, h12⟩ := h
  obtain ⟨p1, p2, p3, a, b, c3, i1, i2, i3, i4, ⟨i5, i6⟩, ⟨i7, i8⟩, ⟨i9, i10⟩, i11, i12, i13, i14, i15, i16⟩ := hFI
  obtain ⟨o0, c0, f0, k1, k2, k3, k4, k5⟩ := h8 li hli
  have h0' : σ 0 = zO 0 [.ref 1, .ref 2, .ref 3, .ref 4, .ref 5, .ref 9, .ref 15, .int (nI li), .int (nI gi)] := h0
  have hfl := hf2 li hli
  refine Ct.of (lv := [some (.ref 0), some (.int (nI B)), none, none]) 2 (by decide) rfl (Nat.le_of_ble_eq_true rfl) ?_
  generalize hPo : EN CS FrC σ li gi row od cf ts B s = Po
  refine z_ald0 (q := 1) d_rs_enlist_0 rfl ?_
  refine z_get 0 (q := 4) d_rs_enlist_1 rfl fg_rs_11 (by first | assumption | omega) (by first | assumption | omega) (by rfl) ?_
  refine z_ald0 (q := 5) d_rs_enlist_4 rfl ?_
  refine z_get 7 (q := 8) d_rs_enlist_5 rfl fg_rs_47 (by first | assumption | omega) (by first | assumption | omega) (by rfl) ?_
  refine z_aaload (q := 9) d_rs_enlist_8 rfl (by first | assumption | omega) (by first | assumption | omega) (by omega) (by omega) (by first | assumption | omega) ?_
  refine z_ast2 (q := 10) d_rs_enlist_9 rfl rfl ?_
  refine z_ald0 (q := 11) d_rs_enlist_10 rfl ?_
  refine z_get 4 (q := 14) d_rs_enlist_11 rfl fg_rs_28 (by first | assumption | omega) (by first | assumption | omega) (by rfl) ?_
  refine z_ald0 (q := 15) d_rs_enlist_14 rfl ?_
  refine z_get 2 (q := 18) d_rs_enlist_15 rfl fg_rs_19 (by first | assumption | omega) (by first | assumption | omega) (by rfl) ?_
  refine z_iconst (v := nI 2) (q := 19) d_rs_enlist_18 rfl (by decide) ?_
  refine z_ild1 (q := 20) d_rs_enlist_19 rfl ?_
  first | refine zn_imul (q := 21) d_rs_enlist_20 rfl ?_ | refine z_imul (q := 21) d_rs_enlist_20 rfl ?_
  refine z_ald2 (q := 22) d_rs_enlist_21 rfl ?_
  refine z_gV3 (q := 25) d_rs_enlist_22 rfl (ct_find i1 i2 i3 i4 h3 k1 k2 i5 i7 i9 i6 i8 i10 i11 i12 i13 (by omega) (by omega) (by omega) (show 2 * B ≤ 48 by omega) (show R ≤ 48 by omega) hg i14 i15 i16 hgP hlo.1) (by first | assumption | omega) (by first | assumption | omega) rfl ck_fi_find lk_rs_110 im_fi_find sl_fi_find ⟨by decide, by decide⟩ (Nat.le_of_ble_eq_true rfl) rfl rfl (fun r m τ hp => ?_)
  obtain ⟨rfl, rfl, A, B', S, pb, ps, L, u, Lm, AK, BK, d, hpp, hA, hB', hS, hAK, hbi, hLR, rfl⟩ := hp
  obtain ⟨rfl, hAc⟩ := bi_end fp_inv hbi hlo hRB hLR
  -- the coefficients
  have hcP : ∀ i, fl_ A c0 L i < 2147483647 := fl_lt hA k4
  have hlo' : lo_ (fun n => ph (s n)) L (fun i => ph (fl_ A c0 L i)) := lo_congr hlo (fun i hi => by
    show cR i = ph (fl_ A c0 L i)
    rw [fl_lo hi, hAK i (by omega), hAc i hi])
  have hSR : SR L (fl_ A c0 L) s := SR_of (by omega) hsP hcP hlo'
  generalize hσ1 : va_up (va_up (wf_ σ p1 pb ps A B' S) (18 + 3 * li) (zO 1 [.int (nI L), .ref (19 + 3 * li), .ref (20 + 3 * li)])) (19 + 3 * li) (zN 48 (fl_ A c0 L)) = σ1
  have e1 : ∀ j, (j < 5 ∨ 8 < j) → j ≠ 18 + 3 * li → j ≠ 19 + 3 * li → σ1 j = σ j := fun j q1 q2 q3 => by
    rw [← hσ1, zu_ne q3, zu_ne q2, wf_o (by omega) (by omega) (by omega) (by omega)]
  have s0 : σ1 0 = zO 0 [.ref 1, .ref 2, .ref 3, .ref 4, .ref 5, .ref 9, .ref 15, .int (nI li), .int (nI gi)] := by rw [e1 0 (by omega) (by omega) (by omega)]; exact h0
  have s3 : σ1 3 = zN 48 g := by rw [e1 3 (by omega) (by omega) (by omega)]; exact h3
  have sse : σ1 (18 + 3 * li) = zO 1 [.int (nI L), .ref (19 + 3 * li), .ref (20 + 3 * li)] := by rw [← hσ1, zu_ne (by omega), zu_same]
  have sci : σ1 (19 + 3 * li) = zN 48 (fl_ A c0 L) := by rw [← hσ1, zu_same]
  have sti : σ1 (20 + 3 * li) = zN 88 f0 := by rw [e1 _ (by omega) (by omega) (by omega)]; exact k3
  have sFI : FI σ1 := ⟨p1, pb, ps, A, B', S, by rw [← hσ1, zu_ne (by omega), zu_ne (by omega)]; exact wf_5 i5 (by omega) (by omega), by rw [← hσ1, zu_ne (by omega), zu_ne (by omega)]; exact wf_1 (by omega) (by omega), by rw [← hσ1, zu_ne (by omega), zu_ne (by omega)]; exact wf_b (by omega), by rw [← hσ1, zu_ne (by omega), zu_ne (by omega)]; exact wf_s, by omega, by omega, by omega, by omega, by omega, by omega, hA, hB', hS⟩
  clear hσ1
  -- behind the copy
  have fin : ∀ t3 : Option Value, Z m_rs_enlist Po 0 0 90 (va_up σ1 (20 + 3 * li) (zN 88 (fl_ g f0 L))) 53 [some (.ref 0), some (.int (nI B)), some (.ref (18 + 3 * li)), t3] [] := by
    intro t3
    have v0 : va_up σ1 (20 + 3 * li) (zN 88 (fl_ g f0 L)) 0 = zO 0 [.ref 1, .ref 2, .ref 3, .ref 4, .ref 5, .ref 9, .ref 15, .int (nI li), .int (nI gi)] := by rw [zu_ne (by omega)]; exact s0
    have vse : va_up σ1 (20 + 3 * li) (zN 88 (fl_ g f0 L)) (18 + 3 * li) = zO 1 [.int (nI L), .ref (19 + 3 * li), .ref (20 + 3 * li)] := by rw [zu_ne (by omega)]; exact sse
    have vci : va_up σ1 (20 + 3 * li) (zN 88 (fl_ g f0 L)) (19 + 3 * li) = zN 48 (fl_ A c0 L) := by rw [zu_ne (by omega)]; exact sci
    have vti : va_up σ1 (20 + 3 * li) (zN 88 (fl_ g f0 L)) (20 + 3 * li) = zN 88 (fl_ g f0 L) := zu_same
    refine z_ald2 (q := 54) d_rs_enlist_53 rfl ?_
    refine z_ald2 (q := 55) d_rs_enlist_54 rfl ?_
    refine z_get 2 (q := 58) d_rs_enlist_55 rfl fg_rs_81 (by first | assumption | omega) (by first | assumption | omega) (by rfl) ?_
    refine z_bipush (v := nI 88) (q := 60) d_rs_enlist_58 rfl (by decide) ?_
    refine z_cV2v (q := 63) d_rs_enlist_60 rfl (ct_writeTerms (f := fl_ g f0 L) (s := s) vse vci vti (by omega) (by omega) (by omega) (by omega) (by omega) (by omega) (by omega) (by omega) (by omega) (fun x hx _ => ⟨by rw [if_pos rfl]; exact zu_same, by rw [fl_lo hx]; exact hg x (by omega), fun _ => by rw [fl_lo hx]; exact hg x (by omega)⟩) hcP hsP (fl_lt hgP k5) hSR.2.2.2.1) (by first | assumption | omega) (by first | assumption | omega) rfl ck_se_writeTerms lk_rs_95 im_se_writeTerms sl_se_writeTerms ⟨by decide, by decide⟩ (Nat.le_of_ble_eq_true rfl) rfl rfl ?_
    rw [zu_up]
    generalize hf3 : fl_ s (fl_ g f0 L) 88 = f3
    have hf3P : ∀ j, f3 j < 2147483647 := fun j => by rw [← hf3]; exact fl_lt hsP (fl_lt hgP k5) j
    have hf3s : ∀ j, j < 88 → f3 j = s j := fun j hj => by rw [← hf3]; exact fl_lo hj
    have u0 : va_up σ1 (20 + 3 * li) (zN 88 f3) 0 = zO 0 [.ref 1, .ref 2, .ref 3, .ref 4, .ref 5, .ref 9, .ref 15, .int (nI li), .int (nI gi)] := by rw [zu_ne (by omega)]; exact s0
    refine z_ald0 (q := 64) d_rs_enlist_63 rfl ?_
    first | refine z_dup_r (q := 65) d_rs_enlist_64 rfl ?_ | refine z_dup_i (q := 65) d_rs_enlist_64 rfl ?_
    refine z_get 7 (q := 68) d_rs_enlist_65 rfl fg_rs_47 (by first | assumption | omega) (by first | assumption | omega) (by rfl) ?_
    refine z_iconst (v := nI 1) (q := 69) d_rs_enlist_68 rfl (by decide) ?_
    first | refine zn_iadd (q := 70) d_rs_enlist_69 rfl ?_ | refine z_iadd (q := 70) d_rs_enlist_69 rfl ?_
    refine z_put 7 (q := 73) d_rs_enlist_70 rfl fg_rs_47 ft_rs fk_rs_47 (by first | assumption | omega) (by first | assumption | omega) (fun _ => rfl) (fun _ => rfl) (by simp) ?_
    refine Z.eqw (σ' := va_up (va_up σ1 (20 + 3 * li) (zN 88 f3)) 0 (c0_ (li + 1) gi)) rfl ?_
    have y0 : va_up (va_up σ1 (20 + 3 * li) (zN 88 f3)) 0 (c0_ (li + 1) gi) 0 = zO 0 [.ref 1, .ref 2, .ref 3, .ref 4, .ref 5, .ref 9, .ref 15, .int (nI (li + 1)), .int (nI gi)] := zu_same
    refine z_ald0 (q := 74) d_rs_enlist_73 rfl ?_
    refine z_get 7 (q := 77) d_rs_enlist_74 rfl fg_rs_47 (by first | assumption | omega) (by first | assumption | omega) (by rfl) ?_
    refine z_iconst (v := nI 1) (q := 78) d_rs_enlist_77 rfl (by decide) ?_
    first | refine zn_isub (q := 79) d_rs_enlist_78 rfl (by omega) ?_ | refine z_isub (q := 79) d_rs_enlist_78 rfl ?_
    refine z_iret d_rs_enlist_79 rfl (Nat.le_refl _) (Nat.le_refl _) ?_
    rw [← hPo]
    generalize hσ2 : va_up (va_up σ1 (20 + 3 * li) (zN 88 f3)) 0 (c0_ (li + 1) gi) = σ2
    have e2 : ∀ j, j ≠ 0 → j ≠ 20 + 3 * li → σ2 j = σ1 j := fun j q1 q2 => by rw [← hσ2, zu_ne q1, zu_ne q2]
    have e3 : ∀ j, j ≠ 0 → (j < 5 ∨ 8 < j) → (j < 18 + 3 * li ∨ 20 + 3 * li < j) → σ2 j = σ j := fun j q1 q2 q3 => by rw [e2 j q1 (by omega), e1 j q2 (by omega) (by omega)]
    have hnew : SC σ2 li (nI L) (fl_ A c0 L) f3 := ⟨by rw [e2 _ (by omega) (by omega)]; exact sse, by rw [e2 _ (by omega) (by omega)]; exact sci, by rw [← hσ2, zu_ne (by omega), zu_same], hcP, hf3P⟩
    refine ⟨rfl, fun j hj => e3 j (by omega) (by omega) (by omega), by rw [show li + 1 - 1 = li by omega], L, fl_ A c0 L, by omega, hSR, ?_⟩
    refine ⟨by rw [← hσ2]; exact zu_same, LI.congr ⟨f, hf1, hf2⟩ (e3 1 (by omega) (by omega) (by omega)), ⟨by rw [e3 2 (by omega) (by omega) (by omega)]; exact h2, h2'⟩, ⟨g, by rw [e3 3 (by omega) (by omega) (by omega)]; exact h3, hgP⟩, h4.congr (e3 4 (by omega) (by omega) (by omega)), sFI.congr (fun j _ _ => e2 j (by omega) (by omega)), hSK.congr (fun j _ _ => e3 j (by omega) (by omega) (by omega)), hDV.congr (fun j _ _ => e3 j (by omega) (by omega) (by omega)), fun k hk => ?_, fun k hk => ?_, fun k hk => ?_, by omega, h12⟩
    · by_cases hkl : k = li
      · subst hkl; exact ⟨_, _, _, hnew⟩
      · obtain ⟨o, c, f', hs⟩ := h8 k hk
        exact ⟨o, c, f', hs.congr (fun j _ _ => e3 j (by omega) (by omega) (by omega))⟩
    · by_cases hkl : k = li
      · subst hkl
        rw [zu_same, zu_same, zu_same]
        exact ⟨_, _, hnew, fun i _ => rfl, hf3s⟩
      · rw [zu_ne hkl, zu_ne hkl, zu_ne hkl]
        exact (h9 k (by omega)).congr (fun j _ _ => e3 j (by omega) (by omega) (by omega))
    · by_cases hkl : k = li
      · subst hkl
        rw [zu_same, zu_same, zu_same]
        exact hSR
      · rw [zu_ne hkl, zu_ne hkl, zu_ne hkl]
        exact h10 k (by omega)
  refine z_iconst (v := nI 0) (q := 26) d_rs_enlist_25 rfl (by decide) ?_
  refine z_ist3 (q := 27) d_rs_enlist_26 rfl rfl ?_
  refine Z.eqw (σ' := va_up σ1 (20 + 3 * li) (zN 88 (fl_ g f0 0))) (by rw [fl_0]; exact zu_id sti) ?_
  have loop : ∀ e x, x + e = L → Z m_rs_enlist Po 0 0 90 (va_up σ1 (20 + 3 * li) (zN 88 (fl_ g f0 x))) 27 [some (.ref 0), some (.int (nI B)), some (.ref (18 + 3 * li)), some (.int (nI x))] [] := by
    intro e
    induction e with
    | zero =>
      intro x hx
      obtain rfl : x = L := by omega
      have vse : va_up σ1 (20 + 3 * li) (zN 88 (fl_ g f0 x)) (18 + 3 * li) = zO 1 [.int (nI x), .ref (19 + 3 * li), .ref (20 + 3 * li)] := by rw [zu_ne (by omega)]; exact sse
      refine z_ild3 (q := 28) d_rs_enlist_27 rfl ?_
      refine z_ald2 (q := 29) d_rs_enlist_28 rfl ?_
      refine z_get 0 (q := 32) d_rs_enlist_29 rfl fg_rs_78 (by first | assumption | omega) (by first | assumption | omega) (by rfl) ?_
      refine zn_icmp_ge (q := 35) (tgt := 53) d_rs_enlist_32 rfl (by decide) (by omega) (by omega) (fun hb => ?_) (fun hb => ?_)
      · exact fin _
      · exact absurd hb (by omega)
    | succ e ih =>
      intro x hx
      have v0 : va_up σ1 (20 + 3 * li) (zN 88 (fl_ g f0 x)) 0 = zO 0 [.ref 1, .ref 2, .ref 3, .ref 4, .ref 5, .ref 9, .ref 15, .int (nI li), .int (nI gi)] := by rw [zu_ne (by omega)]; exact s0
      have v3 : va_up σ1 (20 + 3 * li) (zN 88 (fl_ g f0 x)) 3 = zN 48 g := by rw [zu_ne (by omega)]; exact s3
      have vse : va_up σ1 (20 + 3 * li) (zN 88 (fl_ g f0 x)) (18 + 3 * li) = zO 1 [.int (nI L), .ref (19 + 3 * li), .ref (20 + 3 * li)] := by rw [zu_ne (by omega)]; exact sse
      have vti : va_up σ1 (20 + 3 * li) (zN 88 (fl_ g f0 x)) (20 + 3 * li) = zN 88 (fl_ g f0 x) := zu_same
      refine z_ild3 (q := 28) d_rs_enlist_27 rfl ?_
      refine z_ald2 (q := 29) d_rs_enlist_28 rfl ?_
      refine z_get 0 (q := 32) d_rs_enlist_29 rfl fg_rs_78 (by first | assumption | omega) (by first | assumption | omega) (by rfl) ?_
      refine zn_icmp_ge (q := 35) (tgt := 53) d_rs_enlist_32 rfl (by decide) (by omega) (by omega) (fun hb => ?_) (fun hb => ?_)
      · exact absurd hb (by omega)
      · refine z_ald2 (q := 36) d_rs_enlist_35 rfl ?_
        refine z_get 2 (q := 39) d_rs_enlist_36 rfl fg_rs_81 (by first | assumption | omega) (by first | assumption | omega) (by rfl) ?_
        refine z_ild3 (q := 40) d_rs_enlist_39 rfl ?_
        refine z_ald0 (q := 41) d_rs_enlist_40 rfl ?_
        refine z_get 2 (q := 44) d_rs_enlist_41 rfl fg_rs_19 (by first | assumption | omega) (by first | assumption | omega) (by rfl) ?_
        refine z_ild3 (q := 45) d_rs_enlist_44 rfl ?_
        refine z_laload (q := 46) d_rs_enlist_45 rfl (by first | assumption | omega) (by first | assumption | omega) (by omega) (by omega) ?_
        refine z_lastore (q := 47) d_rs_enlist_46 rfl (by first | assumption | omega) (by first | assumption | omega) (by omega) (by omega) ?_
        refine zn_iinc3 (d := 1) (q := 50) d_rs_enlist_47 rfl rfl ?_
        refine z_goto (tgt := 27) d_rs_enlist_50 (by decide) ?_
        refine Z.eqw ?_ (ih (x + 1) (by omega))
        rw [zu_up, fl_s]
  exact loop L 0 (by omega)
end
section
/-! The making methods of the class -/
def MK (SP : Nat → Nat → (Nat → Nat) → (Nat → Nat) → (Nat → Nat → Nat) → (Nat → Nat → Nat) → zWd → Prop) (Fr : zWd → zWd → Prop) (σ : zWd) (li gi : Nat) (row od : Nat → Nat) (cf ts : Nat → Nat → Nat) (good : Prop) (B : Nat) (s : Nat → Nat) : Option Value → Nat → zWd → Prop := fun r n' σ' =>
  (¬ good ∧ r = some (.int (-1)) ∧ n' = 90 ∧ Fr σ σ' ∧ SP li gi row od cf ts σ') ∨ (good ∧ (20 ≤ li ∨ 24 < B) ∧ r = some (.int (nf_ li B)) ∧ n' = 90 ∧ Fr σ σ' ∧ SP li gi row od cf ts σ') ∨ (good ∧ li < 20 ∧ B ≤ 24 ∧ EN SP Fr σ li gi row od cf ts B s r n' σ')
theorem nf_neg {li B : Nat} (h : 20 ≤ li ∨ 24 < B) : ¬ 0 ≤ nf_ li B := by
  unfold nf_
  by_cases h1 : 20 ≤ li
  · rw [if_pos h1]; decide
  · rw [if_neg h1, if_pos (by omega)]; decide
theorem nf_pos {li B : Nat} (h1 : li < 20) (h2 : B ≤ 24) : nf_ li B = nI li := by
  unfold nf_
  rw [if_neg (by omega), if_neg (by omega)]
theorem EN_made {SP : Nat → Nat → (Nat → Nat) → (Nat → Nat) → (Nat → Nat → Nat) → (Nat → Nat → Nat) → zWd → Prop} {σ σ0 : zWd} {li gi B n' : Nat} {row od s : Nat → Nat} {cf ts : Nat → Nat → Nat} {r : Option Value} {σ' : zWd} (e : ∀ j, 78 ≤ j → σ0 j = σ j) (h : EN SP FrC σ0 li gi row od cf ts B s r n' σ') : EN SP FrC σ li gi row od cf ts B s r n' σ' := by
  obtain ⟨h1, h2, h3⟩ := h
  exact ⟨h1, fun j hj => (h2 j hj).trans (e j hj), h3⟩
theorem ob_of {o : Nat} {c s : Nat → Nat} (h : SR o c s) : ob o (fun i => ph (c i)) (fun n => ph (s n)) := h.2.2.2.2.1
/-- sums of products, as the programs make them -/
def pd_ (a b : Nat → Nat) (n : Nat) : Nat → Nat
  | 0 => 0
  | k + 1 => (pd_ a b n k + a k * b (n - k)) % 2147483647
theorem pd_lt (a b : Nat → Nat) (n k : Nat) : pd_ a b n k < 2147483647 := by
  cases k with
  | zero => show 0 < 2147483647; omega
  | succ k => exact Nat.mod_lt _ (by omega)
theorem pd_ph (a b : Nat → Nat) (n k : Nat) : ph (pd_ a b n k) = sm k (fun i => ph (a i) * ph (b (n - i))) := by
  induction k with
  | zero => rfl
  | succ k ih => show ph ((pd_ a b n k + a k * b (n - k)) % 2147483647) = _; rw [ph_mod, ph_add, ph_mul, ih, sm_s]
def su_ (a : Nat → Nat) : Nat → Nat
  | 0 => 0
  | k + 1 => (su_ a k + a k) % 2147483647
theorem su_lt (a : Nat → Nat) (k : Nat) : su_ a k < 2147483647 := by
  cases k with
  | zero => show 0 < 2147483647; omega
  | succ k => exact Nat.mod_lt _ (by omega)
theorem su_ph (a : Nat → Nat) (k : Nat) : ph (su_ a k) = sm k (fun i => ph (a i)) := by
  induction k with
  | zero => rfl
  | succ k ih => show ph ((su_ a k + a k) % 2147483647) = _; rw [ph_mod, ph_add, ih, sm_s]
theorem cc_tail {σ : zWd} {li gi : Nat} {row od : Nat → Nat} {cf ts : Nat → Nat → Nat} (h : CS li gi row od cf ts σ) (j : Int32) : Ct m_rs_tail [.ref 0, .int j] 90 σ (MK CS FrC σ li gi row od cf ts (isL li j) (od j.toNatClampNeg) (fun n => ts j.toNatClampNeg (n + 1))) := by
  have hcs := h
  obtain ⟨h0, ⟨f, hf1, hf2⟩, ⟨h2, h2'⟩, ⟨g3, h3, h3P⟩, h4, hFI, hSK, hDV, h8, h9, h10, h11, h12⟩ := h
  have h0' : σ 0 = zO 0 [.ref 1, .ref 2, .ref 3, .ref 4, .ref 5, .ref 9, .ref 15, .int (nI li), .int (nI gi)] := h0
  by_cases hj : isL li j
  · obtain ⟨a, ha, rfl⟩ := hj
    rw [nI_clamp (by omega)]
    obtain ⟨ca, fa, ⟨a1, a2, a3, a4, a5⟩, a6, a7⟩ := h9 a ha
    have hSa := h10 a ha
    have hfa := hf2 a (by omega)
    have hoa := hSa.1
    refine Ct.of (lv := [some (.ref 0), some (.int (nI a)), none, none, none, none]) 4 (by decide) rfl (Nat.le_of_ble_eq_true rfl) ?_
    generalize hPo : MK CS FrC σ li gi row od cf ts (isL li (nI a)) (od a) (fun n => ts a (n + 1)) = Po
    generalize hs : (fun n => ts a (n + 1)) = s at hPo
    have hsP : ∀ n, s n < 2147483647 := fun n => by rw [← hs]; exact hSa.2.1 _
    refine z_ald0 (q := 1) d_rs_tail_0 rfl ?_
    refine z_ild1 (q := 2) d_rs_tail_1 rfl ?_
    refine z_cV1 (q := 5) d_rs_tail_2 rfl (ct_isListed_yes h0 (by omega) h11 ha) (by first | assumption | omega) (by first | assumption | omega) rfl ck_rs_isListed lk_rs_75 im_rs_isListed sl_rs_isListed ⟨by decide, by decide⟩ (Nat.le_of_ble_eq_true rfl) rfl rfl ?_
    refine zi_if_ne (q := 8) (tgt := 10) d_rs_tail_5 rfl (by decide) (by omega) (fun _ => ?_) (fun hb => absurd hb (by omega))
    refine z_ald0 (q := 11) d_rs_tail_10 rfl ?_
    refine z_get 0 (q := 14) d_rs_tail_11 rfl fg_rs_11 (by first | assumption | omega) (by first | assumption | omega) (by rfl) ?_
    refine z_ild1 (q := 15) d_rs_tail_14 rfl ?_
    refine z_aaload (q := 16) d_rs_tail_15 rfl (by first | assumption | omega) (by first | assumption | omega) (by omega) (by omega) (by first | assumption | omega) ?_
    refine z_ast2 (q := 17) d_rs_tail_16 rfl rfl ?_
    refine z_ald2 (q := 18) d_rs_tail_17 rfl ?_
    refine z_get 0 (q := 21) d_rs_tail_18 rfl fg_rs_78 (by first | assumption | omega) (by first | assumption | omega) (by rfl) ?_
    refine z_ist3 (q := 22) d_rs_tail_21 rfl rfl ?_
    refine z_ald0 (q := 23) d_rs_tail_22 rfl ?_
    refine z_ild3 (q := 24) d_rs_tail_23 rfl ?_
    refine z_cV1 (q := 27) d_rs_tail_24 rfl (ct_numberFor h0 (by omega) h11 (by omega)) (by first | assumption | omega) (by first | assumption | omega) rfl ck_rs_numberFor lk_rs_60 im_rs_numberFor sl_rs_numberFor ⟨by decide, by decide⟩ (Nat.le_of_ble_eq_true rfl) rfl rfl ?_
    refine z_ist4 (q := 29) d_rs_tail_27 rfl rfl ?_
    refine z_ild4 (q := 31) d_rs_tail_29 rfl ?_
    by_cases hn : 20 ≤ li ∨ 24 < od a
    · refine z_if_ge (q := 34) (tgt := 37) d_rs_tail_31 rfl (by decide) (fun hb => absurd hb (nf_neg hn)) (fun _ => ?_)
      refine z_ild4 (q := 36) d_rs_tail_34 rfl ?_
      exact z_iret d_rs_tail_36 rfl (Nat.le_refl _) (Nat.le_refl _) (by rw [← hPo]; exact Or.inr (Or.inl ⟨⟨a, ha, rfl⟩, hn, rfl, rfl, fun _ _ => rfl, hcs⟩))
    rw [nf_pos (by omega) (by omega)]
    refine zi_if_ge (tgt := 37) d_rs_tail_31 (by decide) (by omega) ?_
    have hl20 : li < 20 := by omega
    have hB24 : od a ≤ 24 := by omega

    have loop : ∀ e x, x + e = 2 * (od a) → Z m_rs_tail Po 0 0 90 (va_up σ 3 (zN 48 (fl_ s g3 x))) 40 [some (.ref 0), some (.int (nI a)), some (.ref (18 + 3 * a)), some (.int (nI (od a))), some (.int (nI li)), some (.int (nI x))] [] := by
      intro e
      induction e with
      | zero =>
        intro x hx
        obtain rfl : x = 2 * (od a) := by omega
        refine z_ild5 (q := 42) d_rs_tail_40 rfl ?_
        refine z_iconst (v := nI 2) (q := 43) d_rs_tail_42 rfl (by decide) ?_
        refine z_ild3 (q := 44) d_rs_tail_43 rfl ?_
        first | refine zn_imul (q := 45) d_rs_tail_44 rfl ?_ | refine z_imul (q := 45) d_rs_tail_44 rfl ?_
        refine zn_icmp_ge (q := 48) (tgt := 70) d_rs_tail_45 rfl (by decide) (by omega) (by omega) (fun hb => ?_) (fun hb => ?_)
        · have y0 : va_up σ 3 (zN 48 (fl_ s g3 (2 * (od a)))) 0 = zO 0 [.ref 1, .ref 2, .ref 3, .ref 4, .ref 5, .ref 9, .ref 15, .int (nI li), .int (nI gi)] := by rw [zu_ne (by omega)]; exact h0
          refine z_ald0 (q := 71) d_rs_tail_70 rfl ?_
          refine z_ild3 (q := 72) d_rs_tail_71 rfl ?_
          have hcm := hcs.made (g := fl_ s g3 (2 * (od a))) (fl_lt hsP h3P)
          refine z_gV1 (q := 75) d_rs_tail_72 rfl (ct_enlist hcm (by omega) hB24 zu_same (fl_lt hsP h3P) (fun j hj => fl_lo (by omega)) hsP (by rw [← hs]; have := bd_section fp_inv (ob_of hSa) 1 1; simpa only [Nat.one_mul] using this)) (by first | assumption | omega) (by first | assumption | omega) rfl ck_rs_enlist lk_rs_72 im_rs_enlist sl_rs_enlist ⟨by decide, by decide⟩ (Nat.le_of_ble_eq_true rfl) rfl rfl (fun r m τ hp => ?_)
          have hen := EN_made (σ := σ) (fun j hj => zu_ne (by omega)) hp
          obtain ⟨rfl, -, rfl, -⟩ := hp
          exact z_iret d_rs_tail_75 rfl (Nat.le_refl _) (Nat.le_refl _) (by rw [← hPo]; exact Or.inr (Or.inr ⟨⟨a, ha, rfl⟩, hl20, hB24, hen⟩))
        · exact absurd hb (by omega)
      | succ e ih =>
        intro x hx
        have y0 : va_up σ 3 (zN 48 (fl_ s g3 x)) 0 = zO 0 [.ref 1, .ref 2, .ref 3, .ref 4, .ref 5, .ref 9, .ref 15, .int (nI li), .int (nI gi)] := by rw [zu_ne (by omega)]; exact h0
        have y3 : va_up σ 3 (zN 48 (fl_ s g3 x)) 3 = zN 48 (fl_ s g3 x) := zu_same
        have ya : va_up σ 3 (zN 48 (fl_ s g3 x)) (18 + 3 * a) = zO 1 [.int (nI (od a)), .ref (19 + 3 * a), .ref (20 + 3 * a)] := by rw [zu_ne (by omega)]; exact a1
        have yt : va_up σ 3 (zN 48 (fl_ s g3 x)) (20 + 3 * a) = zN 88 fa := by rw [zu_ne (by omega)]; exact a3
        refine z_ild5 (q := 42) d_rs_tail_40 rfl ?_
        refine z_iconst (v := nI 2) (q := 43) d_rs_tail_42 rfl (by decide) ?_
        refine z_ild3 (q := 44) d_rs_tail_43 rfl ?_
        first | refine zn_imul (q := 45) d_rs_tail_44 rfl ?_ | refine z_imul (q := 45) d_rs_tail_44 rfl ?_
        refine zn_icmp_ge (q := 48) (tgt := 70) d_rs_tail_45 rfl (by decide) (by omega) (by omega) (fun hb => ?_) (fun hb => ?_)
        · exact absurd hb (by omega)
        · refine z_ald0 (q := 49) d_rs_tail_48 rfl ?_
          refine z_get 2 (q := 52) d_rs_tail_49 rfl fg_rs_19 (by first | assumption | omega) (by first | assumption | omega) (by rfl) ?_
          refine z_ild5 (q := 54) d_rs_tail_52 rfl ?_
          refine z_ald2 (q := 55) d_rs_tail_54 rfl ?_
          refine z_get 2 (q := 58) d_rs_tail_55 rfl fg_rs_81 (by first | assumption | omega) (by first | assumption | omega) (by rfl) ?_
          refine z_ild5 (q := 60) d_rs_tail_58 rfl ?_
          refine z_iconst (v := nI 1) (q := 61) d_rs_tail_60 rfl (by decide) ?_
          first | refine zn_iadd (q := 62) d_rs_tail_61 rfl ?_ | refine z_iadd (q := 62) d_rs_tail_61 rfl ?_
          refine z_laload (q := 63) d_rs_tail_62 rfl (by first | assumption | omega) (by first | assumption | omega) (by omega) (by omega) ?_
          refine z_lastore (q := 64) d_rs_tail_63 rfl (by first | assumption | omega) (by first | assumption | omega) (by omega) (by omega) ?_
          refine zn_iinc5 (d := 1) (q := 67) d_rs_tail_64 rfl rfl ?_
          refine z_goto (tgt := 40) d_rs_tail_67 (by decide) ?_
          refine Z.eqw ?_ (ih (x + 1) (by omega))
          rw [zu_up, ← fl_s, ← hs, a7 (x + 1) (by omega)]
    refine z_iconst (v := nI 0) (q := 38) d_rs_tail_37 rfl (by decide) ?_
    refine z_ist5 (q := 40) d_rs_tail_38 rfl rfl ?_
    exact (Z.eqw (by rw [fl_0]; exact zu_id h3) (loop (2 * od a) 0 (by omega)))
  · refine Ct.of (lv := [some (.ref 0), some (.int j), none, none, none, none]) 4 (by decide) rfl (Nat.le_of_ble_eq_true rfl) ?_
    refine z_ald0 (q := 1) d_rs_tail_0 rfl ?_
    refine z_ild1 (q := 2) d_rs_tail_1 rfl ?_
    refine z_cV1 (q := 5) d_rs_tail_2 rfl (ct_isListed_no h0 (by omega) h11 hj) (by first | assumption | omega) (by first | assumption | omega) rfl ck_rs_isListed lk_rs_75 im_rs_isListed sl_rs_isListed ⟨by decide, by decide⟩ (Nat.le_of_ble_eq_true rfl) rfl rfl ?_
    refine zi_if_ne (q := 8) (tgt := 10) d_rs_tail_5 rfl (by decide) (by omega) (fun hb => absurd rfl hb) (fun _ => ?_)
    refine z_iconst (v := (-1)) (q := 9) d_rs_tail_8 rfl (by decide) ?_
    exact z_iret d_rs_tail_9 rfl (Nat.le_refl _) (Nat.le_refl _) (Or.inl ⟨hj, rfl, rfl, fun _ _ => rfl, hcs⟩)
theorem cc_derivative {σ : zWd} {li gi : Nat} {row od : Nat → Nat} {cf ts : Nat → Nat → Nat} (h : CS li gi row od cf ts σ) (j : Int32) : Ct m_rs_derivative [.ref 0, .int j] 90 σ (MK CS FrC σ li gi row od cf ts (isL li j) (2 * od j.toNatClampNeg) (fun n => (n + 1) * ts j.toNatClampNeg (n + 1) % 2147483647)) := by
  have hcs := h
  obtain ⟨h0, ⟨f, hf1, hf2⟩, ⟨h2, h2'⟩, ⟨g3, h3, h3P⟩, h4, hFI, hSK, hDV, h8, h9, h10, h11, h12⟩ := h
  have h0' : σ 0 = zO 0 [.ref 1, .ref 2, .ref 3, .ref 4, .ref 5, .ref 9, .ref 15, .int (nI li), .int (nI gi)] := h0
  by_cases hj : isL li j
  · obtain ⟨a, ha, rfl⟩ := hj
    rw [nI_clamp (by omega)]
    obtain ⟨ca, fa, ⟨a1, a2, a3, a4, a5⟩, a6, a7⟩ := h9 a ha
    have hSa := h10 a ha
    have hfa := hf2 a (by omega)
    have hoa := hSa.1
    refine Ct.of (lv := [some (.ref 0), some (.int (nI a)), none, none, none, none]) 4 (by decide) rfl (Nat.le_of_ble_eq_true rfl) ?_
    generalize hPo : MK CS FrC σ li gi row od cf ts (isL li (nI a)) (2 * od a) (fun n => (n + 1) * ts a (n + 1) % 2147483647) = Po
    generalize hs : (fun n => (n + 1) * ts a (n + 1) % 2147483647) = s at hPo
    have hsP : ∀ n, s n < 2147483647 := fun n => by rw [← hs]; exact Nat.mod_lt _ (by omega)
    refine z_ald0 (q := 1) d_rs_derivative_0 rfl ?_
    refine z_ild1 (q := 2) d_rs_derivative_1 rfl ?_
    refine z_cV1 (q := 5) d_rs_derivative_2 rfl (ct_isListed_yes h0 (by omega) h11 ha) (by first | assumption | omega) (by first | assumption | omega) rfl ck_rs_isListed lk_rs_75 im_rs_isListed sl_rs_isListed ⟨by decide, by decide⟩ (Nat.le_of_ble_eq_true rfl) rfl rfl ?_
    refine zi_if_ne (q := 8) (tgt := 10) d_rs_derivative_5 rfl (by decide) (by omega) (fun _ => ?_) (fun hb => absurd hb (by omega))
    refine z_ald0 (q := 11) d_rs_derivative_10 rfl ?_
    refine z_get 0 (q := 14) d_rs_derivative_11 rfl fg_rs_11 (by first | assumption | omega) (by first | assumption | omega) (by rfl) ?_
    refine z_ild1 (q := 15) d_rs_derivative_14 rfl ?_
    refine z_aaload (q := 16) d_rs_derivative_15 rfl (by first | assumption | omega) (by first | assumption | omega) (by omega) (by omega) (by first | assumption | omega) ?_
    refine z_ast2 (q := 17) d_rs_derivative_16 rfl rfl ?_
    refine z_iconst (v := nI 2) (q := 18) d_rs_derivative_17 rfl (by decide) ?_
    refine z_ald2 (q := 19) d_rs_derivative_18 rfl ?_
    refine z_get 0 (q := 22) d_rs_derivative_19 rfl fg_rs_78 (by first | assumption | omega) (by first | assumption | omega) (by rfl) ?_
    first | refine zn_imul (q := 23) d_rs_derivative_22 rfl ?_ | refine z_imul (q := 23) d_rs_derivative_22 rfl ?_
    refine z_ist3 (q := 24) d_rs_derivative_23 rfl rfl ?_
    refine z_ald0 (q := 25) d_rs_derivative_24 rfl ?_
    refine z_ild3 (q := 26) d_rs_derivative_25 rfl ?_
    refine z_cV1 (q := 29) d_rs_derivative_26 rfl (ct_numberFor h0 (by omega) h11 (by omega)) (by first | assumption | omega) (by first | assumption | omega) rfl ck_rs_numberFor lk_rs_60 im_rs_numberFor sl_rs_numberFor ⟨by decide, by decide⟩ (Nat.le_of_ble_eq_true rfl) rfl rfl ?_
    refine z_ist4 (q := 31) d_rs_derivative_29 rfl rfl ?_
    refine z_ild4 (q := 33) d_rs_derivative_31 rfl ?_
    by_cases hn : 20 ≤ li ∨ 24 < 2 * od a
    · refine z_if_ge (q := 36) (tgt := 39) d_rs_derivative_33 rfl (by decide) (fun hb => absurd hb (nf_neg hn)) (fun _ => ?_)
      refine z_ild4 (q := 38) d_rs_derivative_36 rfl ?_
      exact z_iret d_rs_derivative_38 rfl (Nat.le_refl _) (Nat.le_refl _) (by rw [← hPo]; exact Or.inr (Or.inl ⟨⟨a, ha, rfl⟩, hn, rfl, rfl, fun _ _ => rfl, hcs⟩))
    rw [nf_pos (by omega) (by omega)]
    refine zi_if_ge (tgt := 39) d_rs_derivative_33 (by decide) (by omega) ?_
    have hl20 : li < 20 := by omega
    have hB24 : 2 * od a ≤ 24 := by omega

    have loop : ∀ e x, x + e = 2 * (2 * od a) → Z m_rs_derivative Po 0 0 90 (va_up σ 3 (zN 48 (fl_ s g3 x))) 42 [some (.ref 0), some (.int (nI a)), some (.ref (18 + 3 * a)), some (.int (nI (2 * od a))), some (.int (nI li)), some (.int (nI x))] [] := by
      intro e
      induction e with
      | zero =>
        intro x hx
        obtain rfl : x = 2 * (2 * od a) := by omega
        refine z_ild5 (q := 44) d_rs_derivative_42 rfl ?_
        refine z_iconst (v := nI 2) (q := 45) d_rs_derivative_44 rfl (by decide) ?_
        refine z_ild3 (q := 46) d_rs_derivative_45 rfl ?_
        first | refine zn_imul (q := 47) d_rs_derivative_46 rfl ?_ | refine z_imul (q := 47) d_rs_derivative_46 rfl ?_
        refine zn_icmp_ge (q := 50) (tgt := 80) d_rs_derivative_47 rfl (by decide) (by omega) (by omega) (fun hb => ?_) (fun hb => ?_)
        · have y0 : va_up σ 3 (zN 48 (fl_ s g3 (2 * (2 * od a)))) 0 = zO 0 [.ref 1, .ref 2, .ref 3, .ref 4, .ref 5, .ref 9, .ref 15, .int (nI li), .int (nI gi)] := by rw [zu_ne (by omega)]; exact h0
          refine z_ald0 (q := 81) d_rs_derivative_80 rfl ?_
          refine z_ild3 (q := 82) d_rs_derivative_81 rfl ?_
          have hcm := hcs.made (g := fl_ s g3 (2 * (2 * od a))) (fl_lt hsP h3P)
          refine z_gV1 (q := 85) d_rs_derivative_82 rfl (ct_enlist hcm (by omega) hB24 zu_same (fl_lt hsP h3P) (fun j hj => fl_lo (by omega)) hsP (by rw [← hs]; have := bd_derivative fp_inv ph (fun n => by rw [ph_add, ph_1]) (ob_of hSa); simp only [ph_mod, ph_mul]; rw [show 2 * od a = od a + od a by omega]; exact this)) (by first | assumption | omega) (by first | assumption | omega) rfl ck_rs_enlist lk_rs_72 im_rs_enlist sl_rs_enlist ⟨by decide, by decide⟩ (Nat.le_of_ble_eq_true rfl) rfl rfl (fun r m τ hp => ?_)
          have hen := EN_made (σ := σ) (fun j hj => zu_ne (by omega)) hp
          obtain ⟨rfl, -, rfl, -⟩ := hp
          exact z_iret d_rs_derivative_85 rfl (Nat.le_refl _) (Nat.le_refl _) (by rw [← hPo]; exact Or.inr (Or.inr ⟨⟨a, ha, rfl⟩, hl20, hB24, hen⟩))
        · exact absurd hb (by omega)
      | succ e ih =>
        intro x hx
        have y0 : va_up σ 3 (zN 48 (fl_ s g3 x)) 0 = zO 0 [.ref 1, .ref 2, .ref 3, .ref 4, .ref 5, .ref 9, .ref 15, .int (nI li), .int (nI gi)] := by rw [zu_ne (by omega)]; exact h0
        have y3 : va_up σ 3 (zN 48 (fl_ s g3 x)) 3 = zN 48 (fl_ s g3 x) := zu_same
        have ya : va_up σ 3 (zN 48 (fl_ s g3 x)) (18 + 3 * a) = zO 1 [.int (nI (od a)), .ref (19 + 3 * a), .ref (20 + 3 * a)] := by rw [zu_ne (by omega)]; exact a1
        have yt : va_up σ 3 (zN 48 (fl_ s g3 x)) (20 + 3 * a) = zN 88 fa := by rw [zu_ne (by omega)]; exact a3
        refine z_ild5 (q := 44) d_rs_derivative_42 rfl ?_
        refine z_iconst (v := nI 2) (q := 45) d_rs_derivative_44 rfl (by decide) ?_
        refine z_ild3 (q := 46) d_rs_derivative_45 rfl ?_
        first | refine zn_imul (q := 47) d_rs_derivative_46 rfl ?_ | refine z_imul (q := 47) d_rs_derivative_46 rfl ?_
        refine zn_icmp_ge (q := 50) (tgt := 80) d_rs_derivative_47 rfl (by decide) (by omega) (by omega) (fun hb => ?_) (fun hb => ?_)
        · exact absurd hb (by omega)
        · refine z_ald0 (q := 51) d_rs_derivative_50 rfl ?_
          refine z_get 2 (q := 54) d_rs_derivative_51 rfl fg_rs_19 (by first | assumption | omega) (by first | assumption | omega) (by rfl) ?_
          refine z_ild5 (q := 56) d_rs_derivative_54 rfl ?_
          refine z_ild5 (q := 58) d_rs_derivative_56 rfl ?_
          refine z_iconst (v := nI 1) (q := 59) d_rs_derivative_58 rfl (by decide) ?_
          first | refine zn_iadd (q := 60) d_rs_derivative_59 rfl ?_ | refine z_iadd (q := 60) d_rs_derivative_59 rfl ?_
          first | refine zn_i2l (q := 61) d_rs_derivative_60 rfl (by omega) ?_ | refine z_i2l (q := 61) d_rs_derivative_60 rfl ?_
          refine z_ald2 (q := 62) d_rs_derivative_61 rfl ?_
          refine z_get 2 (q := 65) d_rs_derivative_62 rfl fg_rs_81 (by first | assumption | omega) (by first | assumption | omega) (by rfl) ?_
          refine z_ild5 (q := 67) d_rs_derivative_65 rfl ?_
          refine z_iconst (v := nI 1) (q := 68) d_rs_derivative_67 rfl (by decide) ?_
          first | refine zn_iadd (q := 69) d_rs_derivative_68 rfl ?_ | refine z_iadd (q := 69) d_rs_derivative_68 rfl ?_
          refine z_laload (q := 70) d_rs_derivative_69 rfl (by first | assumption | omega) (by first | assumption | omega) (by omega) (by omega) ?_
          refine z_cS2 (q := 73) d_rs_derivative_70 rfl (ct_times 90 _ (by omega) (a5 (x + 1))) ck_nu_times lk_rs_84 st_nu_times ⟨by decide, by decide⟩ (Nat.le_of_ble_eq_true rfl) rfl rfl ?_
          refine z_lastore (q := 74) d_rs_derivative_73 rfl (by first | assumption | omega) (by first | assumption | omega) (by omega) (by omega) ?_
          refine zn_iinc5 (d := 1) (q := 77) d_rs_derivative_74 rfl rfl ?_
          refine z_goto (tgt := 42) d_rs_derivative_77 (by decide) ?_
          refine Z.eqw ?_ (ih (x + 1) (by omega))
          rw [zu_up, ← fl_s, ← hs, a7 (x + 1) (by omega)]
    refine z_iconst (v := nI 0) (q := 40) d_rs_derivative_39 rfl (by decide) ?_
    refine z_ist5 (q := 42) d_rs_derivative_40 rfl rfl ?_
    exact (Z.eqw (by rw [fl_0]; exact zu_id h3) (loop (2 * (2 * od a)) 0 (by omega)))
  · refine Ct.of (lv := [some (.ref 0), some (.int j), none, none, none, none]) 4 (by decide) rfl (Nat.le_of_ble_eq_true rfl) ?_
    refine z_ald0 (q := 1) d_rs_derivative_0 rfl ?_
    refine z_ild1 (q := 2) d_rs_derivative_1 rfl ?_
    refine z_cV1 (q := 5) d_rs_derivative_2 rfl (ct_isListed_no h0 (by omega) h11 hj) (by first | assumption | omega) (by first | assumption | omega) rfl ck_rs_isListed lk_rs_75 im_rs_isListed sl_rs_isListed ⟨by decide, by decide⟩ (Nat.le_of_ble_eq_true rfl) rfl rfl ?_
    refine zi_if_ne (q := 8) (tgt := 10) d_rs_derivative_5 rfl (by decide) (by omega) (fun hb => absurd rfl hb) (fun _ => ?_)
    refine z_iconst (v := (-1)) (q := 9) d_rs_derivative_8 rfl (by decide) ?_
    exact z_iret d_rs_derivative_9 rfl (Nat.le_refl _) (Nat.le_refl _) (Or.inl ⟨hj, rfl, rfl, fun _ _ => rfl, hcs⟩)
theorem cc_delay {σ : zWd} {li gi : Nat} {row od : Nat → Nat} {cf ts : Nat → Nat → Nat} (h : CS li gi row od cf ts σ) (j : Int32) : Ct m_rs_delay [.ref 0, .int j] 90 σ (MK CS FrC σ li gi row od cf ts (isL li j) (od j.toNatClampNeg + 1) (fun n => if n = 0 then 0 else ts j.toNatClampNeg (n - 1))) := by
  have hcs := h
  obtain ⟨h0, ⟨f, hf1, hf2⟩, ⟨h2, h2'⟩, ⟨g3, h3, h3P⟩, h4, hFI, hSK, hDV, h8, h9, h10, h11, h12⟩ := h
  have h0' : σ 0 = zO 0 [.ref 1, .ref 2, .ref 3, .ref 4, .ref 5, .ref 9, .ref 15, .int (nI li), .int (nI gi)] := h0
  by_cases hj : isL li j
  · obtain ⟨a, ha, rfl⟩ := hj
    rw [nI_clamp (by omega)]
    obtain ⟨ca, fa, ⟨a1, a2, a3, a4, a5⟩, a6, a7⟩ := h9 a ha
    have hSa := h10 a ha
    have hfa := hf2 a (by omega)
    have hoa := hSa.1
    refine Ct.of (lv := [some (.ref 0), some (.int (nI a)), none, none, none, none]) 4 (by decide) rfl (Nat.le_of_ble_eq_true rfl) ?_
    generalize hPo : MK CS FrC σ li gi row od cf ts (isL li (nI a)) (od a + 1) (fun n => if n = 0 then 0 else ts a (n - 1)) = Po
    generalize hs : (fun n => if n = 0 then 0 else ts a (n - 1)) = s at hPo
    have hsP : ∀ n, s n < 2147483647 := fun n => by rw [← hs]; exact (by dsimp only; split; omega; exact hSa.2.1 _)
    refine z_ald0 (q := 1) d_rs_delay_0 rfl ?_
    refine z_ild1 (q := 2) d_rs_delay_1 rfl ?_
    refine z_cV1 (q := 5) d_rs_delay_2 rfl (ct_isListed_yes h0 (by omega) h11 ha) (by first | assumption | omega) (by first | assumption | omega) rfl ck_rs_isListed lk_rs_75 im_rs_isListed sl_rs_isListed ⟨by decide, by decide⟩ (Nat.le_of_ble_eq_true rfl) rfl rfl ?_
    refine zi_if_ne (q := 8) (tgt := 10) d_rs_delay_5 rfl (by decide) (by omega) (fun _ => ?_) (fun hb => absurd hb (by omega))
    refine z_ald0 (q := 11) d_rs_delay_10 rfl ?_
    refine z_get 0 (q := 14) d_rs_delay_11 rfl fg_rs_11 (by first | assumption | omega) (by first | assumption | omega) (by rfl) ?_
    refine z_ild1 (q := 15) d_rs_delay_14 rfl ?_
    refine z_aaload (q := 16) d_rs_delay_15 rfl (by first | assumption | omega) (by first | assumption | omega) (by omega) (by omega) (by first | assumption | omega) ?_
    refine z_ast2 (q := 17) d_rs_delay_16 rfl rfl ?_
    refine z_ald2 (q := 18) d_rs_delay_17 rfl ?_
    refine z_get 0 (q := 21) d_rs_delay_18 rfl fg_rs_78 (by first | assumption | omega) (by first | assumption | omega) (by rfl) ?_
    refine z_iconst (v := nI 1) (q := 22) d_rs_delay_21 rfl (by decide) ?_
    first | refine zn_iadd (q := 23) d_rs_delay_22 rfl ?_ | refine z_iadd (q := 23) d_rs_delay_22 rfl ?_
    refine z_ist3 (q := 24) d_rs_delay_23 rfl rfl ?_
    refine z_ald0 (q := 25) d_rs_delay_24 rfl ?_
    refine z_ild3 (q := 26) d_rs_delay_25 rfl ?_
    refine z_cV1 (q := 29) d_rs_delay_26 rfl (ct_numberFor h0 (by omega) h11 (by omega)) (by first | assumption | omega) (by first | assumption | omega) rfl ck_rs_numberFor lk_rs_60 im_rs_numberFor sl_rs_numberFor ⟨by decide, by decide⟩ (Nat.le_of_ble_eq_true rfl) rfl rfl ?_
    refine z_ist4 (q := 31) d_rs_delay_29 rfl rfl ?_
    refine z_ild4 (q := 33) d_rs_delay_31 rfl ?_
    by_cases hn : 20 ≤ li ∨ 24 < od a + 1
    · refine z_if_ge (q := 36) (tgt := 39) d_rs_delay_33 rfl (by decide) (fun hb => absurd hb (nf_neg hn)) (fun _ => ?_)
      refine z_ild4 (q := 38) d_rs_delay_36 rfl ?_
      exact z_iret d_rs_delay_38 rfl (Nat.le_refl _) (Nat.le_refl _) (by rw [← hPo]; exact Or.inr (Or.inl ⟨⟨a, ha, rfl⟩, hn, rfl, rfl, fun _ _ => rfl, hcs⟩))
    rw [nf_pos (by omega) (by omega)]
    refine zi_if_ge (tgt := 39) d_rs_delay_33 (by decide) (by omega) ?_
    have hl20 : li < 20 := by omega
    have hB24 : od a + 1 ≤ 24 := by omega

    have loop : ∀ e x, 1 ≤ x → x + e = 2 * (od a + 1) → Z m_rs_delay Po 0 0 90 (va_up σ 3 (zN 48 (fl_ s g3 x))) 49 [some (.ref 0), some (.int (nI a)), some (.ref (18 + 3 * a)), some (.int (nI (od a + 1))), some (.int (nI li)), some (.int (nI x))] [] := by
      intro e
      induction e with
      | zero =>
        intro x hx1 hx
        obtain rfl : x = 2 * (od a + 1) := by omega
        refine z_ild5 (q := 51) d_rs_delay_49 rfl ?_
        refine z_iconst (v := nI 2) (q := 52) d_rs_delay_51 rfl (by decide) ?_
        refine z_ild3 (q := 53) d_rs_delay_52 rfl ?_
        first | refine zn_imul (q := 54) d_rs_delay_53 rfl ?_ | refine z_imul (q := 54) d_rs_delay_53 rfl ?_
        refine zn_icmp_ge (q := 57) (tgt := 79) d_rs_delay_54 rfl (by decide) (by omega) (by omega) (fun hb => ?_) (fun hb => ?_)
        · have y0 : va_up σ 3 (zN 48 (fl_ s g3 (2 * (od a + 1)))) 0 = zO 0 [.ref 1, .ref 2, .ref 3, .ref 4, .ref 5, .ref 9, .ref 15, .int (nI li), .int (nI gi)] := by rw [zu_ne (by omega)]; exact h0
          refine z_ald0 (q := 80) d_rs_delay_79 rfl ?_
          refine z_ild3 (q := 81) d_rs_delay_80 rfl ?_
          have hcm := hcs.made (g := fl_ s g3 (2 * (od a + 1))) (fl_lt hsP h3P)
          refine z_gV1 (q := 84) d_rs_delay_81 rfl (ct_enlist hcm (by omega) hB24 zu_same (fl_lt hsP h3P) (fun j hj => fl_lo (by omega)) hsP (by rw [← hs]; refine bd_delay fp_inv (ob_of hSa) (fun n => ?_); show ph (if n + 1 = 0 then 0 else ts a (n + 1 - 1)) = ph (ts a n); rw [if_neg (by omega), show n + 1 - 1 = n by omega])) (by first | assumption | omega) (by first | assumption | omega) rfl ck_rs_enlist lk_rs_72 im_rs_enlist sl_rs_enlist ⟨by decide, by decide⟩ (Nat.le_of_ble_eq_true rfl) rfl rfl (fun r m τ hp => ?_)
          have hen := EN_made (σ := σ) (fun j hj => zu_ne (by omega)) hp
          obtain ⟨rfl, -, rfl, -⟩ := hp
          exact z_iret d_rs_delay_84 rfl (Nat.le_refl _) (Nat.le_refl _) (by rw [← hPo]; exact Or.inr (Or.inr ⟨⟨a, ha, rfl⟩, hl20, hB24, hen⟩))
        · exact absurd hb (by omega)
      | succ e ih =>
        intro x hx1 hx
        have y0 : va_up σ 3 (zN 48 (fl_ s g3 x)) 0 = zO 0 [.ref 1, .ref 2, .ref 3, .ref 4, .ref 5, .ref 9, .ref 15, .int (nI li), .int (nI gi)] := by rw [zu_ne (by omega)]; exact h0
        have y3 : va_up σ 3 (zN 48 (fl_ s g3 x)) 3 = zN 48 (fl_ s g3 x) := zu_same
        have ya : va_up σ 3 (zN 48 (fl_ s g3 x)) (18 + 3 * a) = zO 1 [.int (nI (od a)), .ref (19 + 3 * a), .ref (20 + 3 * a)] := by rw [zu_ne (by omega)]; exact a1
        have yt : va_up σ 3 (zN 48 (fl_ s g3 x)) (20 + 3 * a) = zN 88 fa := by rw [zu_ne (by omega)]; exact a3
        refine z_ild5 (q := 51) d_rs_delay_49 rfl ?_
        refine z_iconst (v := nI 2) (q := 52) d_rs_delay_51 rfl (by decide) ?_
        refine z_ild3 (q := 53) d_rs_delay_52 rfl ?_
        first | refine zn_imul (q := 54) d_rs_delay_53 rfl ?_ | refine z_imul (q := 54) d_rs_delay_53 rfl ?_
        refine zn_icmp_ge (q := 57) (tgt := 79) d_rs_delay_54 rfl (by decide) (by omega) (by omega) (fun hb => ?_) (fun hb => ?_)
        · exact absurd hb (by omega)
        · refine z_ald0 (q := 58) d_rs_delay_57 rfl ?_
          refine z_get 2 (q := 61) d_rs_delay_58 rfl fg_rs_19 (by first | assumption | omega) (by first | assumption | omega) (by rfl) ?_
          refine z_ild5 (q := 63) d_rs_delay_61 rfl ?_
          refine z_ald2 (q := 64) d_rs_delay_63 rfl ?_
          refine z_get 2 (q := 67) d_rs_delay_64 rfl fg_rs_81 (by first | assumption | omega) (by first | assumption | omega) (by rfl) ?_
          refine z_ild5 (q := 69) d_rs_delay_67 rfl ?_
          refine z_iconst (v := nI 1) (q := 70) d_rs_delay_69 rfl (by decide) ?_
          first | refine zn_isub (q := 71) d_rs_delay_70 rfl (by omega) ?_ | refine z_isub (q := 71) d_rs_delay_70 rfl ?_
          refine z_laload (q := 72) d_rs_delay_71 rfl (by first | assumption | omega) (by first | assumption | omega) (by omega) (by omega) ?_
          refine z_lastore (q := 73) d_rs_delay_72 rfl (by first | assumption | omega) (by first | assumption | omega) (by omega) (by omega) ?_
          refine zn_iinc5 (d := 1) (q := 76) d_rs_delay_73 rfl rfl ?_
          refine z_goto (tgt := 49) d_rs_delay_76 (by decide) ?_
          refine Z.eqw ?_ (ih (x + 1) (by omega) (by omega))
          rw [zu_up, ← fl_s, ← hs]
          dsimp only
          rw [if_neg (by omega), a7 (x - 1) (by omega)]
    refine z_ald0 (q := 40) d_rs_delay_39 rfl ?_
    refine z_get 2 (q := 43) d_rs_delay_40 rfl fg_rs_19 (by first | assumption | omega) (by first | assumption | omega) (by rfl) ?_
    refine z_iconst (v := nI 0) (q := 44) d_rs_delay_43 rfl (by decide) ?_
    refine z_lconst (v := lN 0) (q := 45) d_rs_delay_44 rfl rfl ?_
    refine z_lastore (q := 46) d_rs_delay_45 rfl (by first | assumption | omega) (by first | assumption | omega) (by omega) (by omega) ?_
    refine z_iconst (v := nI 1) (q := 47) d_rs_delay_46 rfl (by decide) ?_
    refine z_ist5 (q := 49) d_rs_delay_47 rfl rfl ?_
    refine Z.eqw ?_ (loop (2 * (od a + 1) - 1) 1 (by omega) (by omega))
    rw [← fl_s, fl_0, ← hs]
    rfl
  · refine Ct.of (lv := [some (.ref 0), some (.int j), none, none, none, none]) 4 (by decide) rfl (Nat.le_of_ble_eq_true rfl) ?_
    refine z_ald0 (q := 1) d_rs_delay_0 rfl ?_
    refine z_ild1 (q := 2) d_rs_delay_1 rfl ?_
    refine z_cV1 (q := 5) d_rs_delay_2 rfl (ct_isListed_no h0 (by omega) h11 hj) (by first | assumption | omega) (by first | assumption | omega) rfl ck_rs_isListed lk_rs_75 im_rs_isListed sl_rs_isListed ⟨by decide, by decide⟩ (Nat.le_of_ble_eq_true rfl) rfl rfl ?_
    refine zi_if_ne (q := 8) (tgt := 10) d_rs_delay_5 rfl (by decide) (by omega) (fun hb => absurd rfl hb) (fun _ => ?_)
    refine z_iconst (v := (-1)) (q := 9) d_rs_delay_8 rfl (by decide) ?_
    exact z_iret d_rs_delay_9 rfl (Nat.le_refl _) (Nat.le_refl _) (Or.inl ⟨hj, rfl, rfl, fun _ _ => rfl, hcs⟩)
theorem cc_sums {σ : zWd} {li gi : Nat} {row od : Nat → Nat} {cf ts : Nat → Nat → Nat} (h : CS li gi row od cf ts σ) (j : Int32) : Ct m_rs_sums [.ref 0, .int j] 90 σ (MK CS FrC σ li gi row od cf ts (isL li j) (od j.toNatClampNeg + 1) (fun n => su_ (ts j.toNatClampNeg) (n + 1))) := by
  have hcs := h
  obtain ⟨h0, ⟨f, hf1, hf2⟩, ⟨h2, h2'⟩, ⟨g3, h3, h3P⟩, h4, hFI, hSK, hDV, h8, h9, h10, h11, h12⟩ := h
  have h0' : σ 0 = zO 0 [.ref 1, .ref 2, .ref 3, .ref 4, .ref 5, .ref 9, .ref 15, .int (nI li), .int (nI gi)] := h0
  by_cases hj : isL li j
  · obtain ⟨a, ha, rfl⟩ := hj
    rw [nI_clamp (by omega)]
    obtain ⟨ca, fa, ⟨a1, a2, a3, a4, a5⟩, a6, a7⟩ := h9 a ha
    have hSa := h10 a ha
    have hfa := hf2 a (by omega)
    have hoa := hSa.1
    refine Ct.of (lv := [some (.ref 0), some (.int (nI a)), none, none, none, none, none, none]) 6 (by decide) rfl (Nat.le_of_ble_eq_true rfl) ?_
    generalize hPo : MK CS FrC σ li gi row od cf ts (isL li (nI a)) (od a + 1) (fun n => su_ (ts a) (n + 1)) = Po
    generalize hs : (fun n => su_ (ts a) (n + 1)) = s at hPo
    have hsP : ∀ n, s n < 2147483647 := fun n => by rw [← hs]; exact su_lt _ _
    refine z_ald0 (q := 1) d_rs_sums_0 rfl ?_
    refine z_ild1 (q := 2) d_rs_sums_1 rfl ?_
    refine z_cV1 (q := 5) d_rs_sums_2 rfl (ct_isListed_yes h0 (by omega) h11 ha) (by first | assumption | omega) (by first | assumption | omega) rfl ck_rs_isListed lk_rs_75 im_rs_isListed sl_rs_isListed ⟨by decide, by decide⟩ (Nat.le_of_ble_eq_true rfl) rfl rfl ?_
    refine zi_if_ne (q := 8) (tgt := 10) d_rs_sums_5 rfl (by decide) (by omega) (fun _ => ?_) (fun hb => absurd hb (by omega))
    refine z_ald0 (q := 11) d_rs_sums_10 rfl ?_
    refine z_get 0 (q := 14) d_rs_sums_11 rfl fg_rs_11 (by first | assumption | omega) (by first | assumption | omega) (by rfl) ?_
    refine z_ild1 (q := 15) d_rs_sums_14 rfl ?_
    refine z_aaload (q := 16) d_rs_sums_15 rfl (by first | assumption | omega) (by first | assumption | omega) (by omega) (by omega) (by first | assumption | omega) ?_
    refine z_ast2 (q := 17) d_rs_sums_16 rfl rfl ?_
    refine z_ald2 (q := 18) d_rs_sums_17 rfl ?_
    refine z_get 0 (q := 21) d_rs_sums_18 rfl fg_rs_78 (by first | assumption | omega) (by first | assumption | omega) (by rfl) ?_
    refine z_iconst (v := nI 1) (q := 22) d_rs_sums_21 rfl (by decide) ?_
    first | refine zn_iadd (q := 23) d_rs_sums_22 rfl ?_ | refine z_iadd (q := 23) d_rs_sums_22 rfl ?_
    refine z_ist3 (q := 24) d_rs_sums_23 rfl rfl ?_
    refine z_ald0 (q := 25) d_rs_sums_24 rfl ?_
    refine z_ild3 (q := 26) d_rs_sums_25 rfl ?_
    refine z_cV1 (q := 29) d_rs_sums_26 rfl (ct_numberFor h0 (by omega) h11 (by omega)) (by first | assumption | omega) (by first | assumption | omega) rfl ck_rs_numberFor lk_rs_60 im_rs_numberFor sl_rs_numberFor ⟨by decide, by decide⟩ (Nat.le_of_ble_eq_true rfl) rfl rfl ?_
    refine z_ist4 (q := 31) d_rs_sums_29 rfl rfl ?_
    refine z_ild4 (q := 33) d_rs_sums_31 rfl ?_
    by_cases hn : 20 ≤ li ∨ 24 < od a + 1
    · refine z_if_ge (q := 36) (tgt := 39) d_rs_sums_33 rfl (by decide) (fun hb => absurd hb (nf_neg hn)) (fun _ => ?_)
      refine z_ild4 (q := 38) d_rs_sums_36 rfl ?_
      exact z_iret d_rs_sums_38 rfl (Nat.le_refl _) (Nat.le_refl _) (by rw [← hPo]; exact Or.inr (Or.inl ⟨⟨a, ha, rfl⟩, hn, rfl, rfl, fun _ _ => rfl, hcs⟩))
    rw [nf_pos (by omega) (by omega)]
    refine zi_if_ge (tgt := 39) d_rs_sums_33 (by decide) (by omega) ?_
    have hl20 : li < 20 := by omega
    have hB24 : od a + 1 ≤ 24 := by omega

    have loop : ∀ e x, x + e = 2 * (od a + 1) → Z m_rs_sums Po 0 0 90 (va_up σ 3 (zN 48 (fl_ s g3 x))) 45 [some (.ref 0), some (.int (nI a)), some (.ref (18 + 3 * a)), some (.int (nI (od a + 1))), some (.int (nI li)), some (.long (lN (su_ (ts a) x))), none, some (.int (nI x))] [] := by
      intro e
      induction e with
      | zero =>
        intro x hx
        obtain rfl : x = 2 * (od a + 1) := by omega
        refine z_ild7 (q := 47) d_rs_sums_45 rfl ?_
        refine z_iconst (v := nI 2) (q := 48) d_rs_sums_47 rfl (by decide) ?_
        refine z_ild3 (q := 49) d_rs_sums_48 rfl ?_
        first | refine zn_imul (q := 50) d_rs_sums_49 rfl ?_ | refine z_imul (q := 50) d_rs_sums_49 rfl ?_
        refine zn_icmp_ge (q := 53) (tgt := 82) d_rs_sums_50 rfl (by decide) (by omega) (by omega) (fun hb => ?_) (fun hb => ?_)
        · have y0 : va_up σ 3 (zN 48 (fl_ s g3 (2 * (od a + 1)))) 0 = zO 0 [.ref 1, .ref 2, .ref 3, .ref 4, .ref 5, .ref 9, .ref 15, .int (nI li), .int (nI gi)] := by rw [zu_ne (by omega)]; exact h0
          refine z_ald0 (q := 83) d_rs_sums_82 rfl ?_
          refine z_ild3 (q := 84) d_rs_sums_83 rfl ?_
          have hcm := hcs.made (g := fl_ s g3 (2 * (od a + 1))) (fl_lt hsP h3P)
          refine z_gV1 (q := 87) d_rs_sums_84 rfl (ct_enlist hcm (by omega) hB24 zu_same (fl_lt hsP h3P) (fun j hj => fl_lo (by omega)) hsP (by rw [← hs]; have := bd_sums fp_inv (ob_of hSa); simp only [su_ph]; exact this)) (by first | assumption | omega) (by first | assumption | omega) rfl ck_rs_enlist lk_rs_72 im_rs_enlist sl_rs_enlist ⟨by decide, by decide⟩ (Nat.le_of_ble_eq_true rfl) rfl rfl (fun r m τ hp => ?_)
          have hen := EN_made (σ := σ) (fun j hj => zu_ne (by omega)) hp
          obtain ⟨rfl, -, rfl, -⟩ := hp
          exact z_iret d_rs_sums_87 rfl (Nat.le_refl _) (Nat.le_refl _) (by rw [← hPo]; exact Or.inr (Or.inr ⟨⟨a, ha, rfl⟩, hl20, hB24, hen⟩))
        · exact absurd hb (by omega)
      | succ e ih =>
        intro x hx
        have y0 : va_up σ 3 (zN 48 (fl_ s g3 x)) 0 = zO 0 [.ref 1, .ref 2, .ref 3, .ref 4, .ref 5, .ref 9, .ref 15, .int (nI li), .int (nI gi)] := by rw [zu_ne (by omega)]; exact h0
        have y3 : va_up σ 3 (zN 48 (fl_ s g3 x)) 3 = zN 48 (fl_ s g3 x) := zu_same
        have ya : va_up σ 3 (zN 48 (fl_ s g3 x)) (18 + 3 * a) = zO 1 [.int (nI (od a)), .ref (19 + 3 * a), .ref (20 + 3 * a)] := by rw [zu_ne (by omega)]; exact a1
        have yt : va_up σ 3 (zN 48 (fl_ s g3 x)) (20 + 3 * a) = zN 88 fa := by rw [zu_ne (by omega)]; exact a3
        refine z_ild7 (q := 47) d_rs_sums_45 rfl ?_
        refine z_iconst (v := nI 2) (q := 48) d_rs_sums_47 rfl (by decide) ?_
        refine z_ild3 (q := 49) d_rs_sums_48 rfl ?_
        first | refine zn_imul (q := 50) d_rs_sums_49 rfl ?_ | refine z_imul (q := 50) d_rs_sums_49 rfl ?_
        refine zn_icmp_ge (q := 53) (tgt := 82) d_rs_sums_50 rfl (by decide) (by omega) (by omega) (fun hb => ?_) (fun hb => ?_)
        · exact absurd hb (by omega)
        · refine z_lld5 (q := 55) d_rs_sums_53 rfl ?_
          refine z_ald2 (q := 56) d_rs_sums_55 rfl ?_
          refine z_get 2 (q := 59) d_rs_sums_56 rfl fg_rs_81 (by first | assumption | omega) (by first | assumption | omega) (by rfl) ?_
          refine z_ild7 (q := 61) d_rs_sums_59 rfl ?_
          refine z_laload (q := 62) d_rs_sums_61 rfl (by first | assumption | omega) (by first | assumption | omega) (by omega) (by omega) ?_
          refine z_cS2 (q := 65) d_rs_sums_62 rfl (ct_plus 90 _ (su_lt (ts a) x) (a5 x)) ck_nu_plus lk_rs_92 st_nu_plus ⟨by decide, by decide⟩ (Nat.le_of_ble_eq_true rfl) rfl rfl ?_
          rw [a7 x (by omega)]
          refine z_lst5 (q := 67) d_rs_sums_65 rfl rfl ?_
          refine z_ald0 (q := 68) d_rs_sums_67 rfl ?_
          refine z_get 2 (q := 71) d_rs_sums_68 rfl fg_rs_19 (by first | assumption | omega) (by first | assumption | omega) (by rfl) ?_
          refine z_ild7 (q := 73) d_rs_sums_71 rfl ?_
          refine z_lld5 (q := 75) d_rs_sums_73 rfl ?_
          refine z_lastore (q := 76) d_rs_sums_75 rfl (by first | assumption | omega) (by first | assumption | omega) (by omega) (by omega) ?_
          refine zn_iinc7 (d := 1) (q := 79) d_rs_sums_76 rfl rfl ?_
          refine z_goto (tgt := 45) d_rs_sums_79 (by decide) ?_
          refine Z.eqw ?_ (ih (x + 1) (by omega))
          rw [zu_up, ← fl_s, ← hs]
          rfl
    refine z_lconst (v := lN 0) (q := 40) d_rs_sums_39 rfl rfl ?_
    refine z_lst5 (q := 42) d_rs_sums_40 rfl rfl ?_
    refine z_iconst (v := nI 0) (q := 43) d_rs_sums_42 rfl (by decide) ?_
    refine z_ist7 (q := 45) d_rs_sums_43 rfl rfl ?_
    exact (Z.eqw (by rw [fl_0]; exact zu_id h3) (loop (2 * (od a + 1)) 0 (by omega)))
  · refine Ct.of (lv := [some (.ref 0), some (.int j), none, none, none, none, none, none]) 6 (by decide) rfl (Nat.le_of_ble_eq_true rfl) ?_
    refine z_ald0 (q := 1) d_rs_sums_0 rfl ?_
    refine z_ild1 (q := 2) d_rs_sums_1 rfl ?_
    refine z_cV1 (q := 5) d_rs_sums_2 rfl (ct_isListed_no h0 (by omega) h11 hj) (by first | assumption | omega) (by first | assumption | omega) rfl ck_rs_isListed lk_rs_75 im_rs_isListed sl_rs_isListed ⟨by decide, by decide⟩ (Nat.le_of_ble_eq_true rfl) rfl rfl ?_
    refine zi_if_ne (q := 8) (tgt := 10) d_rs_sums_5 rfl (by decide) (by omega) (fun hb => absurd rfl hb) (fun _ => ?_)
    refine z_iconst (v := (-1)) (q := 9) d_rs_sums_8 rfl (by decide) ?_
    exact z_iret d_rs_sums_9 rfl (Nat.le_refl _) (Nat.le_refl _) (Or.inl ⟨hj, rfl, rfl, fun _ _ => rfl, hcs⟩)
end
section
/-! More making methods of the class: combine, product, pairwise, spread, section -/
/-- an int between two bounds -/
def isR (lo hi : Nat) (m : Int32) : Prop := ∃ b, lo ≤ b ∧ b ≤ hi ∧ m = nI b
theorem isR_of {lo hi : Nat} {m : Int32} (hh : hi < 2 ^ 31) (h1 : ¬ m < nI lo) (h2 : m ≤ nI hi) (hl : lo ≤ hi) : isR lo hi m := by
  have e0 : (nI lo).toInt = (lo : Int) := nI_toInt (by omega)
  have e1 : (nI hi).toInt = (hi : Int) := nI_toInt hh
  rw [Int32.lt_iff_toInt_lt, e0] at h1
  rw [Int32.le_iff_toInt_le, e1] at h2
  refine ⟨m.toInt.toNat, by omega, by omega, Int32.toInt_inj.mp ?_⟩
  rw [nI_toInt (by omega)]
  omega
theorem cc_combine {σ : zWd} {li gi : Nat} {row od : Nat → Nat} {cf ts : Nat → Nat → Nat} (h : CS li gi row od cf ts σ) (j k u v : Int32) : Ct m_rs_combine [.ref 0, .int j, .int k, .int u, .int v] 90 σ (MK CS FrC σ li gi row od cf ts (isL li j ∧ isL li k) (od j.toNatClampNeg + od k.toNatClampNeg) (fun n => (nu_ u * ts j.toNatClampNeg n + nu_ v * ts k.toNatClampNeg n) % 2147483647)) := by
  have hcs := h
  obtain ⟨h0, ⟨f, hf1, hf2⟩, ⟨h2, h2'⟩, ⟨g3, h3, h3P⟩, ⟨g4, h4, h4P⟩, hFI, hSK, hDV, h8, h9, h10, h11, h12⟩ := h
  have h0' : σ 0 = zO 0 [.ref 1, .ref 2, .ref 3, .ref 4, .ref 5, .ref 9, .ref 15, .int (nI li), .int (nI gi)] := h0
  by_cases hj : isL li j
  · by_cases hk : isL li k
    · obtain ⟨a, ha, rfl⟩ := hj
      obtain ⟨b, hb, rfl⟩ := hk
      rw [nI_clamp (by omega), nI_clamp (by omega)]
      obtain ⟨ca, fa, ⟨a1, a2, a3, a4, a5⟩, a6, a7⟩ := h9 a ha
      have hSa := h10 a ha
      have hfa := hf2 a (by omega)
      have hoa := hSa.1
      obtain ⟨cb, fb, ⟨b1, b2, b3, b4, b5⟩, b6, b7⟩ := h9 b hb
      have hSb := h10 b hb
      have hfb := hf2 b (by omega)
      have hob := hSb.1

      refine Ct.of (lv := [some (.ref 0), some (.int (nI a)), some (.int (nI b)), some (.int u), some (.int v), none, none, none, none, none, none, none, none, none]) 9 (by decide) rfl (Nat.le_of_ble_eq_true rfl) ?_
      have hgood : isL li (nI a) ∧ isL li (nI b) := ⟨⟨a, ha, rfl⟩, ⟨b, hb, rfl⟩⟩
      generalize hPo : MK CS FrC σ li gi row od cf ts (isL li (nI a) ∧ isL li (nI b)) (od a + od b) (fun n => (nu_ u * ts a n + nu_ v * ts b n) % 2147483647) = Po
      generalize hs : (fun n => (nu_ u * ts a n + nu_ v * ts b n) % 2147483647) = s at hPo
      have hsP : ∀ n, s n < 2147483647 := fun n => by rw [← hs]; exact Nat.mod_lt _ (by omega)
      refine z_ald0 (q := 1) d_rs_combine_0 rfl ?_
      refine z_ild1 (q := 2) d_rs_combine_1 rfl ?_
      refine z_cV1 (q := 5) d_rs_combine_2 rfl (ct_isListed_yes h0 (by omega) h11 ha) (by first | assumption | omega) (by first | assumption | omega) rfl ck_rs_isListed lk_rs_75 im_rs_isListed sl_rs_isListed ⟨by decide, by decide⟩ (Nat.le_of_ble_eq_true rfl) rfl rfl ?_
      refine zi_if_eq (q := 8) (tgt := 16) d_rs_combine_5 rfl (by decide) (by omega) (fun hb9 => absurd hb9 (by omega)) (fun _ => ?_)
      refine z_ald0 (q := 9) d_rs_combine_8 rfl ?_
      refine z_ild2 (q := 10) d_rs_combine_9 rfl ?_
      refine z_cV1 (q := 13) d_rs_combine_10 rfl (ct_isListed_yes h0 (by omega) h11 hb) (by first | assumption | omega) (by first | assumption | omega) rfl ck_rs_isListed lk_rs_75 im_rs_isListed sl_rs_isListed ⟨by decide, by decide⟩ (Nat.le_of_ble_eq_true rfl) rfl rfl ?_
      refine zi_if_ne (q := 16) (tgt := 18) d_rs_combine_13 rfl (by decide) (by omega) (fun _ => ?_) (fun hb9 => absurd hb9 (by omega))
      refine z_ald0 (q := 19) d_rs_combine_18 rfl ?_
      refine z_get 0 (q := 22) d_rs_combine_19 rfl fg_rs_11 (by first | assumption | omega) (by first | assumption | omega) (by rfl) ?_
      refine z_ild1 (q := 23) d_rs_combine_22 rfl ?_
      refine z_aaload (q := 24) d_rs_combine_23 rfl (by first | assumption | omega) (by first | assumption | omega) (by omega) (by omega) (by first | assumption | omega) ?_
      refine z_ast5 (q := 26) d_rs_combine_24 rfl rfl ?_
      refine z_ald0 (q := 27) d_rs_combine_26 rfl ?_
      refine z_get 0 (q := 30) d_rs_combine_27 rfl fg_rs_11 (by first | assumption | omega) (by first | assumption | omega) (by rfl) ?_
      refine z_ild2 (q := 31) d_rs_combine_30 rfl ?_
      refine z_aaload (q := 32) d_rs_combine_31 rfl (by first | assumption | omega) (by first | assumption | omega) (by omega) (by omega) (by first | assumption | omega) ?_
      refine z_ast6 (q := 34) d_rs_combine_32 rfl rfl ?_
      refine z_ald5 (q := 36) d_rs_combine_34 rfl ?_
      refine z_get 0 (q := 39) d_rs_combine_36 rfl fg_rs_78 (by first | assumption | omega) (by first | assumption | omega) (by rfl) ?_
      refine z_ald6 (q := 41) d_rs_combine_39 rfl ?_
      refine z_get 0 (q := 44) d_rs_combine_41 rfl fg_rs_78 (by first | assumption | omega) (by first | assumption | omega) (by rfl) ?_
      first | refine zn_iadd (q := 45) d_rs_combine_44 rfl ?_ | refine z_iadd (q := 45) d_rs_combine_44 rfl ?_
      refine z_ist7 (q := 47) d_rs_combine_45 rfl rfl ?_
      refine z_ald0 (q := 48) d_rs_combine_47 rfl ?_
      refine z_ild7 (q := 50) d_rs_combine_48 rfl ?_
      refine z_cV1 (q := 53) d_rs_combine_50 rfl (ct_numberFor h0 (by omega) h11 (by omega)) (by first | assumption | omega) (by first | assumption | omega) rfl ck_rs_numberFor lk_rs_60 im_rs_numberFor sl_rs_numberFor ⟨by decide, by decide⟩ (Nat.le_of_ble_eq_true rfl) rfl rfl ?_
      refine z_ist8 (q := 55) d_rs_combine_53 rfl rfl ?_
      refine z_ild8 (q := 57) d_rs_combine_55 rfl ?_
      by_cases hn : 20 ≤ li ∨ 24 < od a + od b
      · refine z_if_ge (q := 60) (tgt := 63) d_rs_combine_57 rfl (by decide) (fun hb => absurd hb (nf_neg hn)) (fun _ => ?_)
        refine z_ild8 (q := 62) d_rs_combine_60 rfl ?_
        exact z_iret d_rs_combine_62 rfl (Nat.le_refl _) (Nat.le_refl _) (by rw [← hPo]; exact Or.inr (Or.inl ⟨hgood, hn, rfl, rfl, fun _ _ => rfl, hcs⟩))
      rw [nf_pos (by omega) (by omega)]
      refine zi_if_ge (tgt := 63) d_rs_combine_57 (by decide) (by omega) ?_
      have hl20 : li < 20 := by omega
      have hB24 : od a + od b ≤ 24 := by omega
      refine z_ild3 (q := 64) d_rs_combine_63 rfl ?_
      refine z_cS1 (q := 67) d_rs_combine_64 rfl (ct_of 90 σ u) ck_nu_of lk_rs_54 st_nu_of ⟨by decide, by decide⟩ (Nat.le_of_ble_eq_true rfl) rfl rfl ?_
      refine z_lst9 (q := 69) d_rs_combine_67 rfl rfl ?_
      refine z_ild4 (q := 71) d_rs_combine_69 rfl ?_
      refine z_cS1 (q := 74) d_rs_combine_71 rfl (ct_of 90 σ v) ck_nu_of lk_rs_54 st_nu_of ⟨by decide, by decide⟩ (Nat.le_of_ble_eq_true rfl) rfl rfl ?_
      refine z_lst11 (q := 76) d_rs_combine_74 rfl rfl ?_
      refine z_iconst (v := nI 0) (q := 77) d_rs_combine_76 rfl (by decide) ?_
      refine z_ist13 (q := 79) d_rs_combine_77 rfl rfl ?_
      have loop : ∀ (e x : Nat) (t8 t9 t10 : Option Value), x + e = 2 * (od a + od b) → Z m_rs_combine Po 0 0 90 (va_up σ 3 (zN 48 (fl_ s g3 x))) 79 [some (.ref 0), some (.int (nI a)), some (.int (nI b)), some (.int u), some (.int v), some (.ref (18 + 3 * a)), some (.ref (18 + 3 * b)), some (.int (nI (od a + od b))), some (.int (nI li)), some (.long (lN (nu_ u))), none, some (.long (lN (nu_ v))), none, some (.int (nI x))] [] := by
        intro e
        induction e with
        | zero =>
          intro x t8 t9 t10 hx
          obtain rfl : x = 2 * (od a + od b) := by omega
          refine z_ild13 (q := 81) d_rs_combine_79 rfl ?_
          refine z_iconst (v := nI 2) (q := 82) d_rs_combine_81 rfl (by decide) ?_
          refine z_ild7 (q := 84) d_rs_combine_82 rfl ?_
          first | refine zn_imul (q := 85) d_rs_combine_84 rfl ?_ | refine z_imul (q := 85) d_rs_combine_84 rfl ?_
          refine zn_icmp_ge (q := 88) (tgt := 127) d_rs_combine_85 rfl (by decide) (by omega) (by omega) (fun hb => ?_) (fun hb => ?_)
          · have y0 : va_up σ 3 (zN 48 (fl_ s g3 (2 * (od a + od b)))) 0 = zO 0 [.ref 1, .ref 2, .ref 3, .ref 4, .ref 5, .ref 9, .ref 15, .int (nI li), .int (nI gi)] := by rw [zu_ne (by omega)]; exact h0
            refine z_ald0 (q := 128) d_rs_combine_127 rfl ?_
            refine z_ild7 (q := 130) d_rs_combine_128 rfl ?_
            have hcm := hcs.made (g := fl_ s g3 (2 * (od a + od b))) (fl_lt hsP h3P)
            refine z_gV1 (q := 133) d_rs_combine_130 rfl (ct_enlist hcm (by omega) hB24 zu_same (fl_lt hsP h3P) (fun j hj => fl_lo (by omega)) hsP (by rw [← hs]; have := bd_combine fp_inv (ob_of hSa) (ob_of hSb) (ph (nu_ u)) (ph (nu_ v)); simp only [ph_mod, ph_add, ph_mul]; exact this)) (by first | assumption | omega) (by first | assumption | omega) rfl ck_rs_enlist lk_rs_72 im_rs_enlist sl_rs_enlist ⟨by decide, by decide⟩ (Nat.le_of_ble_eq_true rfl) rfl rfl (fun r m τ hp => ?_)
            have hen := EN_made (σ := σ) (fun j hj => zu_ne (by omega)) hp
            obtain ⟨rfl, -, rfl, -⟩ := hp
            exact z_iret d_rs_combine_133 rfl (Nat.le_refl _) (Nat.le_refl _) (by rw [← hPo]; exact Or.inr (Or.inr ⟨hgood, hl20, hB24, hen⟩))
          · exact absurd hb (by omega)
        | succ e ih =>
          intro x t8 t9 t10 hx
          have y0 : va_up σ 3 (zN 48 (fl_ s g3 x)) 0 = zO 0 [.ref 1, .ref 2, .ref 3, .ref 4, .ref 5, .ref 9, .ref 15, .int (nI li), .int (nI gi)] := by rw [zu_ne (by omega)]; exact h0
          have y3 : va_up σ 3 (zN 48 (fl_ s g3 x)) 3 = zN 48 (fl_ s g3 x) := zu_same
          have ya : va_up σ 3 (zN 48 (fl_ s g3 x)) (18 + 3 * a) = zO 1 [.int (nI (od a)), .ref (19 + 3 * a), .ref (20 + 3 * a)] := by rw [zu_ne (by omega)]; exact a1
          have yta : va_up σ 3 (zN 48 (fl_ s g3 x)) (20 + 3 * a) = zN 88 fa := by rw [zu_ne (by omega)]; exact a3
          have yb : va_up σ 3 (zN 48 (fl_ s g3 x)) (18 + 3 * b) = zO 1 [.int (nI (od b)), .ref (19 + 3 * b), .ref (20 + 3 * b)] := by rw [zu_ne (by omega)]; exact b1
          have ytb : va_up σ 3 (zN 48 (fl_ s g3 x)) (20 + 3 * b) = zN 88 fb := by rw [zu_ne (by omega)]; exact b3
          refine z_ild13 (q := 81) d_rs_combine_79 rfl ?_
          refine z_iconst (v := nI 2) (q := 82) d_rs_combine_81 rfl (by decide) ?_
          refine z_ild7 (q := 84) d_rs_combine_82 rfl ?_
          first | refine zn_imul (q := 85) d_rs_combine_84 rfl ?_ | refine z_imul (q := 85) d_rs_combine_84 rfl ?_
          refine zn_icmp_ge (q := 88) (tgt := 127) d_rs_combine_85 rfl (by decide) (by omega) (by omega) (fun hb => ?_) (fun hb => ?_)
          · exact absurd hb (by omega)
          · refine z_ald0 (q := 89) d_rs_combine_88 rfl ?_
            refine z_get 2 (q := 92) d_rs_combine_89 rfl fg_rs_19 (by first | assumption | omega) (by first | assumption | omega) (by rfl) ?_
            refine z_ild13 (q := 94) d_rs_combine_92 rfl ?_
            refine z_lld9 (q := 96) d_rs_combine_94 rfl ?_
            refine z_ald5 (q := 98) d_rs_combine_96 rfl ?_
            refine z_get 2 (q := 101) d_rs_combine_98 rfl fg_rs_81 (by first | assumption | omega) (by first | assumption | omega) (by rfl) ?_
            refine z_ild13 (q := 103) d_rs_combine_101 rfl ?_
            refine z_laload (q := 104) d_rs_combine_103 rfl (by first | assumption | omega) (by first | assumption | omega) (by omega) (by omega) ?_
            refine z_cS2 (q := 107) d_rs_combine_104 rfl (ct_times 90 _ (nu_lt u) (a5 x)) ck_nu_times lk_rs_84 st_nu_times ⟨by decide, by decide⟩ (Nat.le_of_ble_eq_true rfl) rfl rfl ?_
            refine z_lld11 (q := 109) d_rs_combine_107 rfl ?_
            refine z_ald6 (q := 111) d_rs_combine_109 rfl ?_
            refine z_get 2 (q := 114) d_rs_combine_111 rfl fg_rs_81 (by first | assumption | omega) (by first | assumption | omega) (by rfl) ?_
            refine z_ild13 (q := 116) d_rs_combine_114 rfl ?_
            refine z_laload (q := 117) d_rs_combine_116 rfl (by first | assumption | omega) (by first | assumption | omega) (by omega) (by omega) ?_
            refine z_cS3 (q := 120) d_rs_combine_117 rfl (ct_plusTimes 90 _ (Nat.mod_lt _ (by omega)) (nu_lt v) (b5 x)) ck_nu_plusTimes lk_rs_88 st_nu_plusTimes ⟨by decide, by decide⟩ (Nat.le_of_ble_eq_true rfl) rfl rfl ?_
            refine z_lastore (q := 121) d_rs_combine_120 rfl (by first | assumption | omega) (by first | assumption | omega) (by omega) (by omega) ?_
            refine zn_iinc13 (d := 1) (q := 124) d_rs_combine_121 rfl rfl ?_
            refine z_goto (tgt := 79) d_rs_combine_124 (by decide) ?_
            refine Z.eqw ?_ (ih (x + 1) t8 t9 t10 (by omega))
            rw [zu_up, ← fl_s, ← hs, a7 x (by omega), b7 x (by omega), Nat.mod_add_mod]
      exact (Z.eqw (by rw [fl_0]; exact zu_id h3) (loop (2 * (od a + od b)) 0 none none none (by omega)))
    · obtain ⟨a, ha, rfl⟩ := hj
      refine Ct.of (lv := [some (.ref 0), some (.int (nI a)), some (.int k), some (.int u), some (.int v), none, none, none, none, none, none, none, none, none]) 9 (by decide) rfl (Nat.le_of_ble_eq_true rfl) ?_
      refine z_ald0 (q := 1) d_rs_combine_0 rfl ?_
      refine z_ild1 (q := 2) d_rs_combine_1 rfl ?_
      refine z_cV1 (q := 5) d_rs_combine_2 rfl (ct_isListed_yes h0 (by omega) h11 ha) (by first | assumption | omega) (by first | assumption | omega) rfl ck_rs_isListed lk_rs_75 im_rs_isListed sl_rs_isListed ⟨by decide, by decide⟩ (Nat.le_of_ble_eq_true rfl) rfl rfl ?_
      refine zi_if_eq (q := 8) (tgt := 16) d_rs_combine_5 rfl (by decide) (by omega) (fun hb9 => absurd hb9 (by omega)) (fun _ => ?_)
      refine z_ald0 (q := 9) d_rs_combine_8 rfl ?_
      refine z_ild2 (q := 10) d_rs_combine_9 rfl ?_
      refine z_cV1 (q := 13) d_rs_combine_10 rfl (ct_isListed_no h0 (by omega) h11 hk) (by first | assumption | omega) (by first | assumption | omega) rfl ck_rs_isListed lk_rs_75 im_rs_isListed sl_rs_isListed ⟨by decide, by decide⟩ (Nat.le_of_ble_eq_true rfl) rfl rfl ?_
      refine zi_if_ne (q := 16) (tgt := 18) d_rs_combine_13 rfl (by decide) (by omega) (fun hb9 => absurd rfl hb9) (fun _ => ?_)
      refine z_iconst (v := (-1)) (q := 17) d_rs_combine_16 rfl (by decide) ?_
      exact z_iret d_rs_combine_17 rfl (Nat.le_refl _) (Nat.le_refl _) (Or.inl ⟨fun hh => hk hh.2, rfl, rfl, fun _ _ => rfl, hcs⟩)
  · refine Ct.of (lv := [some (.ref 0), some (.int j), some (.int k), some (.int u), some (.int v), none, none, none, none, none, none, none, none, none]) 9 (by decide) rfl (Nat.le_of_ble_eq_true rfl) ?_
    refine z_ald0 (q := 1) d_rs_combine_0 rfl ?_
    refine z_ild1 (q := 2) d_rs_combine_1 rfl ?_
    refine z_cV1 (q := 5) d_rs_combine_2 rfl (ct_isListed_no h0 (by omega) h11 hj) (by first | assumption | omega) (by first | assumption | omega) rfl ck_rs_isListed lk_rs_75 im_rs_isListed sl_rs_isListed ⟨by decide, by decide⟩ (Nat.le_of_ble_eq_true rfl) rfl rfl ?_
    refine zi_if_eq (q := 8) (tgt := 16) d_rs_combine_5 rfl (by decide) (by omega) (fun _ => ?_) (fun hb9 => absurd rfl hb9)
    refine z_iconst (v := (-1)) (q := 17) d_rs_combine_16 rfl (by decide) ?_
    exact z_iret d_rs_combine_17 rfl (Nat.le_refl _) (Nat.le_refl _) (Or.inl ⟨fun hh => hj hh.1, rfl, rfl, fun _ _ => rfl, hcs⟩)
theorem cc_product {σ : zWd} {li gi : Nat} {row od : Nat → Nat} {cf ts : Nat → Nat → Nat} (h : CS li gi row od cf ts σ) (j k : Int32) : Ct m_rs_product [.ref 0, .int j, .int k] 90 σ (MK CS FrC σ li gi row od cf ts (isL li j ∧ isL li k) (od j.toNatClampNeg + od k.toNatClampNeg) (fun n => pd_ (ts j.toNatClampNeg) (ts k.toNatClampNeg) n (n + 1))) := by
  have hcs := h
  obtain ⟨h0, ⟨f, hf1, hf2⟩, ⟨h2, h2'⟩, ⟨g3, h3, h3P⟩, ⟨g4, h4, h4P⟩, hFI, hSK, hDV, h8, h9, h10, h11, h12⟩ := h
  have h0' : σ 0 = zO 0 [.ref 1, .ref 2, .ref 3, .ref 4, .ref 5, .ref 9, .ref 15, .int (nI li), .int (nI gi)] := h0
  by_cases hj : isL li j
  · by_cases hk : isL li k
    · obtain ⟨a, ha, rfl⟩ := hj
      obtain ⟨b, hb, rfl⟩ := hk
      rw [nI_clamp (by omega), nI_clamp (by omega)]
      obtain ⟨ca, fa, ⟨a1, a2, a3, a4, a5⟩, a6, a7⟩ := h9 a ha
      have hSa := h10 a ha
      have hfa := hf2 a (by omega)
      have hoa := hSa.1
      obtain ⟨cb, fb, ⟨b1, b2, b3, b4, b5⟩, b6, b7⟩ := h9 b hb
      have hSb := h10 b hb
      have hfb := hf2 b (by omega)
      have hob := hSb.1

      refine Ct.of (lv := [some (.ref 0), some (.int (nI a)), some (.int (nI b)), none, none, none, none, none, none, none, none]) 8 (by decide) rfl (Nat.le_of_ble_eq_true rfl) ?_
      have hgood : isL li (nI a) ∧ isL li (nI b) := ⟨⟨a, ha, rfl⟩, ⟨b, hb, rfl⟩⟩
      generalize hPo : MK CS FrC σ li gi row od cf ts (isL li (nI a) ∧ isL li (nI b)) (od a + od b) (fun n => pd_ (ts a) (ts b) n (n + 1)) = Po
      generalize hs : (fun n => pd_ (ts a) (ts b) n (n + 1)) = s at hPo
      have hsP : ∀ n, s n < 2147483647 := fun n => by rw [← hs]; exact pd_lt _ _ _ _
      refine z_ald0 (q := 1) d_rs_product_0 rfl ?_
      refine z_ild1 (q := 2) d_rs_product_1 rfl ?_
      refine z_cV1 (q := 5) d_rs_product_2 rfl (ct_isListed_yes h0 (by omega) h11 ha) (by first | assumption | omega) (by first | assumption | omega) rfl ck_rs_isListed lk_rs_75 im_rs_isListed sl_rs_isListed ⟨by decide, by decide⟩ (Nat.le_of_ble_eq_true rfl) rfl rfl ?_
      refine zi_if_eq (q := 8) (tgt := 16) d_rs_product_5 rfl (by decide) (by omega) (fun hb9 => absurd hb9 (by omega)) (fun _ => ?_)
      refine z_ald0 (q := 9) d_rs_product_8 rfl ?_
      refine z_ild2 (q := 10) d_rs_product_9 rfl ?_
      refine z_cV1 (q := 13) d_rs_product_10 rfl (ct_isListed_yes h0 (by omega) h11 hb) (by first | assumption | omega) (by first | assumption | omega) rfl ck_rs_isListed lk_rs_75 im_rs_isListed sl_rs_isListed ⟨by decide, by decide⟩ (Nat.le_of_ble_eq_true rfl) rfl rfl ?_
      refine zi_if_ne (q := 16) (tgt := 18) d_rs_product_13 rfl (by decide) (by omega) (fun _ => ?_) (fun hb9 => absurd hb9 (by omega))
      refine z_ald0 (q := 19) d_rs_product_18 rfl ?_
      refine z_get 0 (q := 22) d_rs_product_19 rfl fg_rs_11 (by first | assumption | omega) (by first | assumption | omega) (by rfl) ?_
      refine z_ild1 (q := 23) d_rs_product_22 rfl ?_
      refine z_aaload (q := 24) d_rs_product_23 rfl (by first | assumption | omega) (by first | assumption | omega) (by omega) (by omega) (by first | assumption | omega) ?_
      refine z_ast3 (q := 25) d_rs_product_24 rfl rfl ?_
      refine z_ald0 (q := 26) d_rs_product_25 rfl ?_
      refine z_get 0 (q := 29) d_rs_product_26 rfl fg_rs_11 (by first | assumption | omega) (by first | assumption | omega) (by rfl) ?_
      refine z_ild2 (q := 30) d_rs_product_29 rfl ?_
      refine z_aaload (q := 31) d_rs_product_30 rfl (by first | assumption | omega) (by first | assumption | omega) (by omega) (by omega) (by first | assumption | omega) ?_
      refine z_ast4 (q := 33) d_rs_product_31 rfl rfl ?_
      refine z_ald3 (q := 34) d_rs_product_33 rfl ?_
      refine z_get 0 (q := 37) d_rs_product_34 rfl fg_rs_78 (by first | assumption | omega) (by first | assumption | omega) (by rfl) ?_
      refine z_ald4 (q := 39) d_rs_product_37 rfl ?_
      refine z_get 0 (q := 42) d_rs_product_39 rfl fg_rs_78 (by first | assumption | omega) (by first | assumption | omega) (by rfl) ?_
      first | refine zn_iadd (q := 43) d_rs_product_42 rfl ?_ | refine z_iadd (q := 43) d_rs_product_42 rfl ?_
      refine z_ist5 (q := 45) d_rs_product_43 rfl rfl ?_
      refine z_ald0 (q := 46) d_rs_product_45 rfl ?_
      refine z_ild5 (q := 48) d_rs_product_46 rfl ?_
      refine z_cV1 (q := 51) d_rs_product_48 rfl (ct_numberFor h0 (by omega) h11 (by omega)) (by first | assumption | omega) (by first | assumption | omega) rfl ck_rs_numberFor lk_rs_60 im_rs_numberFor sl_rs_numberFor ⟨by decide, by decide⟩ (Nat.le_of_ble_eq_true rfl) rfl rfl ?_
      refine z_ist6 (q := 53) d_rs_product_51 rfl rfl ?_
      refine z_ild6 (q := 55) d_rs_product_53 rfl ?_
      by_cases hn : 20 ≤ li ∨ 24 < od a + od b
      · refine z_if_ge (q := 58) (tgt := 61) d_rs_product_55 rfl (by decide) (fun hb => absurd hb (nf_neg hn)) (fun _ => ?_)
        refine z_ild6 (q := 60) d_rs_product_58 rfl ?_
        exact z_iret d_rs_product_60 rfl (Nat.le_refl _) (Nat.le_refl _) (by rw [← hPo]; exact Or.inr (Or.inl ⟨hgood, hn, rfl, rfl, fun _ _ => rfl, hcs⟩))
      rw [nf_pos (by omega) (by omega)]
      refine zi_if_ge (tgt := 61) d_rs_product_55 (by decide) (by omega) ?_
      have hl20 : li < 20 := by omega
      have hB24 : od a + od b ≤ 24 := by omega
      refine z_iconst (v := nI 0) (q := 62) d_rs_product_61 rfl (by decide) ?_
      refine z_ist7 (q := 64) d_rs_product_62 rfl rfl ?_
      have loop : ∀ (e x : Nat) (t8 t9 t10 : Option Value), x + e = 2 * (od a + od b) → Z m_rs_product Po 0 0 90 (va_up σ 3 (zN 48 (fl_ s g3 x))) 64 [some (.ref 0), some (.int (nI a)), some (.int (nI b)), some (.ref (18 + 3 * a)), some (.ref (18 + 3 * b)), some (.int (nI (od a + od b))), some (.int (nI li)), some (.int (nI x)), t8, t9, t10] [] := by
        intro e
        induction e with
        | zero =>
          intro x t8 t9 t10 hx
          obtain rfl : x = 2 * (od a + od b) := by omega
          refine z_ild7 (q := 66) d_rs_product_64 rfl ?_
          refine z_iconst (v := nI 2) (q := 67) d_rs_product_66 rfl (by decide) ?_
          refine z_ild5 (q := 69) d_rs_product_67 rfl ?_
          first | refine zn_imul (q := 70) d_rs_product_69 rfl ?_ | refine z_imul (q := 70) d_rs_product_69 rfl ?_
          refine zn_icmp_ge (q := 73) (tgt := 132) d_rs_product_70 rfl (by decide) (by omega) (by omega) (fun hb => ?_) (fun hb => ?_)
          · have y0 : va_up σ 3 (zN 48 (fl_ s g3 (2 * (od a + od b)))) 0 = zO 0 [.ref 1, .ref 2, .ref 3, .ref 4, .ref 5, .ref 9, .ref 15, .int (nI li), .int (nI gi)] := by rw [zu_ne (by omega)]; exact h0
            refine z_ald0 (q := 133) d_rs_product_132 rfl ?_
            refine z_ild5 (q := 135) d_rs_product_133 rfl ?_
            have hcm := hcs.made (g := fl_ s g3 (2 * (od a + od b))) (fl_lt hsP h3P)
            refine z_gV1 (q := 138) d_rs_product_135 rfl (ct_enlist hcm (by omega) hB24 zu_same (fl_lt hsP h3P) (fun j hj => fl_lo (by omega)) hsP (by rw [← hs]; have := bd_product fp_inv (ob_of hSa) (ob_of hSb); simp only [pd_ph]; exact this)) (by first | assumption | omega) (by first | assumption | omega) rfl ck_rs_enlist lk_rs_72 im_rs_enlist sl_rs_enlist ⟨by decide, by decide⟩ (Nat.le_of_ble_eq_true rfl) rfl rfl (fun r m τ hp => ?_)
            have hen := EN_made (σ := σ) (fun j hj => zu_ne (by omega)) hp
            obtain ⟨rfl, -, rfl, -⟩ := hp
            exact z_iret d_rs_product_138 rfl (Nat.le_refl _) (Nat.le_refl _) (by rw [← hPo]; exact Or.inr (Or.inr ⟨hgood, hl20, hB24, hen⟩))
          · exact absurd hb (by omega)
        | succ e ih =>
          intro x t8 t9 t10 hx
          have y0 : va_up σ 3 (zN 48 (fl_ s g3 x)) 0 = zO 0 [.ref 1, .ref 2, .ref 3, .ref 4, .ref 5, .ref 9, .ref 15, .int (nI li), .int (nI gi)] := by rw [zu_ne (by omega)]; exact h0
          have y3 : va_up σ 3 (zN 48 (fl_ s g3 x)) 3 = zN 48 (fl_ s g3 x) := zu_same
          have ya : va_up σ 3 (zN 48 (fl_ s g3 x)) (18 + 3 * a) = zO 1 [.int (nI (od a)), .ref (19 + 3 * a), .ref (20 + 3 * a)] := by rw [zu_ne (by omega)]; exact a1
          have yta : va_up σ 3 (zN 48 (fl_ s g3 x)) (20 + 3 * a) = zN 88 fa := by rw [zu_ne (by omega)]; exact a3
          have yb : va_up σ 3 (zN 48 (fl_ s g3 x)) (18 + 3 * b) = zO 1 [.int (nI (od b)), .ref (19 + 3 * b), .ref (20 + 3 * b)] := by rw [zu_ne (by omega)]; exact b1
          have ytb : va_up σ 3 (zN 48 (fl_ s g3 x)) (20 + 3 * b) = zN 88 fb := by rw [zu_ne (by omega)]; exact b3
          refine z_ild7 (q := 66) d_rs_product_64 rfl ?_
          refine z_iconst (v := nI 2) (q := 67) d_rs_product_66 rfl (by decide) ?_
          refine z_ild5 (q := 69) d_rs_product_67 rfl ?_
          first | refine zn_imul (q := 70) d_rs_product_69 rfl ?_ | refine z_imul (q := 70) d_rs_product_69 rfl ?_
          refine zn_icmp_ge (q := 73) (tgt := 132) d_rs_product_70 rfl (by decide) (by omega) (by omega) (fun hb => ?_) (fun hb => ?_)
          · exact absurd hb (by omega)
          · have inner : ∀ e2 z, z + e2 = x + 1 → Z m_rs_product Po 0 0 90 (va_up σ 3 (zN 48 (fl_ s g3 x))) 79 [some (.ref 0), some (.int (nI a)), some (.int (nI b)), some (.ref (18 + 3 * a)), some (.ref (18 + 3 * b)), some (.int (nI (od a + od b))), some (.int (nI li)), some (.int (nI x)), some (.long (lN (pd_ (ts a) (ts b) x z))), none, some (.int (nI z))] [] := by
              intro e2
              induction e2 with
              | zero =>
                intro z hz
                obtain rfl : z = x + 1 := by omega
                refine z_ild10 (q := 81) d_rs_product_79 rfl ?_
                refine z_ild7 (q := 83) d_rs_product_81 rfl ?_
                refine zn_icmp_gt (q := 86) (tgt := 117) d_rs_product_83 rfl (by decide) (by omega) (by omega) (fun hb => ?_) (fun hb => ?_)
                · refine z_ald0 (q := 118) d_rs_product_117 rfl ?_
                  refine z_get 2 (q := 121) d_rs_product_118 rfl fg_rs_19 (by first | assumption | omega) (by first | assumption | omega) (by rfl) ?_
                  refine z_ild7 (q := 123) d_rs_product_121 rfl ?_
                  refine z_lld8 (q := 125) d_rs_product_123 rfl ?_
                  refine z_lastore (q := 126) d_rs_product_125 rfl (by first | assumption | omega) (by first | assumption | omega) (by omega) (by omega) ?_
                  refine zn_iinc7 (d := 1) (q := 129) d_rs_product_126 rfl rfl ?_
                  refine z_goto (tgt := 64) d_rs_product_129 (by decide) ?_
                  refine Z.eqw ?_ (ih (x + 1) _ _ _ (by omega))
                  rw [zu_up, ← fl_s, ← hs]
                · exact absurd hb (by omega)
              | succ e2 ih2 =>
                intro z hz
                refine z_ild10 (q := 81) d_rs_product_79 rfl ?_
                refine z_ild7 (q := 83) d_rs_product_81 rfl ?_
                refine zn_icmp_gt (q := 86) (tgt := 117) d_rs_product_83 rfl (by decide) (by omega) (by omega) (fun hb => ?_) (fun hb => ?_)
                · exact absurd hb (by omega)
                · refine z_lld8 (q := 88) d_rs_product_86 rfl ?_
                  refine z_ald3 (q := 89) d_rs_product_88 rfl ?_
                  refine z_get 2 (q := 92) d_rs_product_89 rfl fg_rs_81 (by first | assumption | omega) (by first | assumption | omega) (by rfl) ?_
                  refine z_ild10 (q := 94) d_rs_product_92 rfl ?_
                  refine z_laload (q := 95) d_rs_product_94 rfl (by first | assumption | omega) (by first | assumption | omega) (by omega) (by omega) ?_
                  refine z_ald4 (q := 97) d_rs_product_95 rfl ?_
                  refine z_get 2 (q := 100) d_rs_product_97 rfl fg_rs_81 (by first | assumption | omega) (by first | assumption | omega) (by rfl) ?_
                  refine z_ild7 (q := 102) d_rs_product_100 rfl ?_
                  refine z_ild10 (q := 104) d_rs_product_102 rfl ?_
                  first | refine zn_isub (q := 105) d_rs_product_104 rfl (by omega) ?_ | refine z_isub (q := 105) d_rs_product_104 rfl ?_
                  refine z_laload (q := 106) d_rs_product_105 rfl (by first | assumption | omega) (by first | assumption | omega) (by omega) (by omega) ?_
                  refine z_cS3 (q := 109) d_rs_product_106 rfl (ct_plusTimes 90 _ (pd_lt (ts a) (ts b) x z) (a5 z) (b5 (x - z))) ck_nu_plusTimes lk_rs_88 st_nu_plusTimes ⟨by decide, by decide⟩ (Nat.le_of_ble_eq_true rfl) rfl rfl ?_
                  rw [a7 z (by omega), b7 (x - z) (by omega)]
                  refine z_lst8 (q := 111) d_rs_product_109 rfl rfl ?_
                  refine zn_iinc10 (d := 1) (q := 114) d_rs_product_111 rfl rfl ?_
                  refine z_goto (tgt := 79) d_rs_product_114 (by decide) ?_
                  exact ih2 (z + 1) (by omega)
            refine z_lconst (v := lN 0) (q := 74) d_rs_product_73 rfl rfl ?_
            refine z_lst8 (q := 76) d_rs_product_74 rfl rfl ?_
            refine z_iconst (v := nI 0) (q := 77) d_rs_product_76 rfl (by decide) ?_
            refine z_ist10 (q := 79) d_rs_product_77 rfl rfl ?_
            exact inner (x + 1) 0 (by omega)
      exact (Z.eqw (by rw [fl_0]; exact zu_id h3) (loop (2 * (od a + od b)) 0 _ _ _ (by omega)))
    · obtain ⟨a, ha, rfl⟩ := hj
      refine Ct.of (lv := [some (.ref 0), some (.int (nI a)), some (.int k), none, none, none, none, none, none, none, none]) 8 (by decide) rfl (Nat.le_of_ble_eq_true rfl) ?_
      refine z_ald0 (q := 1) d_rs_product_0 rfl ?_
      refine z_ild1 (q := 2) d_rs_product_1 rfl ?_
      refine z_cV1 (q := 5) d_rs_product_2 rfl (ct_isListed_yes h0 (by omega) h11 ha) (by first | assumption | omega) (by first | assumption | omega) rfl ck_rs_isListed lk_rs_75 im_rs_isListed sl_rs_isListed ⟨by decide, by decide⟩ (Nat.le_of_ble_eq_true rfl) rfl rfl ?_
      refine zi_if_eq (q := 8) (tgt := 16) d_rs_product_5 rfl (by decide) (by omega) (fun hb9 => absurd hb9 (by omega)) (fun _ => ?_)
      refine z_ald0 (q := 9) d_rs_product_8 rfl ?_
      refine z_ild2 (q := 10) d_rs_product_9 rfl ?_
      refine z_cV1 (q := 13) d_rs_product_10 rfl (ct_isListed_no h0 (by omega) h11 hk) (by first | assumption | omega) (by first | assumption | omega) rfl ck_rs_isListed lk_rs_75 im_rs_isListed sl_rs_isListed ⟨by decide, by decide⟩ (Nat.le_of_ble_eq_true rfl) rfl rfl ?_
      refine zi_if_ne (q := 16) (tgt := 18) d_rs_product_13 rfl (by decide) (by omega) (fun hb9 => absurd rfl hb9) (fun _ => ?_)
      refine z_iconst (v := (-1)) (q := 17) d_rs_product_16 rfl (by decide) ?_
      exact z_iret d_rs_product_17 rfl (Nat.le_refl _) (Nat.le_refl _) (Or.inl ⟨fun hh => hk hh.2, rfl, rfl, fun _ _ => rfl, hcs⟩)
  · refine Ct.of (lv := [some (.ref 0), some (.int j), some (.int k), none, none, none, none, none, none, none, none]) 8 (by decide) rfl (Nat.le_of_ble_eq_true rfl) ?_
    refine z_ald0 (q := 1) d_rs_product_0 rfl ?_
    refine z_ild1 (q := 2) d_rs_product_1 rfl ?_
    refine z_cV1 (q := 5) d_rs_product_2 rfl (ct_isListed_no h0 (by omega) h11 hj) (by first | assumption | omega) (by first | assumption | omega) rfl ck_rs_isListed lk_rs_75 im_rs_isListed sl_rs_isListed ⟨by decide, by decide⟩ (Nat.le_of_ble_eq_true rfl) rfl rfl ?_
    refine zi_if_eq (q := 8) (tgt := 16) d_rs_product_5 rfl (by decide) (by omega) (fun _ => ?_) (fun hb9 => absurd rfl hb9)
    refine z_iconst (v := (-1)) (q := 17) d_rs_product_16 rfl (by decide) ?_
    exact z_iret d_rs_product_17 rfl (Nat.le_refl _) (Nat.le_refl _) (Or.inl ⟨fun hh => hj hh.1, rfl, rfl, fun _ _ => rfl, hcs⟩)
theorem cc_pairwise {σ : zWd} {li gi : Nat} {row od : Nat → Nat} {cf ts : Nat → Nat → Nat} (h : CS li gi row od cf ts σ) (j k : Int32) : Ct m_rs_pairwise [.ref 0, .int j, .int k] 90 σ (MK CS FrC σ li gi row od cf ts (isL li j ∧ isL li k) (od j.toNatClampNeg * od k.toNatClampNeg) (fun n => ts j.toNatClampNeg n * ts k.toNatClampNeg n % 2147483647)) := by
  have hcs := h
  obtain ⟨h0, ⟨f, hf1, hf2⟩, ⟨h2, h2'⟩, ⟨g3, h3, h3P⟩, ⟨g4, h4, h4P⟩, hFI, hSK, hDV, h8, h9, h10, h11, h12⟩ := h
  have h0' : σ 0 = zO 0 [.ref 1, .ref 2, .ref 3, .ref 4, .ref 5, .ref 9, .ref 15, .int (nI li), .int (nI gi)] := h0
  by_cases hj : isL li j
  · by_cases hk : isL li k
    · obtain ⟨a, ha, rfl⟩ := hj
      obtain ⟨b, hb, rfl⟩ := hk
      rw [nI_clamp (by omega), nI_clamp (by omega)]
      obtain ⟨ca, fa, ⟨a1, a2, a3, a4, a5⟩, a6, a7⟩ := h9 a ha
      have hSa := h10 a ha
      have hfa := hf2 a (by omega)
      have hoa := hSa.1
      obtain ⟨cb, fb, ⟨b1, b2, b3, b4, b5⟩, b6, b7⟩ := h9 b hb
      have hSb := h10 b hb
      have hfb := hf2 b (by omega)
      have hob := hSb.1
      have hab : od a * od b ≤ 24 * 24 := Nat.mul_le_mul hoa hob
      refine Ct.of (lv := [some (.ref 0), some (.int (nI a)), some (.int (nI b)), none, none, none, none, none]) 5 (by decide) rfl (Nat.le_of_ble_eq_true rfl) ?_
      have hgood : isL li (nI a) ∧ isL li (nI b) := ⟨⟨a, ha, rfl⟩, ⟨b, hb, rfl⟩⟩
      generalize hPo : MK CS FrC σ li gi row od cf ts (isL li (nI a) ∧ isL li (nI b)) (od a * od b) (fun n => ts a n * ts b n % 2147483647) = Po
      generalize hs : (fun n => ts a n * ts b n % 2147483647) = s at hPo
      have hsP : ∀ n, s n < 2147483647 := fun n => by rw [← hs]; exact Nat.mod_lt _ (by omega)
      refine z_ald0 (q := 1) d_rs_pairwise_0 rfl ?_
      refine z_ild1 (q := 2) d_rs_pairwise_1 rfl ?_
      refine z_cV1 (q := 5) d_rs_pairwise_2 rfl (ct_isListed_yes h0 (by omega) h11 ha) (by first | assumption | omega) (by first | assumption | omega) rfl ck_rs_isListed lk_rs_75 im_rs_isListed sl_rs_isListed ⟨by decide, by decide⟩ (Nat.le_of_ble_eq_true rfl) rfl rfl ?_
      refine zi_if_eq (q := 8) (tgt := 16) d_rs_pairwise_5 rfl (by decide) (by omega) (fun hb9 => absurd hb9 (by omega)) (fun _ => ?_)
      refine z_ald0 (q := 9) d_rs_pairwise_8 rfl ?_
      refine z_ild2 (q := 10) d_rs_pairwise_9 rfl ?_
      refine z_cV1 (q := 13) d_rs_pairwise_10 rfl (ct_isListed_yes h0 (by omega) h11 hb) (by first | assumption | omega) (by first | assumption | omega) rfl ck_rs_isListed lk_rs_75 im_rs_isListed sl_rs_isListed ⟨by decide, by decide⟩ (Nat.le_of_ble_eq_true rfl) rfl rfl ?_
      refine zi_if_ne (q := 16) (tgt := 18) d_rs_pairwise_13 rfl (by decide) (by omega) (fun _ => ?_) (fun hb9 => absurd hb9 (by omega))
      refine z_ald0 (q := 19) d_rs_pairwise_18 rfl ?_
      refine z_get 0 (q := 22) d_rs_pairwise_19 rfl fg_rs_11 (by first | assumption | omega) (by first | assumption | omega) (by rfl) ?_
      refine z_ild1 (q := 23) d_rs_pairwise_22 rfl ?_
      refine z_aaload (q := 24) d_rs_pairwise_23 rfl (by first | assumption | omega) (by first | assumption | omega) (by omega) (by omega) (by first | assumption | omega) ?_
      refine z_ast3 (q := 25) d_rs_pairwise_24 rfl rfl ?_
      refine z_ald0 (q := 26) d_rs_pairwise_25 rfl ?_
      refine z_get 0 (q := 29) d_rs_pairwise_26 rfl fg_rs_11 (by first | assumption | omega) (by first | assumption | omega) (by rfl) ?_
      refine z_ild2 (q := 30) d_rs_pairwise_29 rfl ?_
      refine z_aaload (q := 31) d_rs_pairwise_30 rfl (by first | assumption | omega) (by first | assumption | omega) (by omega) (by omega) (by first | assumption | omega) ?_
      refine z_ast4 (q := 33) d_rs_pairwise_31 rfl rfl ?_
      refine z_ald3 (q := 34) d_rs_pairwise_33 rfl ?_
      refine z_get 0 (q := 37) d_rs_pairwise_34 rfl fg_rs_78 (by first | assumption | omega) (by first | assumption | omega) (by rfl) ?_
      refine z_ald4 (q := 39) d_rs_pairwise_37 rfl ?_
      refine z_get 0 (q := 42) d_rs_pairwise_39 rfl fg_rs_78 (by first | assumption | omega) (by first | assumption | omega) (by rfl) ?_
      first | refine zn_imul (q := 43) d_rs_pairwise_42 rfl ?_ | refine z_imul (q := 43) d_rs_pairwise_42 rfl ?_
      refine z_ist5 (q := 45) d_rs_pairwise_43 rfl rfl ?_
      refine z_ald0 (q := 46) d_rs_pairwise_45 rfl ?_
      refine z_ild5 (q := 48) d_rs_pairwise_46 rfl ?_
      refine z_cV1 (q := 51) d_rs_pairwise_48 rfl (ct_numberFor h0 (by omega) h11 (by omega)) (by first | assumption | omega) (by first | assumption | omega) rfl ck_rs_numberFor lk_rs_60 im_rs_numberFor sl_rs_numberFor ⟨by decide, by decide⟩ (Nat.le_of_ble_eq_true rfl) rfl rfl ?_
      refine z_ist6 (q := 53) d_rs_pairwise_51 rfl rfl ?_
      refine z_ild6 (q := 55) d_rs_pairwise_53 rfl ?_
      by_cases hn : 20 ≤ li ∨ 24 < od a * od b
      · refine z_if_ge (q := 58) (tgt := 61) d_rs_pairwise_55 rfl (by decide) (fun hb => absurd hb (nf_neg hn)) (fun _ => ?_)
        refine z_ild6 (q := 60) d_rs_pairwise_58 rfl ?_
        exact z_iret d_rs_pairwise_60 rfl (Nat.le_refl _) (Nat.le_refl _) (by rw [← hPo]; exact Or.inr (Or.inl ⟨hgood, hn, rfl, rfl, fun _ _ => rfl, hcs⟩))
      rw [nf_pos (by omega) (by omega)]
      refine zi_if_ge (tgt := 61) d_rs_pairwise_55 (by decide) (by omega) ?_
      have hl20 : li < 20 := by omega
      have hB24 : od a * od b ≤ 24 := by omega
      refine z_iconst (v := nI 0) (q := 62) d_rs_pairwise_61 rfl (by decide) ?_
      refine z_ist7 (q := 64) d_rs_pairwise_62 rfl rfl ?_
      have loop : ∀ (e x : Nat) (t8 t9 t10 : Option Value), x + e = 2 * (od a * od b) → Z m_rs_pairwise Po 0 0 90 (va_up σ 3 (zN 48 (fl_ s g3 x))) 64 [some (.ref 0), some (.int (nI a)), some (.int (nI b)), some (.ref (18 + 3 * a)), some (.ref (18 + 3 * b)), some (.int (nI (od a * od b))), some (.int (nI li)), some (.int (nI x))] [] := by
        intro e
        induction e with
        | zero =>
          intro x t8 t9 t10 hx
          obtain rfl : x = 2 * (od a * od b) := by omega
          refine z_ild7 (q := 66) d_rs_pairwise_64 rfl ?_
          refine z_iconst (v := nI 2) (q := 67) d_rs_pairwise_66 rfl (by decide) ?_
          refine z_ild5 (q := 69) d_rs_pairwise_67 rfl ?_
          first | refine zn_imul (q := 70) d_rs_pairwise_69 rfl ?_ | refine z_imul (q := 70) d_rs_pairwise_69 rfl ?_
          refine zn_icmp_ge (q := 73) (tgt := 104) d_rs_pairwise_70 rfl (by decide) (by omega) (by omega) (fun hb => ?_) (fun hb => ?_)
          · have y0 : va_up σ 3 (zN 48 (fl_ s g3 (2 * (od a * od b)))) 0 = zO 0 [.ref 1, .ref 2, .ref 3, .ref 4, .ref 5, .ref 9, .ref 15, .int (nI li), .int (nI gi)] := by rw [zu_ne (by omega)]; exact h0
            refine z_ald0 (q := 105) d_rs_pairwise_104 rfl ?_
            refine z_ild5 (q := 107) d_rs_pairwise_105 rfl ?_
            have hcm := hcs.made (g := fl_ s g3 (2 * (od a * od b))) (fl_lt hsP h3P)
            refine z_gV1 (q := 110) d_rs_pairwise_107 rfl (ct_enlist hcm (by omega) hB24 zu_same (fl_lt hsP h3P) (fun j hj => fl_lo (by omega)) hsP (by rw [← hs]; have := bd_pairwise fp_inv (ob_of hSa) (ob_of hSb); simp only [ph_mod, ph_mul]; exact this)) (by first | assumption | omega) (by first | assumption | omega) rfl ck_rs_enlist lk_rs_72 im_rs_enlist sl_rs_enlist ⟨by decide, by decide⟩ (Nat.le_of_ble_eq_true rfl) rfl rfl (fun r m τ hp => ?_)
            have hen := EN_made (σ := σ) (fun j hj => zu_ne (by omega)) hp
            obtain ⟨rfl, -, rfl, -⟩ := hp
            exact z_iret d_rs_pairwise_110 rfl (Nat.le_refl _) (Nat.le_refl _) (by rw [← hPo]; exact Or.inr (Or.inr ⟨hgood, hl20, hB24, hen⟩))
          · exact absurd hb (by omega)
        | succ e ih =>
          intro x t8 t9 t10 hx
          have y0 : va_up σ 3 (zN 48 (fl_ s g3 x)) 0 = zO 0 [.ref 1, .ref 2, .ref 3, .ref 4, .ref 5, .ref 9, .ref 15, .int (nI li), .int (nI gi)] := by rw [zu_ne (by omega)]; exact h0
          have y3 : va_up σ 3 (zN 48 (fl_ s g3 x)) 3 = zN 48 (fl_ s g3 x) := zu_same
          have ya : va_up σ 3 (zN 48 (fl_ s g3 x)) (18 + 3 * a) = zO 1 [.int (nI (od a)), .ref (19 + 3 * a), .ref (20 + 3 * a)] := by rw [zu_ne (by omega)]; exact a1
          have yta : va_up σ 3 (zN 48 (fl_ s g3 x)) (20 + 3 * a) = zN 88 fa := by rw [zu_ne (by omega)]; exact a3
          have yb : va_up σ 3 (zN 48 (fl_ s g3 x)) (18 + 3 * b) = zO 1 [.int (nI (od b)), .ref (19 + 3 * b), .ref (20 + 3 * b)] := by rw [zu_ne (by omega)]; exact b1
          have ytb : va_up σ 3 (zN 48 (fl_ s g3 x)) (20 + 3 * b) = zN 88 fb := by rw [zu_ne (by omega)]; exact b3
          refine z_ild7 (q := 66) d_rs_pairwise_64 rfl ?_
          refine z_iconst (v := nI 2) (q := 67) d_rs_pairwise_66 rfl (by decide) ?_
          refine z_ild5 (q := 69) d_rs_pairwise_67 rfl ?_
          first | refine zn_imul (q := 70) d_rs_pairwise_69 rfl ?_ | refine z_imul (q := 70) d_rs_pairwise_69 rfl ?_
          refine zn_icmp_ge (q := 73) (tgt := 104) d_rs_pairwise_70 rfl (by decide) (by omega) (by omega) (fun hb => ?_) (fun hb => ?_)
          · exact absurd hb (by omega)
          · refine z_ald0 (q := 74) d_rs_pairwise_73 rfl ?_
            refine z_get 2 (q := 77) d_rs_pairwise_74 rfl fg_rs_19 (by first | assumption | omega) (by first | assumption | omega) (by rfl) ?_
            refine z_ild7 (q := 79) d_rs_pairwise_77 rfl ?_
            refine z_ald3 (q := 80) d_rs_pairwise_79 rfl ?_
            refine z_get 2 (q := 83) d_rs_pairwise_80 rfl fg_rs_81 (by first | assumption | omega) (by first | assumption | omega) (by rfl) ?_
            refine z_ild7 (q := 85) d_rs_pairwise_83 rfl ?_
            refine z_laload (q := 86) d_rs_pairwise_85 rfl (by first | assumption | omega) (by first | assumption | omega) (by omega) (by omega) ?_
            refine z_ald4 (q := 88) d_rs_pairwise_86 rfl ?_
            refine z_get 2 (q := 91) d_rs_pairwise_88 rfl fg_rs_81 (by first | assumption | omega) (by first | assumption | omega) (by rfl) ?_
            refine z_ild7 (q := 93) d_rs_pairwise_91 rfl ?_
            refine z_laload (q := 94) d_rs_pairwise_93 rfl (by first | assumption | omega) (by first | assumption | omega) (by omega) (by omega) ?_
            refine z_cS2 (q := 97) d_rs_pairwise_94 rfl (ct_times 90 _ (a5 x) (b5 x)) ck_nu_times lk_rs_84 st_nu_times ⟨by decide, by decide⟩ (Nat.le_of_ble_eq_true rfl) rfl rfl ?_
            refine z_lastore (q := 98) d_rs_pairwise_97 rfl (by first | assumption | omega) (by first | assumption | omega) (by omega) (by omega) ?_
            refine zn_iinc7 (d := 1) (q := 101) d_rs_pairwise_98 rfl rfl ?_
            refine z_goto (tgt := 64) d_rs_pairwise_101 (by decide) ?_
            refine Z.eqw ?_ (ih (x + 1) t8 t9 t10 (by omega))
            rw [zu_up, ← fl_s, ← hs, a7 x (by omega), b7 x (by omega)]
      exact (Z.eqw (by rw [fl_0]; exact zu_id h3) (loop (2 * (od a * od b)) 0 none none none (by omega)))
    · obtain ⟨a, ha, rfl⟩ := hj
      refine Ct.of (lv := [some (.ref 0), some (.int (nI a)), some (.int k), none, none, none, none, none]) 5 (by decide) rfl (Nat.le_of_ble_eq_true rfl) ?_
      refine z_ald0 (q := 1) d_rs_pairwise_0 rfl ?_
      refine z_ild1 (q := 2) d_rs_pairwise_1 rfl ?_
      refine z_cV1 (q := 5) d_rs_pairwise_2 rfl (ct_isListed_yes h0 (by omega) h11 ha) (by first | assumption | omega) (by first | assumption | omega) rfl ck_rs_isListed lk_rs_75 im_rs_isListed sl_rs_isListed ⟨by decide, by decide⟩ (Nat.le_of_ble_eq_true rfl) rfl rfl ?_
      refine zi_if_eq (q := 8) (tgt := 16) d_rs_pairwise_5 rfl (by decide) (by omega) (fun hb9 => absurd hb9 (by omega)) (fun _ => ?_)
      refine z_ald0 (q := 9) d_rs_pairwise_8 rfl ?_
      refine z_ild2 (q := 10) d_rs_pairwise_9 rfl ?_
      refine z_cV1 (q := 13) d_rs_pairwise_10 rfl (ct_isListed_no h0 (by omega) h11 hk) (by first | assumption | omega) (by first | assumption | omega) rfl ck_rs_isListed lk_rs_75 im_rs_isListed sl_rs_isListed ⟨by decide, by decide⟩ (Nat.le_of_ble_eq_true rfl) rfl rfl ?_
      refine zi_if_ne (q := 16) (tgt := 18) d_rs_pairwise_13 rfl (by decide) (by omega) (fun hb9 => absurd rfl hb9) (fun _ => ?_)
      refine z_iconst (v := (-1)) (q := 17) d_rs_pairwise_16 rfl (by decide) ?_
      exact z_iret d_rs_pairwise_17 rfl (Nat.le_refl _) (Nat.le_refl _) (Or.inl ⟨fun hh => hk hh.2, rfl, rfl, fun _ _ => rfl, hcs⟩)
  · refine Ct.of (lv := [some (.ref 0), some (.int j), some (.int k), none, none, none, none, none]) 5 (by decide) rfl (Nat.le_of_ble_eq_true rfl) ?_
    refine z_ald0 (q := 1) d_rs_pairwise_0 rfl ?_
    refine z_ild1 (q := 2) d_rs_pairwise_1 rfl ?_
    refine z_cV1 (q := 5) d_rs_pairwise_2 rfl (ct_isListed_no h0 (by omega) h11 hj) (by first | assumption | omega) (by first | assumption | omega) rfl ck_rs_isListed lk_rs_75 im_rs_isListed sl_rs_isListed ⟨by decide, by decide⟩ (Nat.le_of_ble_eq_true rfl) rfl rfl ?_
    refine zi_if_eq (q := 8) (tgt := 16) d_rs_pairwise_5 rfl (by decide) (by omega) (fun _ => ?_) (fun hb9 => absurd rfl hb9)
    refine z_iconst (v := (-1)) (q := 17) d_rs_pairwise_16 rfl (by decide) ?_
    exact z_iret d_rs_pairwise_17 rfl (Nat.le_refl _) (Nat.le_refl _) (Or.inl ⟨fun hh => hj hh.1, rfl, rfl, fun _ _ => rfl, hcs⟩)
end
section
/-! spread and the askers of the class -/
def GV (SP : Nat → Nat → (Nat → Nat) → (Nat → Nat) → (Nat → Nat → Nat) → (Nat → Nat → Nat) → zWd → Prop) (Fr : zWd → zWd → Prop) (σ : zWd) (li gi : Nat) (row od : Nat → Nat) (cf ts : Nat → Nat → Nat) (v : Int32) : Option Value → Nat → zWd → Prop := fun r n' σ' => n' = 90 ∧ Fr σ σ' ∧ ((40 ≤ gi ∧ r = some (.int (nI 0)) ∧ SP li gi row od cf ts σ') ∨ (gi < 40 ∧ r = some (.int (nI 1)) ∧ SP li (gi + 1) (va_up row gi (nu_ v)) od cf ts σ'))
theorem up_lt {f : Nat → Nat} {k x B : Nat} (hf : ∀ j, f j < B) (hx : x < B) : ∀ j, va_up f k x j < B := by
  intro j
  unfold va_up
  split
  · exact hx
  · exact hf j
theorem cc_give {σ : zWd} {li gi : Nat} {row od : Nat → Nat} {cf ts : Nat → Nat → Nat} (h : CS li gi row od cf ts σ) (v : Int32) : Ct m_rs_give [.ref 0, .int v] 90 σ (GV CS FrC σ li gi row od cf ts v) := by
  have hcs := h
  obtain ⟨h0, ⟨f, hf1, hf2⟩, ⟨h2, h2'⟩, ⟨g3, h3, h3P⟩, ⟨g4, h4, h4P⟩, hFI, hSK, hDV, h8, h9, h10, h11, h12⟩ := h
  have h0' : σ 0 = zO 0 [.ref 1, .ref 2, .ref 3, .ref 4, .ref 5, .ref 9, .ref 15, .int (nI li), .int (nI gi)] := h0
  refine Ct.of (lv := [some (.ref 0), some (.int v)]) 0 (by decide) rfl (Nat.le_of_ble_eq_true rfl) ?_
  refine z_ald0 (q := 1) d_rs_give_0 rfl ?_
  refine z_get 8 (q := 4) d_rs_give_1 rfl fg_rs_51 (by first | assumption | omega) (by first | assumption | omega) (by rfl) ?_
  refine z_bipush (v := nI 40) (q := 6) d_rs_give_4 rfl (by decide) ?_
  refine zn_icmp_lt (q := 9) (tgt := 11) d_rs_give_6 rfl (by decide) (by omega) (by omega) (fun hb => ?_) (fun hb => ?_)
  · refine z_ald0 (q := 12) d_rs_give_11 rfl ?_
    refine z_get 1 (q := 15) d_rs_give_12 rfl fg_rs_15 (by first | assumption | omega) (by first | assumption | omega) (by rfl) ?_
    refine z_ald0 (q := 16) d_rs_give_15 rfl ?_
    refine z_get 8 (q := 19) d_rs_give_16 rfl fg_rs_51 (by first | assumption | omega) (by first | assumption | omega) (by rfl) ?_
    refine z_ild1 (q := 20) d_rs_give_19 rfl ?_
    refine z_cS1 (q := 23) d_rs_give_20 rfl (ct_of 90 σ v) ck_nu_of lk_rs_54 st_nu_of ⟨by decide, by decide⟩ (Nat.le_of_ble_eq_true rfl) rfl rfl ?_
    refine z_lastore (q := 24) d_rs_give_23 rfl (by first | assumption | omega) (by first | assumption | omega) (by omega) (by omega) ?_
    have y0 : va_up σ 2 (zN 40 (va_up row gi (nu_ v))) 0 = zO 0 [.ref 1, .ref 2, .ref 3, .ref 4, .ref 5, .ref 9, .ref 15, .int (nI li), .int (nI gi)] := by rw [zu_ne (by omega)]; exact h0
    refine z_ald0 (q := 25) d_rs_give_24 rfl ?_
    first | refine z_dup_r (q := 26) d_rs_give_25 rfl ?_ | refine z_dup_i (q := 26) d_rs_give_25 rfl ?_
    refine z_get 8 (q := 29) d_rs_give_26 rfl fg_rs_51 (by first | assumption | omega) (by first | assumption | omega) (by rfl) ?_
    refine z_iconst (v := nI 1) (q := 30) d_rs_give_29 rfl (by decide) ?_
    first | refine zn_iadd (q := 31) d_rs_give_30 rfl ?_ | refine z_iadd (q := 31) d_rs_give_30 rfl ?_
    refine z_put 8 (q := 34) d_rs_give_31 rfl fg_rs_51 ft_rs fk_rs_51 (by first | assumption | omega) (by first | assumption | omega) (fun _ => rfl) (fun _ => rfl) (by simp) ?_
    refine z_iconst (v := nI 1) (q := 35) d_rs_give_34 rfl (by decide) ?_
    refine z_zret d_rs_give_35 rfl rfl (Nat.le_refl _) (Nat.le_refl _) ⟨rfl, fun j hj => by rw [zu_ne (by omega), zu_ne (by omega)], Or.inr ⟨by omega, rfl, ?_⟩⟩
    exact hcs.row (up_lt h2' (nu_lt v)) (Nat.le_refl _) (by omega)
  · refine z_iconst (v := nI 0) (q := 10) d_rs_give_9 rfl (by decide) ?_
    exact z_zret d_rs_give_10 rfl rfl (Nat.le_refl _) (Nat.le_refl _) ⟨rfl, fun _ _ => rfl, Or.inl ⟨by omega, rfl, hcs⟩⟩
def CL (SP : Nat → Nat → (Nat → Nat) → (Nat → Nat) → (Nat → Nat → Nat) → (Nat → Nat → Nat) → zWd → Prop) (Fr : zWd → zWd → Prop) (σ : zWd) (li gi : Nat) (row od : Nat → Nat) (cf ts : Nat → Nat → Nat) : Option Value → Nat → zWd → Prop := fun r n' σ' => n' = 90 ∧ Fr σ σ' ∧ r = some (.int (nI gi)) ∧ SP li 0 row od cf ts σ'
theorem cc_clear {σ : zWd} {li gi : Nat} {row od : Nat → Nat} {cf ts : Nat → Nat → Nat} (h : CS li gi row od cf ts σ) : Ct m_rs_clear [.ref 0] 90 σ (CL CS FrC σ li gi row od cf ts) := by
  have hcs := h
  obtain ⟨h0, ⟨f, hf1, hf2⟩, ⟨h2, h2'⟩, ⟨g3, h3, h3P⟩, ⟨g4, h4, h4P⟩, hFI, hSK, hDV, h8, h9, h10, h11, h12⟩ := h
  have h0' : σ 0 = zO 0 [.ref 1, .ref 2, .ref 3, .ref 4, .ref 5, .ref 9, .ref 15, .int (nI li), .int (nI gi)] := h0
  refine Ct.of (lv := [some (.ref 0), none]) 1 (by decide) rfl (Nat.le_of_ble_eq_true rfl) ?_
  refine z_ald0 (q := 1) d_rs_clear_0 rfl ?_
  refine z_get 8 (q := 4) d_rs_clear_1 rfl fg_rs_51 (by first | assumption | omega) (by first | assumption | omega) (by rfl) ?_
  refine z_ist1 (q := 5) d_rs_clear_4 rfl rfl ?_
  refine z_ald0 (q := 6) d_rs_clear_5 rfl ?_
  refine z_iconst (v := nI 0) (q := 7) d_rs_clear_6 rfl (by decide) ?_
  refine z_put 8 (q := 10) d_rs_clear_7 rfl fg_rs_51 ft_rs fk_rs_51 (by first | assumption | omega) (by first | assumption | omega) (fun _ => rfl) (fun _ => rfl) (by simp) ?_
  refine z_ild1 (q := 11) d_rs_clear_10 rfl ?_
  refine z_iret d_rs_clear_11 rfl (Nat.le_refl _) (Nat.le_refl _) ⟨rfl, fun j hj => by rw [zu_ne (by omega)], rfl, ?_⟩
  have := hcs.row (row' := row) h2' (Nat.le_refl _) (Nat.zero_le 40)
  rw [← zu_id h2] at this
  exact this
def FG (SP : Nat → Nat → (Nat → Nat) → (Nat → Nat) → (Nat → Nat → Nat) → (Nat → Nat → Nat) → zWd → Prop) (Fr : zWd → zWd → Prop) (σ : zWd) (li gi : Nat) (row od : Nat → Nat) (cf ts : Nat → Nat → Nat) : Option Value → Nat → zWd → Prop := fun r n' σ' => n' = 90 ∧ Fr σ σ' ∧ ((li = 0 ∧ r = some (.int (nI 0)) ∧ SP li gi row od cf ts σ') ∨ (li ≠ 0 ∧ r = some (.int (nI 1)) ∧ SP (li - 1) gi row od cf ts σ'))
theorem cc_forget {σ : zWd} {li gi : Nat} {row od : Nat → Nat} {cf ts : Nat → Nat → Nat} (h : CS li gi row od cf ts σ) : Ct m_rs_forget [.ref 0] 90 σ (FG CS FrC σ li gi row od cf ts) := by
  have hcs := h
  obtain ⟨h0, ⟨f, hf1, hf2⟩, ⟨h2, h2'⟩, ⟨g3, h3, h3P⟩, ⟨g4, h4, h4P⟩, hFI, hSK, hDV, h8, h9, h10, h11, h12⟩ := h
  have h0' : σ 0 = zO 0 [.ref 1, .ref 2, .ref 3, .ref 4, .ref 5, .ref 9, .ref 15, .int (nI li), .int (nI gi)] := h0
  refine Ct.of (lv := [some (.ref 0)]) 0 (by decide) rfl (Nat.le_of_ble_eq_true rfl) ?_
  refine z_ald0 (q := 1) d_rs_forget_0 rfl ?_
  refine z_get 7 (q := 4) d_rs_forget_1 rfl fg_rs_47 (by first | assumption | omega) (by first | assumption | omega) (by rfl) ?_
  refine zi_if_ne (q := 7) (tgt := 9) d_rs_forget_4 rfl (by decide) (by omega) (fun hb => ?_) (fun hb => ?_)
  · refine z_ald0 (q := 10) d_rs_forget_9 rfl ?_
    first | refine z_dup_r (q := 11) d_rs_forget_10 rfl ?_ | refine z_dup_i (q := 11) d_rs_forget_10 rfl ?_
    refine z_get 7 (q := 14) d_rs_forget_11 rfl fg_rs_47 (by first | assumption | omega) (by first | assumption | omega) (by rfl) ?_
    refine z_iconst (v := nI 1) (q := 15) d_rs_forget_14 rfl (by decide) ?_
    first | refine zn_isub (q := 16) d_rs_forget_15 rfl (by omega) ?_ | refine z_isub (q := 16) d_rs_forget_15 rfl ?_
    refine z_put 7 (q := 19) d_rs_forget_16 rfl fg_rs_47 ft_rs fk_rs_47 (by first | assumption | omega) (by first | assumption | omega) (fun _ => rfl) (fun _ => rfl) (by simp) ?_
    refine z_iconst (v := nI 1) (q := 20) d_rs_forget_19 rfl (by decide) ?_
    refine z_zret d_rs_forget_20 rfl rfl (Nat.le_refl _) (Nat.le_refl _) ⟨rfl, fun j hj => by rw [zu_ne (by omega)], Or.inr ⟨hb, rfl, ?_⟩⟩
    have := hcs.row (row' := row) (li' := li - 1) h2' (by omega) h12
    rw [← zu_id h2] at this
    exact this
  · refine z_iconst (v := nI 0) (q := 8) d_rs_forget_7 rfl (by decide) ?_
    exact z_zret d_rs_forget_8 rfl rfl (Nat.le_refl _) (Nat.le_refl _) ⟨rfl, fun _ _ => rfl, Or.inl ⟨hb, rfl, hcs⟩⟩
/-- an asker: an answer, and nothing changes -/
def AS (SP : Nat → Nat → (Nat → Nat) → (Nat → Nat) → (Nat → Nat → Nat) → (Nat → Nat → Nat) → zWd → Prop) (Fr : zWd → zWd → Prop) (σ : zWd) (li gi : Nat) (row od : Nat → Nat) (cf ts : Nat → Nat → Nat) (Q : Int32 → Prop) : Option Value → Nat → zWd → Prop := fun r n' σ' => n' = 90 ∧ Fr σ σ' ∧ (∃ v : Int32, r = some (.int v) ∧ Q v) ∧ SP li gi row od cf ts σ'
theorem cc_count {σ : zWd} {li gi : Nat} {row od : Nat → Nat} {cf ts : Nat → Nat → Nat} (h : CS li gi row od cf ts σ) : Ct m_rs_count [.ref 0] 90 σ (AS CS FrC σ li gi row od cf ts (fun v => v = nI li)) := by
  have hcs := h
  obtain ⟨h0, ⟨f, hf1, hf2⟩, ⟨h2, h2'⟩, ⟨g3, h3, h3P⟩, ⟨g4, h4, h4P⟩, hFI, hSK, hDV, h8, h9, h10, h11, h12⟩ := h
  have h0' : σ 0 = zO 0 [.ref 1, .ref 2, .ref 3, .ref 4, .ref 5, .ref 9, .ref 15, .int (nI li), .int (nI gi)] := h0
  refine Ct.of (lv := [some (.ref 0)]) 0 (by decide) rfl (Nat.le_of_ble_eq_true rfl) ?_
  refine z_ald0 (q := 1) d_rs_count_0 rfl ?_
  refine z_get 7 (q := 4) d_rs_count_1 rfl fg_rs_47 (by first | assumption | omega) (by first | assumption | omega) (by rfl) ?_
  exact z_iret d_rs_count_4 rfl (Nat.le_refl _) (Nat.le_refl _) ⟨rfl, fun _ _ => rfl, ⟨_, rfl, rfl⟩, hcs⟩
def qOrd (li : Nat) (od : Nat → Nat) (k v : Int32) : Prop := (¬ isL li k ∧ v = -1) ∨ (isL li k ∧ v = nI (od k.toNatClampNeg))
theorem cc_order {σ : zWd} {li gi : Nat} {row od : Nat → Nat} {cf ts : Nat → Nat → Nat} (h : CS li gi row od cf ts σ) (k : Int32) : Ct m_rs_order [.ref 0, .int k] 90 σ (AS CS FrC σ li gi row od cf ts (qOrd li od k)) := by
  have hcs := h
  obtain ⟨h0, ⟨f, hf1, hf2⟩, ⟨h2, h2'⟩, ⟨g3, h3, h3P⟩, ⟨g4, h4, h4P⟩, hFI, hSK, hDV, h8, h9, h10, h11, h12⟩ := h
  have h0' : σ 0 = zO 0 [.ref 1, .ref 2, .ref 3, .ref 4, .ref 5, .ref 9, .ref 15, .int (nI li), .int (nI gi)] := h0
  by_cases hk : isL li k
  · have hk' := hk
    obtain ⟨a, ha, rfl⟩ := hk
    obtain ⟨ca, fa, ⟨a1, a2, a3, a4, a5⟩, a6, a7⟩ := h9 a ha
    have hSa := h10 a ha
    have hfa := hf2 a (by omega)
    have hoa := hSa.1
    refine Ct.of (lv := [some (.ref 0), some (.int (nI a))]) 0 (by decide) rfl (Nat.le_of_ble_eq_true rfl) ?_
    refine z_ald0 (q := 1) d_rs_order_0 rfl ?_
    refine z_ild1 (q := 2) d_rs_order_1 rfl ?_
    refine z_cV1 (q := 5) d_rs_order_2 rfl (ct_isListed_yes h0 (by omega) h11 ha) (by first | assumption | omega) (by first | assumption | omega) rfl ck_rs_isListed lk_rs_75 im_rs_isListed sl_rs_isListed ⟨by decide, by decide⟩ (Nat.le_of_ble_eq_true rfl) rfl rfl ?_
    refine zi_if_eq (q := 8) (tgt := 20) d_rs_order_5 rfl (by decide) (by omega) (fun hb => absurd hb (by omega)) (fun _ => ?_)
    refine z_ald0 (q := 9) d_rs_order_8 rfl ?_
    refine z_get 0 (q := 12) d_rs_order_9 rfl fg_rs_11 (by first | assumption | omega) (by first | assumption | omega) (by rfl) ?_
    refine z_ild1 (q := 13) d_rs_order_12 rfl ?_
    refine z_aaload (q := 14) d_rs_order_13 rfl (by first | assumption | omega) (by first | assumption | omega) (by omega) (by omega) (by first | assumption | omega) ?_
    refine z_get 0 (q := 17) d_rs_order_14 rfl fg_rs_78 (by first | assumption | omega) (by first | assumption | omega) (by rfl) ?_
    refine z_goto (tgt := 21) d_rs_order_17 (by decide) ?_
    exact z_iret d_rs_order_21 rfl (Nat.le_refl _) (Nat.le_refl _) ⟨rfl, fun _ _ => rfl, ⟨_, rfl, Or.inr ⟨hk', by rw [nI_clamp (by omega)]⟩⟩, hcs⟩
  · refine Ct.of (lv := [some (.ref 0), some (.int k)]) 0 (by decide) rfl (Nat.le_of_ble_eq_true rfl) ?_
    refine z_ald0 (q := 1) d_rs_order_0 rfl ?_
    refine z_ild1 (q := 2) d_rs_order_1 rfl ?_
    refine z_cV1 (q := 5) d_rs_order_2 rfl (ct_isListed_no h0 (by omega) h11 hk) (by first | assumption | omega) (by first | assumption | omega) rfl ck_rs_isListed lk_rs_75 im_rs_isListed sl_rs_isListed ⟨by decide, by decide⟩ (Nat.le_of_ble_eq_true rfl) rfl rfl ?_
    refine zi_if_eq (q := 8) (tgt := 20) d_rs_order_5 rfl (by decide) (by omega) (fun _ => ?_) (fun hb => absurd rfl hb)
    refine z_iconst (v := (-1)) (q := 21) d_rs_order_20 rfl (by decide) ?_
    exact z_iret d_rs_order_21 rfl (Nat.le_refl _) (Nat.le_refl _) ⟨rfl, fun _ _ => rfl, ⟨_, rfl, Or.inl ⟨hk, rfl⟩⟩, hcs⟩
def qCo (li : Nat) (od : Nat → Nat) (cf : Nat → Nat → Nat) (k i v : Int32) : Prop := (¬ (isL li k ∧ isR 1 (od k.toNatClampNeg) i) ∧ v = -1) ∨ ((isL li k ∧ isR 1 (od k.toNatClampNeg) i) ∧ v = nI (cf k.toNatClampNeg (i.toNatClampNeg - 1)))
theorem cc_coefficient {σ : zWd} {li gi : Nat} {row od : Nat → Nat} {cf ts : Nat → Nat → Nat} (h : CS li gi row od cf ts σ) (k i : Int32) : Ct m_rs_coefficient [.ref 0, .int k, .int i] 90 σ (AS CS FrC σ li gi row od cf ts (qCo li od cf k i)) := by
  have hcs := h
  obtain ⟨h0, ⟨f, hf1, hf2⟩, ⟨h2, h2'⟩, ⟨g3, h3, h3P⟩, ⟨g4, h4, h4P⟩, hFI, hSK, hDV, h8, h9, h10, h11, h12⟩ := h
  have h0' : σ 0 = zO 0 [.ref 1, .ref 2, .ref 3, .ref 4, .ref 5, .ref 9, .ref 15, .int (nI li), .int (nI gi)] := h0
  by_cases hk : isL li k
  · have hk' := hk
    obtain ⟨a, ha, rfl⟩ := hk
    obtain ⟨ca, fa, ⟨a1, a2, a3, a4, a5⟩, a6, a7⟩ := h9 a ha
    have hSa := h10 a ha
    have hfa := hf2 a (by omega)
    have hoa := hSa.1
    have ea : (nI a).toNatClampNeg = a := nI_clamp (by omega)
    refine Ct.of (lv := [some (.ref 0), some (.int (nI a)), some (.int i)]) 0 (by decide) rfl (Nat.le_of_ble_eq_true rfl) ?_
    have bad : ¬ isR 1 (od a) i → Z m_rs_coefficient (AS CS FrC σ li gi row od cf ts (qCo li od cf (nI a) i)) 0 0 90 σ 26 [some (.ref 0), some (.int (nI a)), some (.int i)] [] := by
      intro hi
      refine z_iconst (v := (-1)) (q := 27) d_rs_coefficient_26 rfl (by decide) ?_
      exact z_iret d_rs_coefficient_27 rfl (Nat.le_refl _) (Nat.le_refl _) ⟨rfl, fun _ _ => rfl, ⟨_, rfl, Or.inl ⟨fun hh => hi (by rw [← ea]; exact hh.2), rfl⟩⟩, hcs⟩
    refine z_ald0 (q := 1) d_rs_coefficient_0 rfl ?_
    refine z_ild1 (q := 2) d_rs_coefficient_1 rfl ?_
    refine z_cV1 (q := 5) d_rs_coefficient_2 rfl (ct_isListed_yes h0 (by omega) h11 ha) (by first | assumption | omega) (by first | assumption | omega) rfl ck_rs_isListed lk_rs_75 im_rs_isListed sl_rs_isListed ⟨by decide, by decide⟩ (Nat.le_of_ble_eq_true rfl) rfl rfl ?_
    refine zi_if_eq (q := 8) (tgt := 26) d_rs_coefficient_5 rfl (by decide) (by omega) (fun hb => absurd hb (by omega)) (fun _ => ?_)
    by_cases hi : isR 1 (od a) i
    · have hi' := hi
      obtain ⟨b, hb1, hb2, rfl⟩ := hi
      refine z_ild2 (q := 9) d_rs_coefficient_8 rfl ?_
      refine z_iconst (v := nI 1) (q := 10) d_rs_coefficient_9 rfl (by decide) ?_
      refine zn_icmp_lt (q := 13) (tgt := 26) d_rs_coefficient_10 rfl (by decide) (by omega) (by omega) (fun hb => ?_) (fun hb => ?_)
      · exact absurd hb (by omega)
      · refine z_ild2 (q := 14) d_rs_coefficient_13 rfl ?_
        refine z_ald0 (q := 15) d_rs_coefficient_14 rfl ?_
        refine z_get 0 (q := 18) d_rs_coefficient_15 rfl fg_rs_11 (by first | assumption | omega) (by first | assumption | omega) (by rfl) ?_
        refine z_ild1 (q := 19) d_rs_coefficient_18 rfl ?_
        refine z_aaload (q := 20) d_rs_coefficient_19 rfl (by first | assumption | omega) (by first | assumption | omega) (by omega) (by omega) (by first | assumption | omega) ?_
        refine z_get 0 (q := 23) d_rs_coefficient_20 rfl fg_rs_78 (by first | assumption | omega) (by first | assumption | omega) (by rfl) ?_
        refine zn_icmp_le (q := 26) (tgt := 28) d_rs_coefficient_23 rfl (by decide) (by omega) (by omega) (fun _ => ?_) (fun hb3 => absurd hb2 hb3)
        refine z_ald0 (q := 29) d_rs_coefficient_28 rfl ?_
        refine z_get 0 (q := 32) d_rs_coefficient_29 rfl fg_rs_11 (by first | assumption | omega) (by first | assumption | omega) (by rfl) ?_
        refine z_ild1 (q := 33) d_rs_coefficient_32 rfl ?_
        refine z_aaload (q := 34) d_rs_coefficient_33 rfl (by first | assumption | omega) (by first | assumption | omega) (by omega) (by omega) (by first | assumption | omega) ?_
        refine z_get 1 (q := 37) d_rs_coefficient_34 rfl fg_rs_99 (by first | assumption | omega) (by first | assumption | omega) (by rfl) ?_
        refine z_ild2 (q := 38) d_rs_coefficient_37 rfl ?_
        refine z_iconst (v := nI 1) (q := 39) d_rs_coefficient_38 rfl (by decide) ?_
        first | refine zn_isub (q := 40) d_rs_coefficient_39 rfl (by omega) ?_ | refine z_isub (q := 40) d_rs_coefficient_39 rfl ?_
        refine z_laload (q := 41) d_rs_coefficient_40 rfl (by first | assumption | omega) (by first | assumption | omega) (by omega) (by omega) ?_
        first | refine zn_l2i (q := 42) d_rs_coefficient_41 rfl ?_ | refine z_l2i (q := 42) d_rs_coefficient_41 rfl ?_
        exact z_iret d_rs_coefficient_42 rfl (Nat.le_refl _) (Nat.le_refl _) ⟨rfl, fun _ _ => rfl, ⟨_, rfl, Or.inr ⟨⟨hk', by rw [ea]; exact hi'⟩, by rw [ea, nI_clamp (by omega), a6 (b - 1) (by omega)]⟩⟩, hcs⟩
    · refine z_ild2 (q := 9) d_rs_coefficient_8 rfl ?_
      refine z_iconst (v := nI 1) (q := 10) d_rs_coefficient_9 rfl (by decide) ?_
      refine z_icmp_lt (q := 13) (tgt := 26) d_rs_coefficient_10 rfl (by decide) (fun _ => bad hi) (fun hb1 => ?_)
      refine z_ild2 (q := 14) d_rs_coefficient_13 rfl ?_
      refine z_ald0 (q := 15) d_rs_coefficient_14 rfl ?_
      refine z_get 0 (q := 18) d_rs_coefficient_15 rfl fg_rs_11 (by first | assumption | omega) (by first | assumption | omega) (by rfl) ?_
      refine z_ild1 (q := 19) d_rs_coefficient_18 rfl ?_
      refine z_aaload (q := 20) d_rs_coefficient_19 rfl (by first | assumption | omega) (by first | assumption | omega) (by omega) (by omega) (by first | assumption | omega) ?_
      refine z_get 0 (q := 23) d_rs_coefficient_20 rfl fg_rs_78 (by first | assumption | omega) (by first | assumption | omega) (by rfl) ?_
      refine z_icmp_le (q := 26) (tgt := 28) d_rs_coefficient_23 rfl (by decide) (fun hb2 => ?_) (fun _ => bad hi)
      by_cases hz : 1 ≤ od a
      · exact absurd (isR_of (by omega) hb1 hb2 hz) hi
      · exfalso
        have e1 : (nI 1).toInt = 1 := nI_toInt (by decide)
        have e2 : (nI (od a)).toInt = (od a : Int) := nI_toInt (by omega)
        rw [Int32.lt_iff_toInt_lt, e1] at hb1
        rw [Int32.le_iff_toInt_le, e2] at hb2
        omega
  · refine Ct.of (lv := [some (.ref 0), some (.int k), some (.int i)]) 0 (by decide) rfl (Nat.le_of_ble_eq_true rfl) ?_
    refine z_ald0 (q := 1) d_rs_coefficient_0 rfl ?_
    refine z_ild1 (q := 2) d_rs_coefficient_1 rfl ?_
    refine z_cV1 (q := 5) d_rs_coefficient_2 rfl (ct_isListed_no h0 (by omega) h11 hk) (by first | assumption | omega) (by first | assumption | omega) rfl ck_rs_isListed lk_rs_75 im_rs_isListed sl_rs_isListed ⟨by decide, by decide⟩ (Nat.le_of_ble_eq_true rfl) rfl rfl ?_
    refine zi_if_eq (q := 8) (tgt := 26) d_rs_coefficient_5 rfl (by decide) (by omega) (fun _ => ?_) (fun hb => absurd rfl hb)
    refine z_iconst (v := (-1)) (q := 27) d_rs_coefficient_26 rfl (by decide) ?_
    exact z_iret d_rs_coefficient_27 rfl (Nat.le_refl _) (Nat.le_refl _) ⟨rfl, fun _ _ => rfl, ⟨_, rfl, Or.inl ⟨fun hh => hk hh.1, rfl⟩⟩, hcs⟩
/-- the first place where two series differ, looked for below N -/
def qD (N : Nat) (a b : Nat → Nat) (v : Int32) : Prop := (∃ n, n < N ∧ a n ≠ b n ∧ (∀ m, m < n → a m = b m) ∧ v = nI n) ∨ ((∀ m, m < N → a m = b m) ∧ v = -1)
def qDf (li : Nat) (od : Nat → Nat) (ts : Nat → Nat → Nat) (N : Nat → Nat → Nat) (j k v : Int32) : Prop := (¬ (isL li j ∧ isL li k) ∧ v = -2) ∨ ((isL li j ∧ isL li k) ∧ qD (N j.toNatClampNeg k.toNatClampNeg) (ts j.toNatClampNeg) (ts k.toNatClampNeg) v)
theorem cc_differ {σ : zWd} {li gi : Nat} {row od : Nat → Nat} {cf ts : Nat → Nat → Nat} (h : CS li gi row od cf ts σ) (j k : Int32) : Ct m_rs_differ [.ref 0, .int j, .int k] 90 σ (AS CS FrC σ li gi row od cf ts (qDf li od ts (fun _ _ => 48) j k)) := by
  have hcs := h
  obtain ⟨h0, ⟨f, hf1, hf2⟩, ⟨h2, h2'⟩, ⟨g3, h3, h3P⟩, ⟨g4, h4, h4P⟩, hFI, hSK, hDV, h8, h9, h10, h11, h12⟩ := h
  have h0' : σ 0 = zO 0 [.ref 1, .ref 2, .ref 3, .ref 4, .ref 5, .ref 9, .ref 15, .int (nI li), .int (nI gi)] := h0
  by_cases hj : isL li j
  · by_cases hk : isL li k
    · have hgood : isL li j ∧ isL li k := ⟨hj, hk⟩
      obtain ⟨a, ha, rfl⟩ := hj
      obtain ⟨b, hb, rfl⟩ := hk
      have ea : (nI a).toNatClampNeg = a := nI_clamp (by omega)
      have eb : (nI b).toNatClampNeg = b := nI_clamp (by omega)
      obtain ⟨ca, fa, ⟨a1, a2, a3, a4, a5⟩, a6, a7⟩ := h9 a ha
      have hSa := h10 a ha
      have hfa := hf2 a (by omega)
      have hoa := hSa.1
      obtain ⟨cb, fb, ⟨b1, b2, b3, b4, b5⟩, b6, b7⟩ := h9 b hb
      have hSb := h10 b hb
      have hfb := hf2 b (by omega)
      have hob := hSb.1
      refine Ct.of (lv := [some (.ref 0), some (.int (nI a)), some (.int (nI b)), none, none, none]) 3 (by decide) rfl (Nat.le_of_ble_eq_true rfl) ?_
      generalize hPo : AS CS FrC σ li gi row od cf ts (qDf li od ts (fun _ _ => 48) (nI a) (nI b)) = Po
      refine z_ald0 (q := 1) d_rs_differ_0 rfl ?_
      refine z_ild1 (q := 2) d_rs_differ_1 rfl ?_
      refine z_cV1 (q := 5) d_rs_differ_2 rfl (ct_isListed_yes h0 (by omega) h11 ha) (by first | assumption | omega) (by first | assumption | omega) rfl ck_rs_isListed lk_rs_75 im_rs_isListed sl_rs_isListed ⟨by decide, by decide⟩ (Nat.le_of_ble_eq_true rfl) rfl rfl ?_
      refine zi_if_eq (q := 8) (tgt := 16) d_rs_differ_5 rfl (by decide) (by omega) (fun hb9 => absurd hb9 (by omega)) (fun _ => ?_)
      refine z_ald0 (q := 9) d_rs_differ_8 rfl ?_
      refine z_ild2 (q := 10) d_rs_differ_9 rfl ?_
      refine z_cV1 (q := 13) d_rs_differ_10 rfl (ct_isListed_yes h0 (by omega) h11 hb) (by first | assumption | omega) (by first | assumption | omega) rfl ck_rs_isListed lk_rs_75 im_rs_isListed sl_rs_isListed ⟨by decide, by decide⟩ (Nat.le_of_ble_eq_true rfl) rfl rfl ?_
      refine zi_if_ne (q := 16) (tgt := 19) d_rs_differ_13 rfl (by decide) (by omega) (fun _ => ?_) (fun hb9 => absurd hb9 (by omega))
      refine z_ald0 (q := 20) d_rs_differ_19 rfl ?_
      refine z_get 0 (q := 23) d_rs_differ_20 rfl fg_rs_11 (by first | assumption | omega) (by first | assumption | omega) (by rfl) ?_
      refine z_ild1 (q := 24) d_rs_differ_23 rfl ?_
      refine z_aaload (q := 25) d_rs_differ_24 rfl (by first | assumption | omega) (by first | assumption | omega) (by omega) (by omega) (by first | assumption | omega) ?_
      refine z_ast3 (q := 26) d_rs_differ_25 rfl rfl ?_
      refine z_ald0 (q := 27) d_rs_differ_26 rfl ?_
      refine z_get 0 (q := 30) d_rs_differ_27 rfl fg_rs_11 (by first | assumption | omega) (by first | assumption | omega) (by rfl) ?_
      refine z_ild2 (q := 31) d_rs_differ_30 rfl ?_
      refine z_aaload (q := 32) d_rs_differ_31 rfl (by first | assumption | omega) (by first | assumption | omega) (by omega) (by omega) (by first | assumption | omega) ?_
      refine z_ast4 (q := 34) d_rs_differ_32 rfl rfl ?_
      refine z_iconst (v := nI 0) (q := 35) d_rs_differ_34 rfl (by decide) ?_
      refine z_ist5 (q := 37) d_rs_differ_35 rfl rfl ?_
      have loop : ∀ e x, x + e = 48 → (∀ m, m < x → ts a m = ts b m) → Z m_rs_differ Po 0 0 90 σ 37 [some (.ref 0), some (.int (nI a)), some (.int (nI b)), some (.ref (18 + 3 * a)), some (.ref (18 + 3 * b)), some (.int (nI x))] [] := by
        intro e
        induction e with
        | zero =>
          intro x hx hm
          obtain rfl : x = 48 := by omega
          refine z_ild5 (q := 39) d_rs_differ_37 rfl ?_
          refine z_bipush (v := nI 48) (q := 41) d_rs_differ_39 rfl (by decide) ?_
          refine zn_icmp_ge (q := 44) (tgt := 72) d_rs_differ_41 rfl (by decide) (by omega) (by omega) (fun hb => ?_) (fun hb => ?_)
          · refine z_iconst (v := (-1)) (q := 73) d_rs_differ_72 rfl (by decide) ?_
            exact z_iret d_rs_differ_73 rfl (Nat.le_refl _) (Nat.le_refl _) (by rw [← hPo]; exact ⟨rfl, fun _ _ => rfl, ⟨_, rfl, Or.inr ⟨hgood, by rw [ea, eb]; exact Or.inr ⟨hm, rfl⟩⟩⟩, hcs⟩)
          · exact absurd hb (by omega)
        | succ e ih =>
          intro x hx hm
          have qa := a5 x
          have qb := b5 x
          refine z_ild5 (q := 39) d_rs_differ_37 rfl ?_
          refine z_bipush (v := nI 48) (q := 41) d_rs_differ_39 rfl (by decide) ?_
          refine zn_icmp_ge (q := 44) (tgt := 72) d_rs_differ_41 rfl (by decide) (by omega) (by omega) (fun hb => ?_) (fun hb => ?_)
          · exact absurd hb (by omega)
          · refine z_ald3 (q := 45) d_rs_differ_44 rfl ?_
            refine z_get 2 (q := 48) d_rs_differ_45 rfl fg_rs_81 (by first | assumption | omega) (by first | assumption | omega) (by rfl) ?_
            refine z_ild5 (q := 50) d_rs_differ_48 rfl ?_
            refine z_laload (q := 51) d_rs_differ_50 rfl (by first | assumption | omega) (by first | assumption | omega) (by omega) (by omega) ?_
            refine z_ald4 (q := 53) d_rs_differ_51 rfl ?_
            refine z_get 2 (q := 56) d_rs_differ_53 rfl fg_rs_81 (by first | assumption | omega) (by first | assumption | omega) (by rfl) ?_
            refine z_ild5 (q := 58) d_rs_differ_56 rfl ?_
            refine z_laload (q := 59) d_rs_differ_58 rfl (by first | assumption | omega) (by first | assumption | omega) (by omega) (by omega) ?_
            refine z_lcmp (q := 60) d_rs_differ_59 rfl ?_
            refine zc_if_eq (q := 63) (tgt := 66) d_rs_differ_60 rfl (by decide) (by omega) (by omega) (fun hb3 => ?_) (fun hb3 => ?_)
            · rw [a7 x (by omega), b7 x (by omega)] at hb3
              refine zn_iinc5 (d := 1) (q := 69) d_rs_differ_66 rfl rfl ?_
              refine z_goto (tgt := 37) d_rs_differ_69 (by decide) ?_
              refine ih (x + 1) (by omega) (fun m hm2 => ?_)
              by_cases hmx : m = x
              · rw [hmx]; exact hb3
              · exact hm m (by omega)
            · rw [a7 x (by omega), b7 x (by omega)] at hb3
              refine z_ild5 (q := 65) d_rs_differ_63 rfl ?_
              exact z_iret d_rs_differ_65 rfl (Nat.le_refl _) (Nat.le_refl _) (by rw [← hPo]; exact ⟨rfl, fun _ _ => rfl, ⟨_, rfl, Or.inr ⟨hgood, by rw [ea, eb]; exact Or.inl ⟨x, (show x < 48 by omega), hb3, hm, rfl⟩⟩⟩, hcs⟩)
      exact loop 48 0 (by omega) (fun m hm => by omega)
    · obtain ⟨a, ha, rfl⟩ := hj
      refine Ct.of (lv := [some (.ref 0), some (.int (nI a)), some (.int k), none, none, none]) 3 (by decide) rfl (Nat.le_of_ble_eq_true rfl) ?_
      refine z_ald0 (q := 1) d_rs_differ_0 rfl ?_
      refine z_ild1 (q := 2) d_rs_differ_1 rfl ?_
      refine z_cV1 (q := 5) d_rs_differ_2 rfl (ct_isListed_yes h0 (by omega) h11 ha) (by first | assumption | omega) (by first | assumption | omega) rfl ck_rs_isListed lk_rs_75 im_rs_isListed sl_rs_isListed ⟨by decide, by decide⟩ (Nat.le_of_ble_eq_true rfl) rfl rfl ?_
      refine zi_if_eq (q := 8) (tgt := 16) d_rs_differ_5 rfl (by decide) (by omega) (fun hb9 => absurd hb9 (by omega)) (fun _ => ?_)
      refine z_ald0 (q := 9) d_rs_differ_8 rfl ?_
      refine z_ild2 (q := 10) d_rs_differ_9 rfl ?_
      refine z_cV1 (q := 13) d_rs_differ_10 rfl (ct_isListed_no h0 (by omega) h11 hk) (by first | assumption | omega) (by first | assumption | omega) rfl ck_rs_isListed lk_rs_75 im_rs_isListed sl_rs_isListed ⟨by decide, by decide⟩ (Nat.le_of_ble_eq_true rfl) rfl rfl ?_
      refine zi_if_ne (q := 16) (tgt := 19) d_rs_differ_13 rfl (by decide) (by omega) (fun hb9 => absurd rfl hb9) (fun _ => ?_)
      refine z_bipush (v := (-2)) (q := 18) d_rs_differ_16 rfl (by decide) ?_
      exact z_iret d_rs_differ_18 rfl (Nat.le_refl _) (Nat.le_refl _) ⟨rfl, fun _ _ => rfl, ⟨_, rfl, Or.inl ⟨fun hh => hk hh.2, rfl⟩⟩, hcs⟩
  · refine Ct.of (lv := [some (.ref 0), some (.int j), some (.int k), none, none, none]) 3 (by decide) rfl (Nat.le_of_ble_eq_true rfl) ?_
    refine z_ald0 (q := 1) d_rs_differ_0 rfl ?_
    refine z_ild1 (q := 2) d_rs_differ_1 rfl ?_
    refine z_cV1 (q := 5) d_rs_differ_2 rfl (ct_isListed_no h0 (by omega) h11 hj) (by first | assumption | omega) (by first | assumption | omega) rfl ck_rs_isListed lk_rs_75 im_rs_isListed sl_rs_isListed ⟨by decide, by decide⟩ (Nat.le_of_ble_eq_true rfl) rfl rfl ?_
    refine zi_if_eq (q := 8) (tgt := 16) d_rs_differ_5 rfl (by decide) (by omega) (fun _ => ?_) (fun hb9 => absurd rfl hb9)
    refine z_bipush (v := (-2)) (q := 18) d_rs_differ_16 rfl (by decide) ?_
    exact z_iret d_rs_differ_18 rfl (Nat.le_refl _) (Nat.le_refl _) ⟨rfl, fun _ _ => rfl, ⟨_, rfl, Or.inl ⟨fun hh => hj hh.1, rfl⟩⟩, hcs⟩
/-- whether a series obeys the row -/
def qOb (li gi : Nat) (row od : Nat → Nat) (ts : Nat → Nat → Nat) (k v : Int32) : Prop := (¬ isL li k ∧ v = nI 0) ∨ (isL li k ∧ (((∀ n, n < od k.toNatClampNeg → ts k.toNatClampNeg (n + gi) = fo_ row (ts k.toNatClampNeg) (n + gi) gi) ∧ v = nI 1) ∨ (¬ (∀ n, n < od k.toNatClampNeg → ts k.toNatClampNeg (n + gi) = fo_ row (ts k.toNatClampNeg) (n + gi) gi) ∧ v = nI 0)))
theorem cc_obeys {σ : zWd} {li gi : Nat} {row od : Nat → Nat} {cf ts : Nat → Nat → Nat} (h : CS li gi row od cf ts σ) (k : Int32) : Ct m_rs_obeys [.ref 0, .int k] 90 σ (AS CS FrC σ li gi row od cf ts (qOb li gi row od ts k)) := by
  have hcs := h
  obtain ⟨h0, ⟨f, hf1, hf2⟩, ⟨h2, h2'⟩, ⟨g3, h3, h3P⟩, ⟨g4, h4, h4P⟩, hFI, hSK, hDV, h8, h9, h10, h11, h12⟩ := h
  have h0' : σ 0 = zO 0 [.ref 1, .ref 2, .ref 3, .ref 4, .ref 5, .ref 9, .ref 15, .int (nI li), .int (nI gi)] := h0
  by_cases hk : isL li k
  · have hk' := hk
    obtain ⟨a, ha, rfl⟩ := hk
    have ea : (nI a).toNatClampNeg = a := nI_clamp (by omega)
    obtain ⟨ca, fa, ⟨a1, a2, a3, a4, a5⟩, a6, a7⟩ := h9 a ha
    have hSa := h10 a ha
    have hfa := hf2 a (by omega)
    have hoa := hSa.1
    refine Ct.of (lv := [some (.ref 0), some (.int (nI a)), none, none]) 2 (by decide) rfl (Nat.le_of_ble_eq_true rfl) ?_
    generalize hPo : AS CS FrC σ li gi row od cf ts (qOb li gi row od ts (nI a)) = Po
    refine z_ald0 (q := 1) d_rs_obeys_0 rfl ?_
    refine z_ild1 (q := 2) d_rs_obeys_1 rfl ?_
    refine z_cV1 (q := 5) d_rs_obeys_2 rfl (ct_isListed_yes h0 (by omega) h11 ha) (by first | assumption | omega) (by first | assumption | omega) rfl ck_rs_isListed lk_rs_75 im_rs_isListed sl_rs_isListed ⟨by decide, by decide⟩ (Nat.le_of_ble_eq_true rfl) rfl rfl ?_
    refine zi_if_ne (q := 8) (tgt := 10) d_rs_obeys_5 rfl (by decide) (by omega) (fun _ => ?_) (fun hb => absurd hb (by omega))
    refine z_ald0 (q := 11) d_rs_obeys_10 rfl ?_
    refine z_get 0 (q := 14) d_rs_obeys_11 rfl fg_rs_11 (by first | assumption | omega) (by first | assumption | omega) (by rfl) ?_
    refine z_ild1 (q := 15) d_rs_obeys_14 rfl ?_
    refine z_aaload (q := 16) d_rs_obeys_15 rfl (by first | assumption | omega) (by first | assumption | omega) (by omega) (by omega) (by first | assumption | omega) ?_
    refine z_ast2 (q := 17) d_rs_obeys_16 rfl rfl ?_
    refine z_ald0 (q := 18) d_rs_obeys_17 rfl ?_
    refine z_get 8 (q := 21) d_rs_obeys_18 rfl fg_rs_51 (by first | assumption | omega) (by first | assumption | omega) (by rfl) ?_
    refine z_ist3 (q := 22) d_rs_obeys_21 rfl rfl ?_
    have loop : ∀ e x, x + e = od a → (∀ n, n < x → ts a (n + gi) = fo_ row (ts a) (n + gi) gi) → Z m_rs_obeys Po 0 0 90 σ 22 [some (.ref 0), some (.int (nI a)), some (.ref (18 + 3 * a)), some (.int (nI (x + gi)))] [] := by
      intro e
      induction e with
      | zero =>
        intro x hx hm
        obtain rfl : x = od a := by omega
        refine z_ild3 (q := 23) d_rs_obeys_22 rfl ?_
        refine z_ald0 (q := 24) d_rs_obeys_23 rfl ?_
        refine z_get 8 (q := 27) d_rs_obeys_24 rfl fg_rs_51 (by first | assumption | omega) (by first | assumption | omega) (by rfl) ?_
        refine z_ald2 (q := 28) d_rs_obeys_27 rfl ?_
        refine z_get 0 (q := 31) d_rs_obeys_28 rfl fg_rs_78 (by first | assumption | omega) (by first | assumption | omega) (by rfl) ?_
        first | refine zn_iadd (q := 32) d_rs_obeys_31 rfl ?_ | refine z_iadd (q := 32) d_rs_obeys_31 rfl ?_
        refine zn_icmp_ge (q := 35) (tgt := 69) d_rs_obeys_32 rfl (by decide) (by omega) (by omega) (fun hb => ?_) (fun hb => ?_)
        · refine z_iconst (v := nI 1) (q := 70) d_rs_obeys_69 rfl (by decide) ?_
          exact z_zret d_rs_obeys_70 rfl rfl (Nat.le_refl _) (Nat.le_refl _) (by rw [← hPo]; exact ⟨rfl, fun _ _ => rfl, ⟨_, rfl, Or.inr ⟨hk', Or.inl ⟨by rw [ea]; exact hm, rfl⟩⟩⟩, hcs⟩)
        · exact absurd hb (by omega)
      | succ e ih =>
        intro x hx hm
        have qa := a5 (x + gi)
        have qf := fo_lt row fa (x + gi) gi
        have e1 : fo_ row fa (x + gi) gi = fo_ row (ts a) (x + gi) gi := fo_congr (fun _ _ => rfl) (fun i hi => a7 _ (by omega))
        refine z_ild3 (q := 23) d_rs_obeys_22 rfl ?_
        refine z_ald0 (q := 24) d_rs_obeys_23 rfl ?_
        refine z_get 8 (q := 27) d_rs_obeys_24 rfl fg_rs_51 (by first | assumption | omega) (by first | assumption | omega) (by rfl) ?_
        refine z_ald2 (q := 28) d_rs_obeys_27 rfl ?_
        refine z_get 0 (q := 31) d_rs_obeys_28 rfl fg_rs_78 (by first | assumption | omega) (by first | assumption | omega) (by rfl) ?_
        first | refine zn_iadd (q := 32) d_rs_obeys_31 rfl ?_ | refine z_iadd (q := 32) d_rs_obeys_31 rfl ?_
        refine zn_icmp_ge (q := 35) (tgt := 69) d_rs_obeys_32 rfl (by decide) (by omega) (by omega) (fun hb => ?_) (fun hb => ?_)
        · exact absurd hb (by omega)
        · refine z_ald2 (q := 36) d_rs_obeys_35 rfl ?_
          refine z_get 2 (q := 39) d_rs_obeys_36 rfl fg_rs_81 (by first | assumption | omega) (by first | assumption | omega) (by rfl) ?_
          refine z_ild3 (q := 40) d_rs_obeys_39 rfl ?_
          refine z_laload (q := 41) d_rs_obeys_40 rfl (by first | assumption | omega) (by first | assumption | omega) (by omega) (by omega) ?_
          refine z_ald0 (q := 42) d_rs_obeys_41 rfl ?_
          refine z_get 1 (q := 45) d_rs_obeys_42 rfl fg_rs_15 (by first | assumption | omega) (by first | assumption | omega) (by rfl) ?_
          refine z_ald0 (q := 46) d_rs_obeys_45 rfl ?_
          refine z_get 8 (q := 49) d_rs_obeys_46 rfl fg_rs_51 (by first | assumption | omega) (by first | assumption | omega) (by rfl) ?_
          refine z_ald2 (q := 50) d_rs_obeys_49 rfl ?_
          refine z_get 2 (q := 53) d_rs_obeys_50 rfl fg_rs_81 (by first | assumption | omega) (by first | assumption | omega) (by rfl) ?_
          refine z_ild3 (q := 54) d_rs_obeys_53 rfl ?_
          refine z_cS4 (q := 57) d_rs_obeys_54 rfl (ct_foretold h2 a3 (by omega) (by omega) (by omega) (by omega) (by omega) (by omega) (by omega) h2' a5) ck_nu_foretold lk_rs_68 st_nu_foretold ⟨by decide, by decide⟩ (Nat.le_of_ble_eq_true rfl) rfl rfl ?_
          refine z_lcmp (q := 58) d_rs_obeys_57 rfl ?_
          refine zc_if_eq (q := 61) (tgt := 63) d_rs_obeys_58 rfl (by decide) (by omega) (by omega) (fun hb3 => ?_) (fun hb3 => ?_)
          · rw [a7 (x + gi) (by omega), e1] at hb3
            refine zn_iinc3 (d := 1) (q := 66) d_rs_obeys_63 rfl rfl ?_
            refine z_goto (tgt := 22) d_rs_obeys_66 (by decide) ?_
            have h5 := ih (x + 1) (by omega) (fun n hn => by
              by_cases hnx : n = x
              · rw [hnx]; exact hb3
              · exact hm n (by omega))
            rw [show x + 1 + gi = x + gi + 1 by omega] at h5
            exact h5
          · rw [a7 (x + gi) (by omega), e1] at hb3
            refine z_iconst (v := nI 0) (q := 62) d_rs_obeys_61 rfl (by decide) ?_
            exact z_zret d_rs_obeys_62 rfl rfl (Nat.le_refl _) (Nat.le_refl _) (by rw [← hPo]; exact ⟨rfl, fun _ _ => rfl, ⟨_, rfl, Or.inr ⟨hk', Or.inr ⟨by rw [ea]; exact fun hh => hb3 (hh x (by omega)), rfl⟩⟩⟩, hcs⟩)
    have h5 := loop (od a) 0 (by omega) (fun n hn => by omega)
    rw [Nat.zero_add] at h5
    exact h5
  · refine Ct.of (lv := [some (.ref 0), some (.int k), none, none]) 2 (by decide) rfl (Nat.le_of_ble_eq_true rfl) ?_
    refine z_ald0 (q := 1) d_rs_obeys_0 rfl ?_
    refine z_ild1 (q := 2) d_rs_obeys_1 rfl ?_
    refine z_cV1 (q := 5) d_rs_obeys_2 rfl (ct_isListed_no h0 (by omega) h11 hk) (by first | assumption | omega) (by first | assumption | omega) rfl ck_rs_isListed lk_rs_75 im_rs_isListed sl_rs_isListed ⟨by decide, by decide⟩ (Nat.le_of_ble_eq_true rfl) rfl rfl ?_
    refine zi_if_ne (q := 8) (tgt := 10) d_rs_obeys_5 rfl (by decide) (by omega) (fun hb => absurd rfl hb) (fun _ => ?_)
    refine z_iconst (v := nI 0) (q := 9) d_rs_obeys_8 rfl (by decide) ?_
    exact z_zret d_rs_obeys_9 rfl rfl (Nat.le_refl _) (Nat.le_refl _) ⟨rfl, fun _ _ => rfl, ⟨_, rfl, Or.inl ⟨hk, rfl⟩⟩, hcs⟩
end
section
/-! spread, section and leaf of the class -/
theorem cc_spread {σ : zWd} {li gi : Nat} {row od : Nat → Nat} {cf ts : Nat → Nat → Nat} (h : CS li gi row od cf ts σ) (j m : Int32) : Ct m_rs_spread [.ref 0, .int j, .int m] 90 σ (MK CS FrC σ li gi row od cf ts (isL li j ∧ isR 1 24 m) (m.toNatClampNeg * od j.toNatClampNeg) (fun n => if n % m.toNatClampNeg = 0 then ts j.toNatClampNeg (n / m.toNatClampNeg) else 0)) := by
  have hcs := h
  obtain ⟨h0, ⟨f, hf1, hf2⟩, ⟨h2, h2'⟩, ⟨g3, h3, h3P⟩, ⟨g4, h4, h4P⟩, hFI, hSK, hDV, h8, h9, h10, h11, h12⟩ := h
  have h0' : σ 0 = zO 0 [.ref 1, .ref 2, .ref 3, .ref 4, .ref 5, .ref 9, .ref 15, .int (nI li), .int (nI gi)] := h0
  by_cases hj : isL li j
  · by_cases hm : isR 1 24 m
    · have hgood : isL li j ∧ isR 1 24 m := ⟨hj, hm⟩
      obtain ⟨a, ha, rfl⟩ := hj
      obtain ⟨b, hb1, hb2, rfl⟩ := hm
      rw [nI_clamp (by omega), nI_clamp (by omega)]
      obtain ⟨ca, fa, ⟨a1, a2, a3, a4, a5⟩, a6, a7⟩ := h9 a ha
      have hSa := h10 a ha
      have hfa := hf2 a (by omega)
      have hoa := hSa.1
      have hab : b * od a ≤ 24 * 24 := Nat.mul_le_mul hb2 hoa
      refine Ct.of (lv := [some (.ref 0), some (.int (nI a)), some (.int (nI b)), none, none, none, none]) 4 (by decide) rfl (Nat.le_of_ble_eq_true rfl) ?_
      generalize hPo : MK CS FrC σ li gi row od cf ts (isL li (nI a) ∧ isR 1 24 (nI b)) (b * od a) (fun n => if n % b = 0 then ts a (n / b) else 0) = Po
      generalize hs : (fun n => if n % b = 0 then ts a (n / b) else 0) = s at hPo
      have hsP : ∀ n, s n < 2147483647 := fun n => by
        rw [← hs]; dsimp only; split
        · exact hSa.2.1 _
        · omega
      refine z_ald0 (q := 1) d_rs_spread_0 rfl ?_
      refine z_ild1 (q := 2) d_rs_spread_1 rfl ?_
      refine z_cV1 (q := 5) d_rs_spread_2 rfl (ct_isListed_yes h0 (by omega) h11 ha) (by first | assumption | omega) (by first | assumption | omega) rfl ck_rs_isListed lk_rs_75 im_rs_isListed sl_rs_isListed ⟨by decide, by decide⟩ (Nat.le_of_ble_eq_true rfl) rfl rfl ?_
      refine zi_if_eq (q := 8) (tgt := 19) d_rs_spread_5 rfl (by decide) (by omega) (fun hb => absurd hb (by omega)) (fun _ => ?_)
      refine z_ild2 (q := 9) d_rs_spread_8 rfl ?_
      refine z_iconst (v := nI 1) (q := 10) d_rs_spread_9 rfl (by decide) ?_
      refine zn_icmp_lt (q := 13) (tgt := 19) d_rs_spread_10 rfl (by decide) (by omega) (by omega) (fun hb => absurd hb (by omega)) (fun _ => ?_)
      refine z_ild2 (q := 14) d_rs_spread_13 rfl ?_
      refine z_bipush (v := nI 24) (q := 16) d_rs_spread_14 rfl (by decide) ?_
      refine zn_icmp_le (q := 19) (tgt := 21) d_rs_spread_16 rfl (by decide) (by omega) (by omega) (fun _ => ?_) (fun hb => absurd hb2 hb)
      refine z_ald0 (q := 22) d_rs_spread_21 rfl ?_
      refine z_get 0 (q := 25) d_rs_spread_22 rfl fg_rs_11 (by first | assumption | omega) (by first | assumption | omega) (by rfl) ?_
      refine z_ild1 (q := 26) d_rs_spread_25 rfl ?_
      refine z_aaload (q := 27) d_rs_spread_26 rfl (by first | assumption | omega) (by first | assumption | omega) (by omega) (by omega) (by first | assumption | omega) ?_
      refine z_ast3 (q := 28) d_rs_spread_27 rfl rfl ?_
      refine z_ild2 (q := 29) d_rs_spread_28 rfl ?_
      refine z_ald3 (q := 30) d_rs_spread_29 rfl ?_
      refine z_get 0 (q := 33) d_rs_spread_30 rfl fg_rs_78 (by first | assumption | omega) (by first | assumption | omega) (by rfl) ?_
      first | refine zn_imul (q := 34) d_rs_spread_33 rfl ?_ | refine z_imul (q := 34) d_rs_spread_33 rfl ?_
      refine z_ist4 (q := 36) d_rs_spread_34 rfl rfl ?_
      refine z_ald0 (q := 37) d_rs_spread_36 rfl ?_
      refine z_ild4 (q := 39) d_rs_spread_37 rfl ?_
      refine z_cV1 (q := 42) d_rs_spread_39 rfl (ct_numberFor h0 (by omega) h11 (by omega)) (by first | assumption | omega) (by first | assumption | omega) rfl ck_rs_numberFor lk_rs_60 im_rs_numberFor sl_rs_numberFor ⟨by decide, by decide⟩ (Nat.le_of_ble_eq_true rfl) rfl rfl ?_
      refine z_ist5 (q := 44) d_rs_spread_42 rfl rfl ?_
      refine z_ild5 (q := 46) d_rs_spread_44 rfl ?_
      by_cases hn : 20 ≤ li ∨ 24 < b * od a
      · refine z_if_ge (q := 49) (tgt := 52) d_rs_spread_46 rfl (by decide) (fun hb => absurd hb (nf_neg hn)) (fun _ => ?_)
        refine z_ild5 (q := 51) d_rs_spread_49 rfl ?_
        exact z_iret d_rs_spread_51 rfl (Nat.le_refl _) (Nat.le_refl _) (by rw [← hPo]; exact Or.inr (Or.inl ⟨hgood, hn, rfl, rfl, fun _ _ => rfl, hcs⟩))
      rw [nf_pos (by omega) (by omega)]
      refine zi_if_ge (tgt := 52) d_rs_spread_46 (by decide) (by omega) ?_
      have hl20 : li < 20 := by omega
      have hB24 : b * od a ≤ 24 := by omega
      refine z_iconst (v := nI 0) (q := 53) d_rs_spread_52 rfl (by decide) ?_
      refine z_ist6 (q := 55) d_rs_spread_53 rfl rfl ?_
      have loop : ∀ e x, x + e = 2 * (b * od a) → Z m_rs_spread Po 0 0 90 (va_up σ 3 (zN 48 (fl_ s g3 x))) 55 [some (.ref 0), some (.int (nI a)), some (.int (nI b)), some (.ref (18 + 3 * a)), some (.int (nI (b * od a))), some (.int (nI li)), some (.int (nI x))] [] := by
        intro e
        induction e with
        | zero =>
          intro x hx
          obtain rfl : x = 2 * (b * od a) := by omega
          refine z_ild6 (q := 57) d_rs_spread_55 rfl ?_
          refine z_iconst (v := nI 2) (q := 58) d_rs_spread_57 rfl (by decide) ?_
          refine z_ild4 (q := 60) d_rs_spread_58 rfl ?_
          first | refine zn_imul (q := 61) d_rs_spread_60 rfl ?_ | refine z_imul (q := 61) d_rs_spread_60 rfl ?_
          refine zn_icmp_ge (q := 64) (tgt := 97) d_rs_spread_61 rfl (by decide) (by omega) (by omega) (fun hb => ?_) (fun hb => ?_)
          · have y0 : va_up σ 3 (zN 48 (fl_ s g3 (2 * (b * od a)))) 0 = zO 0 [.ref 1, .ref 2, .ref 3, .ref 4, .ref 5, .ref 9, .ref 15, .int (nI li), .int (nI gi)] := by rw [zu_ne (by omega)]; exact h0
            refine z_ald0 (q := 98) d_rs_spread_97 rfl ?_
            refine z_ild4 (q := 100) d_rs_spread_98 rfl ?_
            have hcm := hcs.made (g := fl_ s g3 (2 * (b * od a))) (fl_lt hsP h3P)
            refine z_gV1 (q := 103) d_rs_spread_100 rfl (ct_enlist hcm (by omega) hB24 zu_same (fl_lt hsP h3P) (fun j hj => fl_lo (by omega)) hsP (by rw [← hs]; obtain ⟨c9, hc9⟩ := bd_spread (ob_of hSa) b (by omega); refine ⟨b * od a, Nat.le_refl _, c9, ?_⟩; rw [Nat.mul_comm b (od a)]; have e9 : (fun n => ph (if n % b = 0 then ts a (n / b) else 0)) = (fun n => if n % b = 0 then ph (ts a (n / b)) else 0) := funext (fun n => by split <;> rfl); rw [e9]; exact hc9)) (by first | assumption | omega) (by first | assumption | omega) rfl ck_rs_enlist lk_rs_72 im_rs_enlist sl_rs_enlist ⟨by decide, by decide⟩ (Nat.le_of_ble_eq_true rfl) rfl rfl (fun r m τ hp => ?_)
            have hen := EN_made (σ := σ) (fun j hj => zu_ne (by omega)) hp
            obtain ⟨rfl, -, rfl, -⟩ := hp
            exact z_iret d_rs_spread_103 rfl (Nat.le_refl _) (Nat.le_refl _) (by rw [← hPo]; exact Or.inr (Or.inr ⟨hgood, hl20, hB24, hen⟩))
          · exact absurd hb (by omega)
        | succ e ih =>
          intro x hx
          have y0 : va_up σ 3 (zN 48 (fl_ s g3 x)) 0 = zO 0 [.ref 1, .ref 2, .ref 3, .ref 4, .ref 5, .ref 9, .ref 15, .int (nI li), .int (nI gi)] := by rw [zu_ne (by omega)]; exact h0
          have y3 : va_up σ 3 (zN 48 (fl_ s g3 x)) 3 = zN 48 (fl_ s g3 x) := zu_same
          have ya : va_up σ 3 (zN 48 (fl_ s g3 x)) (18 + 3 * a) = zO 1 [.int (nI (od a)), .ref (19 + 3 * a), .ref (20 + 3 * a)] := by rw [zu_ne (by omega)]; exact a1
          have yt : va_up σ 3 (zN 48 (fl_ s g3 x)) (20 + 3 * a) = zN 88 fa := by rw [zu_ne (by omega)]; exact a3
          have hmod : x % b < b := Nat.mod_lt _ (by omega)
          have hdiv : x / b ≤ x := Nat.div_le_self _ _
          refine z_ild6 (q := 57) d_rs_spread_55 rfl ?_
          refine z_iconst (v := nI 2) (q := 58) d_rs_spread_57 rfl (by decide) ?_
          refine z_ild4 (q := 60) d_rs_spread_58 rfl ?_
          first | refine zn_imul (q := 61) d_rs_spread_60 rfl ?_ | refine z_imul (q := 61) d_rs_spread_60 rfl ?_
          refine zn_icmp_ge (q := 64) (tgt := 97) d_rs_spread_61 rfl (by decide) (by omega) (by omega) (fun hb => ?_) (fun hb => ?_)
          · exact absurd hb (by omega)
          · refine z_ald0 (q := 65) d_rs_spread_64 rfl ?_
            refine z_get 2 (q := 68) d_rs_spread_65 rfl fg_rs_19 (by first | assumption | omega) (by first | assumption | omega) (by rfl) ?_
            refine z_ild6 (q := 70) d_rs_spread_68 rfl ?_
            refine z_ild6 (q := 72) d_rs_spread_70 rfl ?_
            refine z_ild2 (q := 73) d_rs_spread_72 rfl ?_
            refine zn_irem (q := 74) d_rs_spread_73 rfl (by omega) (by omega) (by omega) ?_
            refine zi_if_ne (q := 77) (tgt := 89) d_rs_spread_74 rfl (by decide) (by omega) (fun hb3 => ?_) (fun hb3 => ?_)
            · refine z_lconst (v := lN 0) (q := 90) d_rs_spread_89 rfl rfl ?_
              refine z_lastore (q := 91) d_rs_spread_90 rfl (by first | assumption | omega) (by first | assumption | omega) (by omega) (by omega) ?_
              refine zn_iinc6 (d := 1) (q := 94) d_rs_spread_91 rfl rfl ?_
              refine z_goto (tgt := 55) d_rs_spread_94 (by decide) ?_
              refine Z.eqw ?_ (ih (x + 1) (by omega))
              rw [zu_up, ← fl_s, ← hs]
              dsimp only
              rw [if_neg hb3]
            · refine z_ald3 (q := 78) d_rs_spread_77 rfl ?_
              refine z_get 2 (q := 81) d_rs_spread_78 rfl fg_rs_81 (by first | assumption | omega) (by first | assumption | omega) (by rfl) ?_
              refine z_ild6 (q := 83) d_rs_spread_81 rfl ?_
              refine z_ild2 (q := 84) d_rs_spread_83 rfl ?_
              refine zn_idiv (q := 85) d_rs_spread_84 rfl (by omega) (by omega) (by omega) ?_
              refine z_laload (q := 86) d_rs_spread_85 rfl (by first | assumption | omega) (by first | assumption | omega) (by omega) (by omega) ?_
              refine z_goto (tgt := 90) d_rs_spread_86 (by decide) ?_
              refine z_lastore (q := 91) d_rs_spread_90 rfl (by first | assumption | omega) (by first | assumption | omega) (by omega) (by omega) ?_
              refine zn_iinc6 (d := 1) (q := 94) d_rs_spread_91 rfl rfl ?_
              refine z_goto (tgt := 55) d_rs_spread_94 (by decide) ?_
              refine Z.eqw ?_ (ih (x + 1) (by omega))
              rw [zu_up, ← fl_s, ← hs]
              dsimp only
              rw [if_pos hb3, a7 (x / b) (by omega)]
      exact (Z.eqw (by rw [fl_0]; exact zu_id h3) (loop (2 * (b * od a)) 0 (by omega)))
    · obtain ⟨a, ha, rfl⟩ := hj
      refine Ct.of (lv := [some (.ref 0), some (.int (nI a)), some (.int m), none, none, none, none]) 4 (by decide) rfl (Nat.le_of_ble_eq_true rfl) ?_
      have bad : Z m_rs_spread (MK CS FrC σ li gi row od cf ts (isL li (nI a) ∧ isR 1 24 m) (m.toNatClampNeg * od (nI a).toNatClampNeg) (fun n => if n % m.toNatClampNeg = 0 then ts (nI a).toNatClampNeg (n / m.toNatClampNeg) else 0)) 0 0 90 σ 19 [some (.ref 0), some (.int (nI a)), some (.int m), none, none, none, none] [] := by
        refine z_iconst (v := (-1)) (q := 20) d_rs_spread_19 rfl (by decide) ?_
        exact z_iret d_rs_spread_20 rfl (Nat.le_refl _) (Nat.le_refl _) (Or.inl ⟨fun hh => hm hh.2, rfl, rfl, fun _ _ => rfl, hcs⟩)
      refine z_ald0 (q := 1) d_rs_spread_0 rfl ?_
      refine z_ild1 (q := 2) d_rs_spread_1 rfl ?_
      refine z_cV1 (q := 5) d_rs_spread_2 rfl (ct_isListed_yes h0 (by omega) h11 ha) (by first | assumption | omega) (by first | assumption | omega) rfl ck_rs_isListed lk_rs_75 im_rs_isListed sl_rs_isListed ⟨by decide, by decide⟩ (Nat.le_of_ble_eq_true rfl) rfl rfl ?_
      refine zi_if_eq (q := 8) (tgt := 19) d_rs_spread_5 rfl (by decide) (by omega) (fun hb => absurd hb (by omega)) (fun _ => ?_)
      refine z_ild2 (q := 9) d_rs_spread_8 rfl ?_
      refine z_iconst (v := nI 1) (q := 10) d_rs_spread_9 rfl (by decide) ?_
      refine z_icmp_lt (q := 13) (tgt := 19) d_rs_spread_10 rfl (by decide) (fun _ => bad) (fun hb1 => ?_)
      refine z_ild2 (q := 14) d_rs_spread_13 rfl ?_
      refine z_bipush (v := nI 24) (q := 16) d_rs_spread_14 rfl (by decide) ?_
      exact z_icmp_le (q := 19) (tgt := 21) d_rs_spread_16 rfl (by decide) (fun hb2 => absurd (isR_of (by decide) hb1 hb2 (by decide)) hm) (fun _ => bad)
  · refine Ct.of (lv := [some (.ref 0), some (.int j), some (.int m), none, none, none, none]) 4 (by decide) rfl (Nat.le_of_ble_eq_true rfl) ?_
    refine z_ald0 (q := 1) d_rs_spread_0 rfl ?_
    refine z_ild1 (q := 2) d_rs_spread_1 rfl ?_
    refine z_cV1 (q := 5) d_rs_spread_2 rfl (ct_isListed_no h0 (by omega) h11 hj) (by first | assumption | omega) (by first | assumption | omega) rfl ck_rs_isListed lk_rs_75 im_rs_isListed sl_rs_isListed ⟨by decide, by decide⟩ (Nat.le_of_ble_eq_true rfl) rfl rfl ?_
    refine zi_if_eq (q := 8) (tgt := 19) d_rs_spread_5 rfl (by decide) (by omega) (fun _ => ?_) (fun hb => absurd rfl hb)
    refine z_iconst (v := (-1)) (q := 20) d_rs_spread_19 rfl (by decide) ?_
    exact z_iret d_rs_spread_20 rfl (Nat.le_refl _) (Nat.le_refl _) (Or.inl ⟨fun hh => hj hh.1, rfl, rfl, fun _ _ => rfl, hcs⟩)
/-- no terms are written -/
theorem ct_writeNone {n : Nat} {σ : zWd} {i v : Nat} {x : Int32} (hx : x < 0) : Ct m_se_writeTerms [.ref i, .ref v, .int x] n σ (zEq none n σ) := by
  refine Ct.of (lv := [some (.ref i), some (.ref v), some (.int x), none]) 1 (by decide) rfl (Nat.le_of_ble_eq_true rfl) ?_
  refine z_iconst (v := nI 0) (q := 1) d_se_writeTerms_0 rfl (by decide) ?_
  refine z_ist3 (q := 2) d_se_writeTerms_1 rfl rfl ?_
  refine z_ild3 (q := 3) d_se_writeTerms_2 rfl ?_
  refine z_ild2 (q := 4) d_se_writeTerms_3 rfl ?_
  refine z_icmp_ge (q := 7) (tgt := 46) d_se_writeTerms_4 rfl (by decide) (fun hb => ?_) (fun hb => ?_)
  · exact z_vret d_se_writeTerms_46 rfl (Nat.le_refl _) (Nat.le_refl _) ⟨rfl, rfl, rfl⟩
  · exfalso
    rw [Int32.le_iff_toInt_le] at hb
    rw [Int32.lt_iff_toInt_lt] at hx
    have e0 : (nI 0).toInt = 0 := nI_toInt (by decide)
    have e1 : (0 : Int32).toInt = 0 := by decide
    omega
theorem zr_len {m i : Nat} (hm1 : 1 ≤ m) (hm : m ≤ 24) (hi : i ≤ 1000) : (m ≤ i + 1 ∧ nI m * (nI 0 - nI 1) + nI i + nI 1 = nI (i + 1 - m)) ∨ (i + 1 < m ∧ nI m * (nI 0 - nI 1) + nI i + nI 1 < 0) := by
  have em : (nI m).toInt = (m : Int) := nI_toInt (by omega)
  have ei : (nI i).toInt = (i : Int) := nI_toInt (by omega)
  have e1 : (nI 1).toInt = 1 := nI_toInt (by decide)
  have e2 : (nI 0 - nI 1).toInt = -1 := by decide
  have e3 : (nI m * (nI 0 - nI 1)).toInt = -(m : Int) := by rw [Jvm.Kit.i32_mul (by rw [em, e2]; omega) (by rw [em, e2]; omega), em, e2]; omega
  have e4 : (nI m * (nI 0 - nI 1) + nI i).toInt = -(m : Int) + i := by rw [Jvm.Kit.i32_add (by rw [e3, ei]; omega) (by rw [e3, ei]; omega), e3, ei]
  have e5 : (nI m * (nI 0 - nI 1) + nI i + nI 1).toInt = -(m : Int) + i + 1 := by rw [Jvm.Kit.i32_add (by rw [e4, e1]; omega) (by rw [e4, e1]; omega), e4, e1]
  by_cases h : m ≤ i + 1
  · refine Or.inl ⟨h, Int32.toInt_inj.mp ?_⟩
    rw [e5, nI_toInt (by omega)]
    omega
  · refine Or.inr ⟨by omega, ?_⟩
    rw [Int32.lt_iff_toInt_lt, e5]
    have e0 : (0 : Int32).toInt = 0 := by decide
    omega
theorem cc_section {σ : zWd} {li gi : Nat} {row od : Nat → Nat} {cf ts : Nat → Nat → Nat} (h : CS li gi row od cf ts σ) (j m i : Int32) : Ct m_rs_section [.ref 0, .int j, .int m, .int i] 90 σ (MK CS FrC σ li gi row od cf ts (isL li j ∧ isR 1 24 m ∧ isR 0 1000 i) (od j.toNatClampNeg) (fun n => ts j.toNatClampNeg (m.toNatClampNeg * n + i.toNatClampNeg))) := by
  have hcs := h
  obtain ⟨h0, ⟨f, hf1, hf2⟩, ⟨h2, h2'⟩, ⟨g3, h3, h3P⟩, ⟨g4, h4, h4P⟩, hFI, hSK, hDV, h8, h9, h10, h11, h12⟩ := h
  have h0' : σ 0 = zO 0 [.ref 1, .ref 2, .ref 3, .ref 4, .ref 5, .ref 9, .ref 15, .int (nI li), .int (nI gi)] := h0
  have bad : ¬ (isL li j ∧ isR 1 24 m ∧ isR 0 1000 i) → Z m_rs_section (MK CS FrC σ li gi row od cf ts (isL li j ∧ isR 1 24 m ∧ isR 0 1000 i) (od j.toNatClampNeg) (fun n => ts j.toNatClampNeg (m.toNatClampNeg * n + i.toNatClampNeg))) 0 0 90 σ 30 [some (.ref 0), some (.int j), some (.int m), some (.int i), none, none, none, none] [] := by
    intro hbad
    refine z_iconst (v := (-1)) (q := 31) d_rs_section_30 rfl (by decide) ?_
    exact z_iret d_rs_section_31 rfl (Nat.le_refl _) (Nat.le_refl _) (Or.inl ⟨hbad, rfl, rfl, fun _ _ => rfl, hcs⟩)
  by_cases hj : isL li j
  · by_cases hm : isR 1 24 m
    · by_cases hi : isR 0 1000 i
      · have hgood : isL li j ∧ isR 1 24 m ∧ isR 0 1000 i := ⟨hj, hm, hi⟩
        clear bad
        obtain ⟨a, ha, rfl⟩ := hj
        obtain ⟨b, hb1, hb2, rfl⟩ := hm
        obtain ⟨i, hi1, hi2, rfl⟩ := hi
        rw [nI_clamp (by omega), nI_clamp (by omega), nI_clamp (by omega)]
        obtain ⟨ca, fa, ⟨a1, a2, a3, a4, a5⟩, a6, a7⟩ := h9 a ha
        have hSa := h10 a ha
        have hfa := hf2 a (by omega)
        have hoa := hSa.1
        refine Ct.of (lv := [some (.ref 0), some (.int (nI a)), some (.int (nI b)), some (.int (nI i)), none, none, none, none]) 4 (by decide) rfl (Nat.le_of_ble_eq_true rfl) ?_
        generalize hPo : MK CS FrC σ li gi row od cf ts (isL li (nI a) ∧ isR 1 24 (nI b) ∧ isR 0 1000 (nI i)) (od a) (fun n => ts a (b * n + i)) = Po
        generalize hs : (fun n => ts a (b * n + i)) = s at hPo
        have hsP : ∀ n, s n < 2147483647 := fun n => by rw [← hs]; exact hSa.2.1 _
        refine z_ald0 (q := 1) d_rs_section_0 rfl ?_
        refine z_ild1 (q := 2) d_rs_section_1 rfl ?_
        refine z_cV1 (q := 5) d_rs_section_2 rfl (ct_isListed_yes h0 (by omega) h11 ha) (by first | assumption | omega) (by first | assumption | omega) rfl ck_rs_isListed lk_rs_75 im_rs_isListed sl_rs_isListed ⟨by decide, by decide⟩ (Nat.le_of_ble_eq_true rfl) rfl rfl ?_
        refine zi_if_eq (q := 8) (tgt := 30) d_rs_section_5 rfl (by decide) (by omega) (fun hb => absurd hb (by omega)) (fun _ => ?_)
        refine z_ild2 (q := 9) d_rs_section_8 rfl ?_
        refine z_iconst (v := nI 1) (q := 10) d_rs_section_9 rfl (by decide) ?_
        refine zn_icmp_lt (q := 13) (tgt := 30) d_rs_section_10 rfl (by decide) (by omega) (by omega) (fun hb => absurd hb (by omega)) (fun _ => ?_)
        refine z_ild2 (q := 14) d_rs_section_13 rfl ?_
        refine z_bipush (v := nI 24) (q := 16) d_rs_section_14 rfl (by decide) ?_
        refine zn_icmp_gt (q := 19) (tgt := 30) d_rs_section_16 rfl (by decide) (by omega) (by omega) (fun hb => absurd hb (by omega)) (fun _ => ?_)
        refine z_ild3 (q := 20) d_rs_section_19 rfl ?_
        refine zi_if_lt (q := 23) (tgt := 30) d_rs_section_20 rfl (by decide) (by omega) ?_
        refine z_ild3 (q := 24) d_rs_section_23 rfl ?_
        refine z_sipush (v := nI 1000) (q := 27) d_rs_section_24 rfl (by decide) ?_
        refine zn_icmp_le (q := 30) (tgt := 32) d_rs_section_27 rfl (by decide) (by omega) (by omega) (fun _ => ?_) (fun hb => absurd hi2 hb)
        refine z_ald0 (q := 33) d_rs_section_32 rfl ?_
        refine z_get 0 (q := 36) d_rs_section_33 rfl fg_rs_11 (by first | assumption | omega) (by first | assumption | omega) (by rfl) ?_
        refine z_ild1 (q := 37) d_rs_section_36 rfl ?_
        refine z_aaload (q := 38) d_rs_section_37 rfl (by first | assumption | omega) (by first | assumption | omega) (by omega) (by omega) (by first | assumption | omega) ?_
        refine z_ast4 (q := 40) d_rs_section_38 rfl rfl ?_
        refine z_ald4 (q := 42) d_rs_section_40 rfl ?_
        refine z_get 0 (q := 45) d_rs_section_42 rfl fg_rs_78 (by first | assumption | omega) (by first | assumption | omega) (by rfl) ?_
        refine z_ist5 (q := 47) d_rs_section_45 rfl rfl ?_
        refine z_ald0 (q := 48) d_rs_section_47 rfl ?_
        refine z_ild5 (q := 50) d_rs_section_48 rfl ?_
        refine z_cV1 (q := 53) d_rs_section_50 rfl (ct_numberFor h0 (by omega) h11 (by omega)) (by first | assumption | omega) (by first | assumption | omega) rfl ck_rs_numberFor lk_rs_60 im_rs_numberFor sl_rs_numberFor ⟨by decide, by decide⟩ (Nat.le_of_ble_eq_true rfl) rfl rfl ?_
        refine z_ist6 (q := 55) d_rs_section_53 rfl rfl ?_
        refine z_ild6 (q := 57) d_rs_section_55 rfl ?_
        by_cases hn : 20 ≤ li ∨ 24 < od a
        · refine z_if_ge (q := 60) (tgt := 63) d_rs_section_57 rfl (by decide) (fun hb => absurd hb (nf_neg hn)) (fun _ => ?_)
          refine z_ild6 (q := 62) d_rs_section_60 rfl ?_
          exact z_iret d_rs_section_62 rfl (Nat.le_refl _) (Nat.le_refl _) (by rw [← hPo]; exact Or.inr (Or.inl ⟨hgood, hn, rfl, rfl, fun _ _ => rfl, hcs⟩))
        rw [nf_pos (by omega) (by omega)]
        refine zi_if_ge (tgt := 63) d_rs_section_57 (by decide) (by omega) ?_
        have hl20 : li < 20 := by omega
        have hB24 : od a ≤ 24 := by omega
        -- behind the walk
        have rest : ∀ g : Nat → Nat, (∀ x, g x < 2147483647) → (∀ x, x < 2 * od a → g (b * x + i) = ts a (b * x + i)) → Z m_rs_section Po 0 0 90 (va_up σ 4 (zN 2129 g)) 84 [some (.ref 0), some (.int (nI a)), some (.int (nI b)), some (.int (nI i)), some (.ref (18 + 3 * a)), some (.int (nI (od a))), some (.int (nI li)), none] [] := by
          intro g hgP hgs
          have hcw := hcs.walk hgP
          have loop : ∀ e x, x + e = 2 * od a → Z m_rs_section Po 0 0 90 (va_up (va_up σ 4 (zN 2129 g)) 3 (zN 48 (fl_ s g3 x))) 87 [some (.ref 0), some (.int (nI a)), some (.int (nI b)), some (.int (nI i)), some (.ref (18 + 3 * a)), some (.int (nI (od a))), some (.int (nI li)), some (.int (nI x))] [] := by
            intro e
            induction e with
            | zero =>
              intro x hx
              obtain rfl : x = 2 * od a := by omega
              refine z_ild7 (q := 89) d_rs_section_87 rfl ?_
              refine z_iconst (v := nI 2) (q := 90) d_rs_section_89 rfl (by decide) ?_
              refine z_ild5 (q := 92) d_rs_section_90 rfl ?_
              first | refine zn_imul (q := 93) d_rs_section_92 rfl ?_ | refine z_imul (q := 93) d_rs_section_92 rfl ?_
              refine zn_icmp_ge (q := 96) (tgt := 120) d_rs_section_93 rfl (by decide) (by omega) (by omega) (fun hb => ?_) (fun hb => ?_)
              · have y0 : va_up (va_up σ 4 (zN 2129 g)) 3 (zN 48 (fl_ s g3 (2 * od a))) 0 = zO 0 [.ref 1, .ref 2, .ref 3, .ref 4, .ref 5, .ref 9, .ref 15, .int (nI li), .int (nI gi)] := by rw [zu_ne (by omega), zu_ne (by omega)]; exact h0
                refine z_ald0 (q := 121) d_rs_section_120 rfl ?_
                refine z_ild5 (q := 123) d_rs_section_121 rfl ?_
                have hcm := hcw.made (g := fl_ s g3 (2 * od a)) (fl_lt hsP h3P)
                refine z_gV1 (q := 126) d_rs_section_123 rfl (ct_enlist hcm (by omega) hB24 zu_same (fl_lt hsP h3P) (fun j hj => fl_lo (by omega)) hsP (by rw [← hs]; exact bd_section fp_inv (ob_of hSa) b i)) (by first | assumption | omega) (by first | assumption | omega) rfl ck_rs_enlist lk_rs_72 im_rs_enlist sl_rs_enlist ⟨by decide, by decide⟩ (Nat.le_of_ble_eq_true rfl) rfl rfl (fun r m τ hp => ?_)
                have hen := EN_made (σ := σ) (fun j hj => by rw [zu_ne (by omega), zu_ne (by omega)]) hp
                obtain ⟨rfl, -, rfl, -⟩ := hp
                exact z_iret d_rs_section_126 rfl (Nat.le_refl _) (Nat.le_refl _) (by rw [← hPo]; exact Or.inr (Or.inr ⟨hgood, hl20, hB24, hen⟩))
              · exact absurd hb (by omega)
            | succ e ih =>
              intro x hx
              have y0 : va_up (va_up σ 4 (zN 2129 g)) 3 (zN 48 (fl_ s g3 x)) 0 = zO 0 [.ref 1, .ref 2, .ref 3, .ref 4, .ref 5, .ref 9, .ref 15, .int (nI li), .int (nI gi)] := by rw [zu_ne (by omega), zu_ne (by omega)]; exact h0
              have y3 : va_up (va_up σ 4 (zN 2129 g)) 3 (zN 48 (fl_ s g3 x)) 3 = zN 48 (fl_ s g3 x) := zu_same
              have y4 : va_up (va_up σ 4 (zN 2129 g)) 3 (zN 48 (fl_ s g3 x)) 4 = zN 2129 g := by rw [zu_ne (by omega), zu_same]
              have hbx : b * x ≤ 24 * 47 := Nat.mul_le_mul hb2 (by omega)
              refine z_ild7 (q := 89) d_rs_section_87 rfl ?_
              refine z_iconst (v := nI 2) (q := 90) d_rs_section_89 rfl (by decide) ?_
              refine z_ild5 (q := 92) d_rs_section_90 rfl ?_
              first | refine zn_imul (q := 93) d_rs_section_92 rfl ?_ | refine z_imul (q := 93) d_rs_section_92 rfl ?_
              refine zn_icmp_ge (q := 96) (tgt := 120) d_rs_section_93 rfl (by decide) (by omega) (by omega) (fun hb => ?_) (fun hb => ?_)
              · exact absurd hb (by omega)
              · refine z_ald0 (q := 97) d_rs_section_96 rfl ?_
                refine z_get 2 (q := 100) d_rs_section_97 rfl fg_rs_19 (by first | assumption | omega) (by first | assumption | omega) (by rfl) ?_
                refine z_ild7 (q := 102) d_rs_section_100 rfl ?_
                refine z_ald0 (q := 103) d_rs_section_102 rfl ?_
                refine z_get 3 (q := 106) d_rs_section_103 rfl fg_rs_22 (by first | assumption | omega) (by first | assumption | omega) (by rfl) ?_
                refine z_ild2 (q := 107) d_rs_section_106 rfl ?_
                refine z_ild7 (q := 109) d_rs_section_107 rfl ?_
                first | refine zn_imul (q := 110) d_rs_section_109 rfl ?_ | refine z_imul (q := 110) d_rs_section_109 rfl ?_
                refine z_ild3 (q := 111) d_rs_section_110 rfl ?_
                first | refine zn_iadd (q := 112) d_rs_section_111 rfl ?_ | refine z_iadd (q := 112) d_rs_section_111 rfl ?_
                refine z_laload (q := 113) d_rs_section_112 rfl (by first | assumption | omega) (by first | assumption | omega) (by omega) (by omega) ?_
                refine z_lastore (q := 114) d_rs_section_113 rfl (by first | assumption | omega) (by first | assumption | omega) (by omega) (by omega) ?_
                refine zn_iinc7 (d := 1) (q := 117) d_rs_section_114 rfl rfl ?_
                refine z_goto (tgt := 87) d_rs_section_117 (by decide) ?_
                refine Z.eqw ?_ (ih (x + 1) (by omega))
                rw [zu_up, ← fl_s, ← hs, hgs x (by omega)]
          refine z_iconst (v := nI 0) (q := 85) d_rs_section_84 rfl (by decide) ?_
          refine z_ist7 (q := 87) d_rs_section_85 rfl rfl ?_
          exact (Z.eqw (by rw [fl_0]; exact zu_id (by rw [zu_ne (by omega)]; exact h3)) (loop (2 * od a) 0 (by omega)))
        have hread : ∀ (len x : Nat), x < od a → x < len → va_up σ 4 (zN 2129 (fl_ (ts a) g4 x)) (20 + 3 * a) = zN 88 (if 20 + 3 * a = 4 then fl_ (ts a) g4 x else fa) ∧ fa x = ts a x ∧ (20 + 3 * a = 4 → g4 x = ts a x) := by
          intro len x hx _
          refine ⟨by rw [zu_ne (by omega), if_neg (by omega)]; exact a3, a7 x (by omega), fun hh => absurd hh (by omega)⟩
        have hsca : ∀ x, od a ≤ x → ts a x = fo_ ca (ts a) x (od a) := fun x hx => by
          rw [hSa.2.2.2.1 x hx]
          exact fo_congr (fun y hy => (a6 y hy).symm) (fun _ _ => rfl)
        by_cases hz : od a = 0
        · refine z_ald4 (q := 65) d_rs_section_63 rfl ?_
          refine z_ald0 (q := 66) d_rs_section_65 rfl ?_
          refine z_get 3 (q := 69) d_rs_section_66 rfl fg_rs_22 (by first | assumption | omega) (by first | assumption | omega) (by rfl) ?_
          refine z_ild2 (q := 70) d_rs_section_69 rfl ?_
          refine z_iconst (v := nI 2) (q := 71) d_rs_section_70 rfl (by decide) ?_
          refine z_ild5 (q := 73) d_rs_section_71 rfl ?_
          refine zn_imul (q := 74) d_rs_section_73 rfl ?_
          refine z_iconst (v := nI 1) (q := 75) d_rs_section_74 rfl (by decide) ?_
          refine z_isub (q := 76) d_rs_section_75 rfl ?_
          refine z_imul (q := 77) d_rs_section_76 rfl ?_
          refine z_ild3 (q := 78) d_rs_section_77 rfl ?_
          refine z_iadd (q := 79) d_rs_section_78 rfl ?_
          refine z_iconst (v := nI 1) (q := 80) d_rs_section_79 rfl (by decide) ?_
          refine z_iadd (q := 81) d_rs_section_80 rfl ?_
          have e0 : 2 * od a = 0 := by omega
          rw [e0]
          rcases zr_len hb1 hb2 hi2 with ⟨q1, q2⟩ | ⟨q1, q2⟩
          · rw [q2]
            refine z_cV2v (q := 84) d_rs_section_81 rfl (ct_writeTerms (f := fa) (s := ts a) a1 a2 h4 (by omega) (by omega) (by omega) (by omega) (by omega) (by omega) (by omega) (by omega) (by omega) (hread _) a4 hSa.2.1 h4P hsca) (by first | assumption | omega) (by first | assumption | omega) rfl ck_se_writeTerms lk_rs_95 im_se_writeTerms sl_se_writeTerms ⟨by decide, by decide⟩ (Nat.le_of_ble_eq_true rfl) rfl rfl ?_
            exact rest _ (fl_lt hSa.2.1 h4P) (fun x hx => by omega)
          · refine z_cV2v (q := 84) d_rs_section_81 rfl (ct_writeNone q2) (by first | assumption | omega) (by first | assumption | omega) rfl ck_se_writeTerms lk_rs_95 im_se_writeTerms sl_se_writeTerms ⟨by decide, by decide⟩ (Nat.le_of_ble_eq_true rfl) rfl rfl ?_
            refine Z.eqw (zu_id h4) (rest _ h4P (fun x hx => by omega))
        · have hlen : b * (2 * od a - 1) ≤ 24 * 47 := Nat.mul_le_mul hb2 (by omega)
          refine z_ald4 (q := 65) d_rs_section_63 rfl ?_
          refine z_ald0 (q := 66) d_rs_section_65 rfl ?_
          refine z_get 3 (q := 69) d_rs_section_66 rfl fg_rs_22 (by first | assumption | omega) (by first | assumption | omega) (by rfl) ?_
          refine z_ild2 (q := 70) d_rs_section_69 rfl ?_
          refine z_iconst (v := nI 2) (q := 71) d_rs_section_70 rfl (by decide) ?_
          refine z_ild5 (q := 73) d_rs_section_71 rfl ?_
          first | refine zn_imul (q := 74) d_rs_section_73 rfl ?_ | refine z_imul (q := 74) d_rs_section_73 rfl ?_
          refine z_iconst (v := nI 1) (q := 75) d_rs_section_74 rfl (by decide) ?_
          first | refine zn_isub (q := 76) d_rs_section_75 rfl (by omega) ?_ | refine z_isub (q := 76) d_rs_section_75 rfl ?_
          first | refine zn_imul (q := 77) d_rs_section_76 rfl ?_ | refine z_imul (q := 77) d_rs_section_76 rfl ?_
          refine z_ild3 (q := 78) d_rs_section_77 rfl ?_
          first | refine zn_iadd (q := 79) d_rs_section_78 rfl ?_ | refine z_iadd (q := 79) d_rs_section_78 rfl ?_
          refine z_iconst (v := nI 1) (q := 80) d_rs_section_79 rfl (by decide) ?_
          first | refine zn_iadd (q := 81) d_rs_section_80 rfl ?_ | refine z_iadd (q := 81) d_rs_section_80 rfl ?_
          refine z_cV2v (q := 84) d_rs_section_81 rfl (ct_writeTerms (f := fa) (s := ts a) a1 a2 h4 (by omega) (by omega) (by omega) (by omega) (by omega) (by omega) (by omega) (by omega) (by omega) (hread _) a4 hSa.2.1 h4P hsca) (by first | assumption | omega) (by first | assumption | omega) rfl ck_se_writeTerms lk_rs_95 im_se_writeTerms sl_se_writeTerms ⟨by decide, by decide⟩ (Nat.le_of_ble_eq_true rfl) rfl rfl ?_
          refine rest _ (fl_lt hSa.2.1 h4P) (fun x hx => fl_lo ?_)
          have : b * x ≤ b * (2 * od a - 1) := Nat.mul_le_mul_left b (by omega)
          omega
      · refine Ct.of (lv := [some (.ref 0), some (.int j), some (.int m), some (.int i), none, none, none, none]) 4 (by decide) rfl (Nat.le_of_ble_eq_true rfl) ?_
        have hbad := bad (fun hh => hi hh.2.2)
        obtain ⟨a, ha, rfl⟩ := hj
        obtain ⟨b, hb1, hb2, rfl⟩ := hm
        refine z_ald0 (q := 1) d_rs_section_0 rfl ?_
        refine z_ild1 (q := 2) d_rs_section_1 rfl ?_
        refine z_cV1 (q := 5) d_rs_section_2 rfl (ct_isListed_yes h0 (by omega) h11 ha) (by first | assumption | omega) (by first | assumption | omega) rfl ck_rs_isListed lk_rs_75 im_rs_isListed sl_rs_isListed ⟨by decide, by decide⟩ (Nat.le_of_ble_eq_true rfl) rfl rfl ?_
        refine zi_if_eq (q := 8) (tgt := 30) d_rs_section_5 rfl (by decide) (by omega) (fun hb => absurd hb (by omega)) (fun _ => ?_)
        refine z_ild2 (q := 9) d_rs_section_8 rfl ?_
        refine z_iconst (v := nI 1) (q := 10) d_rs_section_9 rfl (by decide) ?_
        refine zn_icmp_lt (q := 13) (tgt := 30) d_rs_section_10 rfl (by decide) (by omega) (by omega) (fun hb => absurd hb (by omega)) (fun _ => ?_)
        refine z_ild2 (q := 14) d_rs_section_13 rfl ?_
        refine z_bipush (v := nI 24) (q := 16) d_rs_section_14 rfl (by decide) ?_
        refine zn_icmp_gt (q := 19) (tgt := 30) d_rs_section_16 rfl (by decide) (by omega) (by omega) (fun hb => absurd hb (by omega)) (fun _ => ?_)
        refine z_ild3 (q := 20) d_rs_section_19 rfl ?_
        refine z_if_lt (q := 23) (tgt := 30) d_rs_section_20 rfl (by decide) (fun _ => hbad) (fun q1 => ?_)
        refine z_ild3 (q := 24) d_rs_section_23 rfl ?_
        refine z_sipush (v := nI 1000) (q := 27) d_rs_section_24 rfl (by decide) ?_
        exact z_icmp_le (q := 30) (tgt := 32) d_rs_section_27 rfl (by decide) (fun q2 => absurd (isR_of (by decide) (by rw [nI_0]; exact q1) q2 (by decide)) hi) (fun _ => hbad)
    · refine Ct.of (lv := [some (.ref 0), some (.int j), some (.int m), some (.int i), none, none, none, none]) 4 (by decide) rfl (Nat.le_of_ble_eq_true rfl) ?_
      have hbad := bad (fun hh => hm hh.2.1)
      obtain ⟨a, ha, rfl⟩ := hj
      refine z_ald0 (q := 1) d_rs_section_0 rfl ?_
      refine z_ild1 (q := 2) d_rs_section_1 rfl ?_
      refine z_cV1 (q := 5) d_rs_section_2 rfl (ct_isListed_yes h0 (by omega) h11 ha) (by first | assumption | omega) (by first | assumption | omega) rfl ck_rs_isListed lk_rs_75 im_rs_isListed sl_rs_isListed ⟨by decide, by decide⟩ (Nat.le_of_ble_eq_true rfl) rfl rfl ?_
      refine zi_if_eq (q := 8) (tgt := 30) d_rs_section_5 rfl (by decide) (by omega) (fun hb => absurd hb (by omega)) (fun _ => ?_)
      refine z_ild2 (q := 9) d_rs_section_8 rfl ?_
      refine z_iconst (v := nI 1) (q := 10) d_rs_section_9 rfl (by decide) ?_
      refine z_icmp_lt (q := 13) (tgt := 30) d_rs_section_10 rfl (by decide) (fun _ => hbad) (fun q1 => ?_)
      refine z_ild2 (q := 14) d_rs_section_13 rfl ?_
      refine z_bipush (v := nI 24) (q := 16) d_rs_section_14 rfl (by decide) ?_
      refine z_icmp_gt (q := 19) (tgt := 30) d_rs_section_16 rfl (by decide) (fun _ => hbad) (fun q2 => ?_)
      exact absurd (isR_of (by decide) q1 (Int32.not_lt.mp q2) (by decide)) hm
  · refine Ct.of (lv := [some (.ref 0), some (.int j), some (.int m), some (.int i), none, none, none, none]) 4 (by decide) rfl (Nat.le_of_ble_eq_true rfl) ?_
    refine z_ald0 (q := 1) d_rs_section_0 rfl ?_
    refine z_ild1 (q := 2) d_rs_section_1 rfl ?_
    refine z_cV1 (q := 5) d_rs_section_2 rfl (ct_isListed_no h0 (by omega) h11 hj) (by first | assumption | omega) (by first | assumption | omega) rfl ck_rs_isListed lk_rs_75 im_rs_isListed sl_rs_isListed ⟨by decide, by decide⟩ (Nat.le_of_ble_eq_true rfl) rfl rfl ?_
    refine zi_if_eq (q := 8) (tgt := 30) d_rs_section_5 rfl (by decide) (by omega) (fun _ => ?_) (fun hb => absurd rfl hb)
    exact bad (fun hh => hj hh.1)
end
