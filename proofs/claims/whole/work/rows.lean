section
-- ===== PART A: goes FIRST, ahead of the names: the tables' words, and 'selects' of the private methods out of them =====
/-- a private method of a class that the tables say can be made, by its rows of tables_1 -/
def lw_okq (q : MethodName × Nat) : Prop := (q.1.cls ≠ "java/lang/invoke/MethodHandle" ∧ q.1.cls ≠ "java/lang/invoke/VarHandle") ∧ Cond.instantiable q.1.cls q.2 ∈ tables_1 ∧ Cond.privateMethod q.1 ∈ tables_1 ∧ Cond.instanceMethod q.1 ∈ tables_1
theorem lw_p0 : lw_okq (⟨"RecurrentSeries", "numberFor", "(I)I"⟩, 9) := ⟨⟨by decide +kernel, by decide +kernel⟩, List.mem_of_getElem? (i := 10) (by decide +kernel), List.mem_of_getElem? (i := 141) (by decide +kernel), List.mem_of_getElem? (i := 142) (by decide +kernel)⟩
theorem lw_p1 : lw_okq (⟨"RecurrentSeries", "othersFit", "(I)Z"⟩, 9) := ⟨⟨by decide +kernel, by decide +kernel⟩, List.mem_of_getElem? (i := 10) (by decide +kernel), List.mem_of_getElem? (i := 145) (by decide +kernel), List.mem_of_getElem? (i := 146) (by decide +kernel)⟩
theorem lw_p2 : lw_okq (⟨"RecurrentSeries", "enlist", "(I)I"⟩, 9) := ⟨⟨by decide +kernel, by decide +kernel⟩, List.mem_of_getElem? (i := 10) (by decide +kernel), List.mem_of_getElem? (i := 155) (by decide +kernel), List.mem_of_getElem? (i := 156) (by decide +kernel)⟩
theorem lw_p3 : lw_okq (⟨"RecurrentSeries$Finder", "mend", "(JII)V"⟩, 3) := ⟨⟨by decide +kernel, by decide +kernel⟩, List.mem_of_getElem? (i := 20) (by decide +kernel), List.mem_of_getElem? (i := 178) (by decide +kernel), List.mem_of_getElem? (i := 179) (by decide +kernel)⟩
theorem lw_p4 : lw_okq (⟨"RecurrentSeries$Finder", "keepUnmended", "()V"⟩, 3) := ⟨⟨by decide +kernel, by decide +kernel⟩, List.mem_of_getElem? (i := 20) (by decide +kernel), List.mem_of_getElem? (i := 185) (by decide +kernel), List.mem_of_getElem? (i := 186) (by decide +kernel)⟩
theorem lw_p5 : lw_okq (⟨"RecurrentSeries", "isListed", "(I)Z"⟩, 9) := ⟨⟨by decide +kernel, by decide +kernel⟩, List.mem_of_getElem? (i := 10) (by decide +kernel), List.mem_of_getElem? (i := 198) (by decide +kernel), List.mem_of_getElem? (i := 199) (by decide +kernel)⟩
theorem lw_p6 : lw_okq (⟨"RecurrentSeries$Seeker", "load", "(LRecurrentSeries$Series;)V"⟩, 5) := ⟨⟨by decide +kernel, by decide +kernel⟩, List.mem_of_getElem? (i := 37) (by decide +kernel), List.mem_of_getElem? (i := 261) (by decide +kernel), List.mem_of_getElem? (i := 262) (by decide +kernel)⟩
theorem lw_p7 : lw_okq (⟨"RecurrentSeries$Seeker", "halve", "(II)V"⟩, 5) := ⟨⟨by decide +kernel, by decide +kernel⟩, List.mem_of_getElem? (i := 37) (by decide +kernel), List.mem_of_getElem? (i := 267) (by decide +kernel), List.mem_of_getElem? (i := 268) (by decide +kernel)⟩
theorem lw_p8 : lw_okq (⟨"RecurrentSeries$Seeker", "timesMirrored", "([JII)J"⟩, 5) := ⟨⟨by decide +kernel, by decide +kernel⟩, List.mem_of_getElem? (i := 37) (by decide +kernel), List.mem_of_getElem? (i := 271) (by decide +kernel), List.mem_of_getElem? (i := 272) (by decide +kernel)⟩
theorem lw_p9 : lw_okq (⟨"RecurrentSeriesModel", "settle", "(I)I"⟩, 13) := ⟨⟨by decide +kernel, by decide +kernel⟩, List.mem_of_getElem? (i := 304) (by decide +kernel), List.mem_of_getElem? (i := 367) (by decide +kernel), List.mem_of_getElem? (i := 368) (by decide +kernel)⟩
theorem lw_p10 : lw_okq (⟨"RecurrentSeriesModel", "ask", "(IIII)V"⟩, 13) := ⟨⟨by decide +kernel, by decide +kernel⟩, List.mem_of_getElem? (i := 304) (by decide +kernel), List.mem_of_getElem? (i := 371) (by decide +kernel), List.mem_of_getElem? (i := 372) (by decide +kernel)⟩
theorem lw_p11 : lw_okq (⟨"RecurrentSeriesModel", "solve", "(II)Z"⟩, 13) := ⟨⟨by decide +kernel, by decide +kernel⟩, List.mem_of_getElem? (i := 304) (by decide +kernel), List.mem_of_getElem? (i := 375) (by decide +kernel), List.mem_of_getElem? (i := 376) (by decide +kernel)⟩
theorem lw_p12 : lw_okq (⟨"RecurrentSeriesModel", "swapRows", "(III)V"⟩, 13) := ⟨⟨by decide +kernel, by decide +kernel⟩, List.mem_of_getElem? (i := 304) (by decide +kernel), List.mem_of_getElem? (i := 379) (by decide +kernel), List.mem_of_getElem? (i := 380) (by decide +kernel)⟩
theorem lw_p13 : lw_okq (⟨"RecurrentSeriesModel", "clean", "(IIII)V"⟩, 13) := ⟨⟨by decide +kernel, by decide +kernel⟩, List.mem_of_getElem? (i := 304) (by decide +kernel), List.mem_of_getElem? (i := 383) (by decide +kernel), List.mem_of_getElem? (i := 384) (by decide +kernel)⟩
theorem lw_p14 : lw_okq (⟨"RecurrentSeriesModel", "orderOf", "(I)I"⟩, 13) := ⟨⟨by decide +kernel, by decide +kernel⟩, List.mem_of_getElem? (i := 304) (by decide +kernel), List.mem_of_getElem? (i := 395) (by decide +kernel), List.mem_of_getElem? (i := 396) (by decide +kernel)⟩
theorem lw_p15 : lw_okq (⟨"RecurrentSeriesModel", "isIn", "(I)Z"⟩, 13) := ⟨⟨by decide +kernel, by decide +kernel⟩, List.mem_of_getElem? (i := 304) (by decide +kernel), List.mem_of_getElem? (i := 399) (by decide +kernel), List.mem_of_getElem? (i := 400) (by decide +kernel)⟩
def lw_privs_1 : List (MethodName × Nat) := [(⟨"RecurrentSeries", "numberFor", "(I)I"⟩, 9), (⟨"RecurrentSeries", "othersFit", "(I)Z"⟩, 9), (⟨"RecurrentSeries", "enlist", "(I)I"⟩, 9), (⟨"RecurrentSeries$Finder", "mend", "(JII)V"⟩, 3), (⟨"RecurrentSeries$Finder", "keepUnmended", "()V"⟩, 3), (⟨"RecurrentSeries", "isListed", "(I)Z"⟩, 9), (⟨"RecurrentSeries$Seeker", "load", "(LRecurrentSeries$Series;)V"⟩, 5), (⟨"RecurrentSeries$Seeker", "halve", "(II)V"⟩, 5), (⟨"RecurrentSeries$Seeker", "timesMirrored", "([JII)J"⟩, 5), (⟨"RecurrentSeriesModel", "settle", "(I)I"⟩, 13), (⟨"RecurrentSeriesModel", "ask", "(IIII)V"⟩, 13), (⟨"RecurrentSeriesModel", "solve", "(II)Z"⟩, 13), (⟨"RecurrentSeriesModel", "swapRows", "(III)V"⟩, 13), (⟨"RecurrentSeriesModel", "clean", "(IIII)V"⟩, 13), (⟨"RecurrentSeriesModel", "orderOf", "(I)I"⟩, 13), (⟨"RecurrentSeriesModel", "isIn", "(I)Z"⟩, 13)]
theorem lw_r1 : ∀ q ∈ lw_privs_1, lw_okq q := List.forall_mem_cons.mpr ⟨lw_p0, List.forall_mem_cons.mpr ⟨lw_p1, List.forall_mem_cons.mpr ⟨lw_p2, List.forall_mem_cons.mpr ⟨lw_p3, List.forall_mem_cons.mpr ⟨lw_p4, List.forall_mem_cons.mpr ⟨lw_p5, List.forall_mem_cons.mpr ⟨lw_p6, List.forall_mem_cons.mpr ⟨lw_p7, List.forall_mem_cons.mpr ⟨lw_p8, List.forall_mem_cons.mpr ⟨lw_p9, List.forall_mem_cons.mpr ⟨lw_p10, List.forall_mem_cons.mpr ⟨lw_p11, List.forall_mem_cons.mpr ⟨lw_p12, List.forall_mem_cons.mpr ⟨lw_p13, List.forall_mem_cons.mpr ⟨lw_p14, List.forall_mem_cons.mpr ⟨lw_p15, fun _ h => absurd h List.not_mem_nil⟩⟩⟩⟩⟩⟩⟩⟩⟩⟩⟩⟩⟩⟩⟩⟩
theorem lw_p16 : lw_okq (⟨"RecurrentSeriesModel", "refusal", "(ZI)I"⟩, 13) := ⟨⟨by decide +kernel, by decide +kernel⟩, List.mem_of_getElem? (i := 304) (by decide +kernel), List.mem_of_getElem? (i := 403) (by decide +kernel), List.mem_of_getElem? (i := 404) (by decide +kernel)⟩
theorem lw_p17 : lw_okq (⟨"RecurrentSeriesModel", "expand", "(III)V"⟩, 13) := ⟨⟨by decide +kernel, by decide +kernel⟩, List.mem_of_getElem? (i := 304) (by decide +kernel), List.mem_of_getElem? (i := 407) (by decide +kernel), List.mem_of_getElem? (i := 408) (by decide +kernel)⟩
theorem lw_p18 : lw_okq (⟨"RecurrentSeriesModel", "makeStep", "(II)V"⟩, 13) := ⟨⟨by decide +kernel, by decide +kernel⟩, List.mem_of_getElem? (i := 304) (by decide +kernel), List.mem_of_getElem? (i := 464) (by decide +kernel), List.mem_of_getElem? (i := 465) (by decide +kernel)⟩
theorem lw_p19 : lw_okq (⟨"RecurrentSeriesModel", "applyStep", "(I)V"⟩, 13) := ⟨⟨by decide +kernel, by decide +kernel⟩, List.mem_of_getElem? (i := 304) (by decide +kernel), List.mem_of_getElem? (i := 468) (by decide +kernel), List.mem_of_getElem? (i := 469) (by decide +kernel)⟩
theorem lw_p20 : lw_okq (⟨"RecurrentSeriesModel", "squareStep", "(I)V"⟩, 13) := ⟨⟨by decide +kernel, by decide +kernel⟩, List.mem_of_getElem? (i := 304) (by decide +kernel), List.mem_of_getElem? (i := 472) (by decide +kernel), List.mem_of_getElem? (i := 473) (by decide +kernel)⟩
def lw_privs_2 : List (MethodName × Nat) := [(⟨"RecurrentSeriesModel", "refusal", "(ZI)I"⟩, 13), (⟨"RecurrentSeriesModel", "expand", "(III)V"⟩, 13), (⟨"RecurrentSeriesModel", "makeStep", "(II)V"⟩, 13), (⟨"RecurrentSeriesModel", "applyStep", "(I)V"⟩, 13), (⟨"RecurrentSeriesModel", "squareStep", "(I)V"⟩, 13)]
theorem lw_r2 : ∀ q ∈ lw_privs_2, lw_okq q := List.forall_mem_cons.mpr ⟨lw_p16, List.forall_mem_cons.mpr ⟨lw_p17, List.forall_mem_cons.mpr ⟨lw_p18, List.forall_mem_cons.mpr ⟨lw_p19, List.forall_mem_cons.mpr ⟨lw_p20, fun _ h => absurd h List.not_mem_nil⟩⟩⟩⟩⟩
def lw_privs : List (MethodName × Nat) := lw_privs_1 ++ (lw_privs_2)
def lw_tbl : List Cond := k2_sels lw_privs ++ tables_1
theorem lw_privs_ok : ∀ q ∈ lw_privs, lw_okq q := by
  show ∀ q ∈ lw_privs_1 ++ (lw_privs_2), lw_okq q
  exact List.forall_mem_append.mpr ⟨lw_r1, lw_r2⟩
end
section
/-! Names: classes with their fields in the order of the slots, methods with their code, types and rooms -/
def zT_rs : u_T := fun k => match k with
  | 0 => ("RecurrentSeries", "list", "[LRecurrentSeries$Series;", true)
  | 1 => ("RecurrentSeries", "row", "[J", true)
  | 2 => ("RecurrentSeries", "made", "[J", true)
  | 3 => ("RecurrentSeries", "walk", "[J", true)
  | 4 => ("RecurrentSeries", "finder", "LRecurrentSeries$Finder;", true)
  | 5 => ("RecurrentSeries", "seeker", "LRecurrentSeries$Seeker;", true)
  | 6 => ("RecurrentSeries", "divider", "LRecurrentSeries$Divider;", true)
  | 7 => ("RecurrentSeries", "listed", "I", false)
  | _ => ("RecurrentSeries", "given", "I", false)
def zY_rs : Nat → FieldType := fun k => match k with
  | 0 => .array (.object "RecurrentSeries$Series")
  | 1 => .array .long
  | 2 => .array .long
  | 3 => .array .long
  | 4 => .object "RecurrentSeries$Finder"
  | 5 => .object "RecurrentSeries$Seeker"
  | 6 => .object "RecurrentSeries$Divider"
  | 7 => .int
  | _ => .int
theorem zY_rs_ok : ∀ k, k < 9 → parseFieldDescriptor (zT_rs k).2.2.1 = some (zY_rs k) := by decide +kernel
theorem zT_rs_nm : ∀ a, a < 9 → ∀ b, b < 9 → a ≠ b → (zT_rs a).2.1 ≠ (zT_rs b).2.1 := by decide +kernel
def zT_se : u_T := fun k => match k with
  | 0 => ("RecurrentSeries$Series", "order", "I", false)
  | 1 => ("RecurrentSeries$Series", "coefficients", "[J", true)
  | _ => ("RecurrentSeries$Series", "terms", "[J", true)
def zY_se : Nat → FieldType := fun k => match k with
  | 0 => .int
  | 1 => .array .long
  | _ => .array .long
theorem zY_se_ok : ∀ k, k < 3 → parseFieldDescriptor (zT_se k).2.2.1 = some (zY_se k) := by decide +kernel
theorem zT_se_nm : ∀ a, a < 3 → ∀ b, b < 3 → a ≠ b → (zT_se a).2.1 ≠ (zT_se b).2.1 := by decide +kernel
def zT_fi : u_T := fun k => match k with
  | 0 => ("RecurrentSeries$Finder", "now", "[J", false)
  | 1 => ("RecurrentSeries$Finder", "before", "[J", false)
  | _ => ("RecurrentSeries$Finder", "spare", "[J", false)
def zY_fi : Nat → FieldType := fun k => match k with
  | 0 => .array .long
  | 1 => .array .long
  | _ => .array .long
theorem zY_fi_ok : ∀ k, k < 3 → parseFieldDescriptor (zT_fi k).2.2.1 = some (zY_fi k) := by decide +kernel
theorem zT_fi_nm : ∀ a, a < 3 → ∀ b, b < 3 → a ≠ b → (zT_fi a).2.1 ≠ (zT_fi b).2.1 := by decide +kernel
def zT_sk : u_T := fun k => match k with
  | 0 => ("RecurrentSeries$Seeker", "top", "[J", false)
  | 1 => ("RecurrentSeries$Seeker", "bottom", "[J", false)
  | 2 => ("RecurrentSeries$Seeker", "nextTop", "[J", false)
  | 3 => ("RecurrentSeries$Seeker", "nextBottom", "[J", false)
  | _ => ("RecurrentSeries$Seeker", "mirrored", "[J", true)
def zY_sk : Nat → FieldType := fun k => match k with
  | 0 => .array .long
  | 1 => .array .long
  | 2 => .array .long
  | 3 => .array .long
  | _ => .array .long
theorem zY_sk_ok : ∀ k, k < 5 → parseFieldDescriptor (zT_sk k).2.2.1 = some (zY_sk k) := by decide +kernel
theorem zT_sk_nm : ∀ a, a < 5 → ∀ b, b < 5 → a ≠ b → (zT_sk a).2.1 ≠ (zT_sk b).2.1 := by decide +kernel
def zT_dv : u_T := fun k => match k with
  | 0 => ("RecurrentSeries$Divider", "first", "[J", true)
  | _ => ("RecurrentSeries$Divider", "second", "[J", true)
def zY_dv : Nat → FieldType := fun k => match k with
  | 0 => .array .long
  | _ => .array .long
theorem zY_dv_ok : ∀ k, k < 2 → parseFieldDescriptor (zT_dv k).2.2.1 = some (zY_dv k) := by decide +kernel
theorem zT_dv_nm : ∀ a, a < 2 → ∀ b, b < 2 → a ≠ b → (zT_dv a).2.1 ≠ (zT_dv b).2.1 := by decide +kernel
def zT_mo : u_T := fun k => match k with
  | 0 => ("RecurrentSeriesModel", "size", "I", false)
  | 1 => ("RecurrentSeriesModel", "given", "I", false)
  | 2 => ("RecurrentSeriesModel", "row", "[J", true)
  | 3 => ("RecurrentSeriesModel", "orders", "[I", true)
  | 4 => ("RecurrentSeriesModel", "coefs", "[J", true)
  | 5 => ("RecurrentSeriesModel", "firsts", "[J", true)
  | 6 => ("RecurrentSeriesModel", "t", "[J", true)
  | 7 => ("RecurrentSeriesModel", "grid", "[J", true)
  | 8 => ("RecurrentSeriesModel", "pivot", "[I", true)
  | 9 => ("RecurrentSeriesModel", "step", "[J", true)
  | 10 => ("RecurrentSeriesModel", "square", "[J", true)
  | 11 => ("RecurrentSeriesModel", "vector", "[J", true)
  | _ => ("RecurrentSeriesModel", "moved", "[J", true)
def zY_mo : Nat → FieldType := fun k => match k with
  | 0 => .int
  | 1 => .int
  | 2 => .array .long
  | 3 => .array .int
  | 4 => .array .long
  | 5 => .array .long
  | 6 => .array .long
  | 7 => .array .long
  | 8 => .array .int
  | 9 => .array .long
  | 10 => .array .long
  | 11 => .array .long
  | _ => .array .long
theorem zY_mo_ok : ∀ k, k < 13 → parseFieldDescriptor (zT_mo k).2.2.1 = some (zY_mo k) := by decide +kernel
theorem zT_mo_nm : ∀ a, a < 13 → ∀ b, b < 13 → a ≠ b → (zT_mo a).2.1 ≠ (zT_mo b).2.1 := by decide +kernel
abbrev zCl : List vw_C := [("RecurrentSeries", zT_rs, 9), ("RecurrentSeries$Series", zT_se, 3), ("RecurrentSeries$Finder", zT_fi, 3), ("RecurrentSeries$Seeker", zT_sk, 5), ("RecurrentSeries$Divider", zT_dv, 2), ("RecurrentSeriesModel", zT_mo, 13)]
abbrev zMI : Type := MethodName × ByteArray × Nat × Option FieldType × Room
abbrev m_rs_init : zMI := (⟨"RecurrentSeries", "<init>", "()V"⟩, prog_1_method_1_code, 2, none, { frames := 2, cells := 77, slots := 5514, locals := 40 })
abbrev m_rs_give : zMI := (⟨"RecurrentSeries", "give", "(I)Z"⟩, prog_1_method_2_code, 2, some FieldType.boolean, { frames := 1, cells := 0, slots := 0, locals := 22 })
abbrev m_rs_clear : zMI := (⟨"RecurrentSeries", "clear", "()I"⟩, prog_1_method_3_code, 2, some FieldType.int, { frames := 0, cells := 0, slots := 0, locals := 0 })
abbrev m_rs_leaf : zMI := (⟨"RecurrentSeries", "leaf", "(I)I"⟩, prog_1_method_4_code, 4, some FieldType.int, { frames := 4, cells := 0, slots := 0, locals := 107 })
abbrev m_rs_combine : zMI := (⟨"RecurrentSeries", "combine", "(IIII)I"⟩, prog_1_method_5_code, 14, some FieldType.int, { frames := 4, cells := 0, slots := 0, locals := 107 })
abbrev m_rs_product : zMI := (⟨"RecurrentSeries", "product", "(II)I"⟩, prog_1_method_6_code, 11, some FieldType.int, { frames := 4, cells := 0, slots := 0, locals := 107 })
abbrev m_rs_pairwise : zMI := (⟨"RecurrentSeries", "pairwise", "(II)I"⟩, prog_1_method_7_code, 8, some FieldType.int, { frames := 4, cells := 0, slots := 0, locals := 107 })
abbrev m_rs_derivative : zMI := (⟨"RecurrentSeries", "derivative", "(I)I"⟩, prog_1_method_8_code, 6, some FieldType.int, { frames := 4, cells := 0, slots := 0, locals := 107 })
abbrev m_rs_tail : zMI := (⟨"RecurrentSeries", "tail", "(I)I"⟩, prog_1_method_9_code, 6, some FieldType.int, { frames := 4, cells := 0, slots := 0, locals := 107 })
abbrev m_rs_delay : zMI := (⟨"RecurrentSeries", "delay", "(I)I"⟩, prog_1_method_10_code, 6, some FieldType.int, { frames := 4, cells := 0, slots := 0, locals := 107 })
abbrev m_rs_sums : zMI := (⟨"RecurrentSeries", "sums", "(I)I"⟩, prog_1_method_11_code, 8, some FieldType.int, { frames := 4, cells := 0, slots := 0, locals := 107 })
abbrev m_rs_section : zMI := (⟨"RecurrentSeries", "section", "(III)I"⟩, prog_1_method_12_code, 8, some FieldType.int, { frames := 4, cells := 0, slots := 0, locals := 107 })
abbrev m_rs_spread : zMI := (⟨"RecurrentSeries", "spread", "(II)I"⟩, prog_1_method_13_code, 7, some FieldType.int, { frames := 4, cells := 0, slots := 0, locals := 107 })
abbrev m_rs_forget : zMI := (⟨"RecurrentSeries", "forget", "()Z"⟩, prog_1_method_14_code, 1, some FieldType.boolean, { frames := 0, cells := 0, slots := 0, locals := 0 })
abbrev m_rs_count : zMI := (⟨"RecurrentSeries", "count", "()I"⟩, prog_1_method_15_code, 1, some FieldType.int, { frames := 0, cells := 0, slots := 0, locals := 0 })
abbrev m_rs_order : zMI := (⟨"RecurrentSeries", "order", "(I)I"⟩, prog_1_method_16_code, 2, some FieldType.int, { frames := 1, cells := 0, slots := 0, locals := 21 })
abbrev m_rs_coefficient : zMI := (⟨"RecurrentSeries", "coefficient", "(II)I"⟩, prog_1_method_17_code, 3, some FieldType.int, { frames := 1, cells := 0, slots := 0, locals := 21 })
abbrev m_rs_term : zMI := (⟨"RecurrentSeries", "term", "(IJ)I"⟩, prog_1_method_18_code, 4, some FieldType.int, { frames := 4, cells := 0, slots := 0, locals := 99 })
abbrev m_rs_differ : zMI := (⟨"RecurrentSeries", "differ", "(II)I"⟩, prog_1_method_19_code, 6, some FieldType.int, { frames := 1, cells := 0, slots := 0, locals := 21 })
abbrev m_rs_obeys : zMI := (⟨"RecurrentSeries", "obeys", "(I)Z"⟩, prog_1_method_20_code, 4, some FieldType.boolean, { frames := 2, cells := 0, slots := 0, locals := 51 })
abbrev m_rs_shared : zMI := (⟨"RecurrentSeries", "shared", "(II)I"⟩, prog_1_method_21_code, 5, some FieldType.int, { frames := 4, cells := 0, slots := 0, locals := 109 })
abbrev m_rs_isListed : zMI := (⟨"RecurrentSeries", "isListed", "(I)Z"⟩, prog_1_method_22_code, 2, some FieldType.boolean, { frames := 0, cells := 0, slots := 0, locals := 0 })
abbrev m_rs_numberFor : zMI := (⟨"RecurrentSeries", "numberFor", "(I)I"⟩, prog_1_method_23_code, 2, some FieldType.int, { frames := 0, cells := 0, slots := 0, locals := 0 })
abbrev m_rs_othersFit : zMI := (⟨"RecurrentSeries", "othersFit", "(I)Z"⟩, prog_1_method_24_code, 3, some FieldType.boolean, { frames := 2, cells := 0, slots := 0, locals := 51 })
abbrev m_rs_enlist : zMI := (⟨"RecurrentSeries", "enlist", "(I)I"⟩, prog_1_method_25_code, 4, some FieldType.int, { frames := 3, cells := 0, slots := 0, locals := 84 })
abbrev m_mo_init : zMI := (⟨"RecurrentSeriesModel", "<init>", "()V"⟩, prog_8_method_1_code, 1, none, { frames := 1, cells := 11, slots := 7020, locals := 20 })
abbrev m_mo_number : zMI := (⟨"RecurrentSeriesModel", "number", "(I)J"⟩, prog_8_method_2_code, 3, some FieldType.long, { frames := 0, cells := 0, slots := 0, locals := 0 })
abbrev m_mo_inverse : zMI := (⟨"RecurrentSeriesModel", "inverse", "(J)J"⟩, prog_8_method_3_code, 8, some FieldType.long, { frames := 0, cells := 0, slots := 0, locals := 0 })
abbrev m_mo_isIn : zMI := (⟨"RecurrentSeriesModel", "isIn", "(I)Z"⟩, prog_8_method_4_code, 2, some FieldType.boolean, { frames := 0, cells := 0, slots := 0, locals := 0 })
abbrev m_mo_expand : zMI := (⟨"RecurrentSeriesModel", "expand", "(III)V"⟩, prog_8_method_5_code, 9, none, { frames := 0, cells := 0, slots := 0, locals := 0 })
abbrev m_mo_ask : zMI := (⟨"RecurrentSeriesModel", "ask", "(IIII)V"⟩, prog_8_method_6_code, 8, none, { frames := 0, cells := 0, slots := 0, locals := 0 })
abbrev m_mo_swapRows : zMI := (⟨"RecurrentSeriesModel", "swapRows", "(III)V"⟩, prog_8_method_7_code, 7, none, { frames := 0, cells := 0, slots := 0, locals := 0 })
abbrev m_mo_clean : zMI := (⟨"RecurrentSeriesModel", "clean", "(IIII)V"⟩, prog_8_method_8_code, 13, none, { frames := 1, cells := 0, slots := 0, locals := 27 })
abbrev m_mo_solve : zMI := (⟨"RecurrentSeriesModel", "solve", "(II)Z"⟩, prog_8_method_9_code, 6, some FieldType.boolean, { frames := 2, cells := 0, slots := 0, locals := 59 })
abbrev m_mo_settle : zMI := (⟨"RecurrentSeriesModel", "settle", "(I)I"⟩, prog_8_method_10_code, 4, some FieldType.int, { frames := 3, cells := 0, slots := 0, locals := 84 })
abbrev m_mo_give : zMI := (⟨"RecurrentSeriesModel", "give", "(I)Z"⟩, prog_8_method_11_code, 2, some FieldType.boolean, { frames := 1, cells := 0, slots := 0, locals := 22 })
abbrev m_mo_clear : zMI := (⟨"RecurrentSeriesModel", "clear", "()I"⟩, prog_8_method_12_code, 2, some FieldType.int, { frames := 0, cells := 0, slots := 0, locals := 0 })
abbrev m_mo_leaf : zMI := (⟨"RecurrentSeriesModel", "leaf", "(I)I"⟩, prog_8_method_13_code, 6, some FieldType.int, { frames := 4, cells := 0, slots := 0, locals := 107 })
abbrev m_mo_refusal : zMI := (⟨"RecurrentSeriesModel", "refusal", "(ZI)I"⟩, prog_8_method_14_code, 3, some FieldType.int, { frames := 0, cells := 0, slots := 0, locals := 0 })
abbrev m_mo_orderOf : zMI := (⟨"RecurrentSeriesModel", "orderOf", "(I)I"⟩, prog_8_method_15_code, 2, some FieldType.int, { frames := 1, cells := 0, slots := 0, locals := 21 })
abbrev m_mo_combine : zMI := (⟨"RecurrentSeriesModel", "combine", "(IIII)I"⟩, prog_8_method_16_code, 12, some FieldType.int, { frames := 4, cells := 0, slots := 0, locals := 107 })
abbrev m_mo_product : zMI := (⟨"RecurrentSeriesModel", "product", "(II)I"⟩, prog_8_method_17_code, 9, some FieldType.int, { frames := 4, cells := 0, slots := 0, locals := 107 })
abbrev m_mo_pairwise : zMI := (⟨"RecurrentSeriesModel", "pairwise", "(II)I"⟩, prog_8_method_18_code, 6, some FieldType.int, { frames := 4, cells := 0, slots := 0, locals := 107 })
abbrev m_mo_derivative : zMI := (⟨"RecurrentSeriesModel", "derivative", "(I)I"⟩, prog_8_method_19_code, 5, some FieldType.int, { frames := 4, cells := 0, slots := 0, locals := 107 })
abbrev m_mo_tail : zMI := (⟨"RecurrentSeriesModel", "tail", "(I)I"⟩, prog_8_method_20_code, 2, some FieldType.int, { frames := 5, cells := 0, slots := 0, locals := 133 })
abbrev m_mo_delay : zMI := (⟨"RecurrentSeriesModel", "delay", "(I)I"⟩, prog_8_method_21_code, 5, some FieldType.int, { frames := 4, cells := 0, slots := 0, locals := 107 })
abbrev m_mo_sums : zMI := (⟨"RecurrentSeriesModel", "sums", "(I)I"⟩, prog_8_method_22_code, 7, some FieldType.int, { frames := 4, cells := 0, slots := 0, locals := 107 })
abbrev m_mo_section : zMI := (⟨"RecurrentSeriesModel", "section", "(III)I"⟩, prog_8_method_23_code, 7, some FieldType.int, { frames := 4, cells := 0, slots := 0, locals := 107 })
abbrev m_mo_spread : zMI := (⟨"RecurrentSeriesModel", "spread", "(II)I"⟩, prog_8_method_24_code, 7, some FieldType.int, { frames := 4, cells := 0, slots := 0, locals := 107 })
abbrev m_mo_forget : zMI := (⟨"RecurrentSeriesModel", "forget", "()Z"⟩, prog_8_method_25_code, 1, some FieldType.boolean, { frames := 0, cells := 0, slots := 0, locals := 0 })
abbrev m_mo_count : zMI := (⟨"RecurrentSeriesModel", "count", "()I"⟩, prog_8_method_26_code, 1, some FieldType.int, { frames := 0, cells := 0, slots := 0, locals := 0 })
abbrev m_mo_order : zMI := (⟨"RecurrentSeriesModel", "order", "(I)I"⟩, prog_8_method_27_code, 2, some FieldType.int, { frames := 1, cells := 0, slots := 0, locals := 21 })
abbrev m_mo_coefficient : zMI := (⟨"RecurrentSeriesModel", "coefficient", "(II)I"⟩, prog_8_method_28_code, 3, some FieldType.int, { frames := 2, cells := 0, slots := 0, locals := 42 })
abbrev m_mo_makeStep : zMI := (⟨"RecurrentSeriesModel", "makeStep", "(II)V"⟩, prog_8_method_29_code, 5, none, { frames := 0, cells := 0, slots := 0, locals := 0 })
abbrev m_mo_applyStep : zMI := (⟨"RecurrentSeriesModel", "applyStep", "(I)V"⟩, prog_8_method_30_code, 6, none, { frames := 0, cells := 0, slots := 0, locals := 0 })
abbrev m_mo_squareStep : zMI := (⟨"RecurrentSeriesModel", "squareStep", "(I)V"⟩, prog_8_method_31_code, 7, none, { frames := 0, cells := 0, slots := 0, locals := 0 })
abbrev m_mo_term : zMI := (⟨"RecurrentSeriesModel", "term", "(IJ)I"⟩, prog_8_method_32_code, 7, some FieldType.int, { frames := 1, cells := 0, slots := 0, locals := 26 })
abbrev m_mo_differ : zMI := (⟨"RecurrentSeriesModel", "differ", "(II)I"⟩, prog_8_method_33_code, 5, some FieldType.int, { frames := 1, cells := 0, slots := 0, locals := 28 })
abbrev m_mo_obeys : zMI := (⟨"RecurrentSeriesModel", "obeys", "(I)Z"⟩, prog_8_method_34_code, 6, some FieldType.boolean, { frames := 1, cells := 0, slots := 0, locals := 28 })
abbrev m_mo_shared : zMI := (⟨"RecurrentSeriesModel", "shared", "(II)I"⟩, prog_8_method_35_code, 6, some FieldType.int, { frames := 3, cells := 0, slots := 0, locals := 84 })
abbrev m_dv_init : zMI := (⟨"RecurrentSeries$Divider", "<init>", "()V"⟩, prog_2_method_1_code, 1, none, { frames := 1, cells := 2, slots := 98, locals := 20 })
abbrev m_dv_commonDegree : zMI := (⟨"RecurrentSeries$Divider", "commonDegree", "(LRecurrentSeries$Series;LRecurrentSeries$Series;)I"⟩, prog_2_method_2_code, 10, some FieldType.int, { frames := 3, cells := 0, slots := 0, locals := 80 })
abbrev m_dv_load : zMI := (⟨"RecurrentSeries$Divider", "load", "([JLRecurrentSeries$Series;)V"⟩, prog_2_method_3_code, 3, none, { frames := 1, cells := 0, slots := 0, locals := 23 })
abbrev m_dv_reduce : zMI := (⟨"RecurrentSeries$Divider", "reduce", "([JI[JI)I"⟩, prog_2_method_4_code, 11, some FieldType.int, { frames := 2, cells := 0, slots := 0, locals := 50 })
abbrev m_fi_init : zMI := (⟨"RecurrentSeries$Finder", "<init>", "()V"⟩, prog_3_method_1_code, 1, none, { frames := 1, cells := 3, slots := 144, locals := 20 })
abbrev m_fi_find : zMI := (⟨"RecurrentSeries$Finder", "find", "([JILRecurrentSeries$Series;)V"⟩, prog_3_method_2_code, 14, none, { frames := 2, cells := 0, slots := 0, locals := 51 })
abbrev m_fi_mend : zMI := (⟨"RecurrentSeries$Finder", "mend", "(JII)V"⟩, prog_3_method_3_code, 6, none, { frames := 1, cells := 0, slots := 0, locals := 23 })
abbrev m_fi_keepUnmended : zMI := (⟨"RecurrentSeries$Finder", "keepUnmended", "()V"⟩, prog_3_method_4_code, 2, none, { frames := 0, cells := 0, slots := 0, locals := 0 })
abbrev m_fi_erase : zMI := (⟨"RecurrentSeries$Finder", "erase", "([J)V"⟩, prog_3_method_5_code, 2, none, { frames := 0, cells := 0, slots := 0, locals := 0 })
abbrev m_nu_of : zMI := (⟨"RecurrentSeries$Numbers", "of", "(I)J"⟩, prog_4_method_2_code, 3, some FieldType.long, { frames := 0, cells := 0, slots := 0, locals := 0 })
abbrev m_nu_plus : zMI := (⟨"RecurrentSeries$Numbers", "plus", "(JJ)J"⟩, prog_4_method_3_code, 4, some FieldType.long, { frames := 0, cells := 0, slots := 0, locals := 0 })
abbrev m_nu_minus : zMI := (⟨"RecurrentSeries$Numbers", "minus", "(JJ)J"⟩, prog_4_method_4_code, 4, some FieldType.long, { frames := 0, cells := 0, slots := 0, locals := 0 })
abbrev m_nu_times : zMI := (⟨"RecurrentSeries$Numbers", "times", "(JJ)J"⟩, prog_4_method_5_code, 4, some FieldType.long, { frames := 0, cells := 0, slots := 0, locals := 0 })
abbrev m_nu_plusTimes : zMI := (⟨"RecurrentSeries$Numbers", "plusTimes", "(JJJ)J"⟩, prog_4_method_6_code, 6, some FieldType.long, { frames := 0, cells := 0, slots := 0, locals := 0 })
abbrev m_nu_inverse : zMI := (⟨"RecurrentSeries$Numbers", "inverse", "(J)J"⟩, prog_4_method_7_code, 8, some FieldType.long, { frames := 1, cells := 0, slots := 0, locals := 23 })
abbrev m_nu_foretold : zMI := (⟨"RecurrentSeries$Numbers", "foretold", "([JI[JI)J"⟩, prog_4_method_8_code, 7, some FieldType.long, { frames := 1, cells := 0, slots := 0, locals := 25 })
abbrev m_sk_init : zMI := (⟨"RecurrentSeries$Seeker", "<init>", "()V"⟩, prog_5_method_1_code, 1, none, { frames := 1, cells := 5, slots := 245, locals := 20 })
abbrev m_sk_seek : zMI := (⟨"RecurrentSeries$Seeker", "seek", "(LRecurrentSeries$Series;J)J"⟩, prog_5_method_2_code, 5, some FieldType.long, { frames := 3, cells := 0, slots := 0, locals := 75 })
abbrev m_sk_load : zMI := (⟨"RecurrentSeries$Seeker", "load", "(LRecurrentSeries$Series;)V"⟩, prog_5_method_3_code, 5, none, { frames := 2, cells := 0, slots := 0, locals := 51 })
abbrev m_sk_halve : zMI := (⟨"RecurrentSeries$Seeker", "halve", "(II)V"⟩, prog_5_method_4_code, 4, none, { frames := 2, cells := 0, slots := 0, locals := 51 })
abbrev m_sk_timesMirrored : zMI := (⟨"RecurrentSeries$Seeker", "timesMirrored", "([JII)J"⟩, prog_5_method_5_code, 7, some FieldType.long, { frames := 1, cells := 0, slots := 0, locals := 25 })
abbrev m_se_init : zMI := (⟨"RecurrentSeries$Series", "<init>", "()V"⟩, prog_6_method_1_code, 1, none, { frames := 1, cells := 2, slots := 136, locals := 20 })
abbrev m_se_writeTerms : zMI := (⟨"RecurrentSeries$Series", "writeTerms", "([JI)V"⟩, prog_6_method_2_code, 4, none, { frames := 2, cells := 0, slots := 0, locals := 51 })
abbrev m_ma_max : zMI := (⟨"java/lang/Math", "max", "(II)I"⟩, prog_9_method_65_code, 2, some FieldType.int, { frames := 0, cells := 0, slots := 0, locals := 0 })
end
section
/-! The walk's own judgement. A method is named by a tuple (its name, code, locals, type, room); the words of every method are the same, TB; the world is a function from places to cells: place i lies at address b + i, an array class is named by a number (0: ints, 1: longs, 2: Series). Z M Po kc ks n σ pc lv st: from pc, with locals lv, stack st and the world σ of n cells, the method comes to its end with Po. Ct M avs n σ Po: its contract. -/

abbrev zWd : Type := Nat → va_E
abbrev mY (M : zMI) : MethodName := M.1
abbrev mB (M : zMI) : ByteArray := M.2.1
abbrev mL (M : zMI) : Nat := M.2.2.1
abbrev mT (M : zMI) : Option FieldType := M.2.2.2.1
abbrev mR (M : zMI) : Room := M.2.2.2.2
def TB : List Cond := lw_tbl.filter goodWord
def zIsNest : Cond → Bool
  | .fieldLinkNest .. => true
  | .methodLinkNest .. => true
  | _ => false
def NB : List Cond := tables_1.filter zIsNest
def mW (M : zMI) : List Cond := .code (mY M) (mB M) (mL M) (mT M) :: TB
theorem mW_tb {M : zMI} {w : Cond} (h : w ∈ TB) : w ∈ mW M := List.mem_cons_of_mem _ h
theorem TB_in {w : Cond} (h : w ∈ lw_tbl) (hg : goodWord w = true) : w ∈ TB := List.mem_filter.mpr ⟨h, hg⟩
theorem NB_in {w : Cond} (h : w ∈ tables_1) (hg : zIsNest w = true) : w ∈ NB := List.mem_filter.mpr ⟨h, hg⟩
theorem mW_good {M M' : zMI} (h : Cond.code (mY M') (mB M') (mL M') (mT M') ∈ TB) : GoodIn (mW M) (mW M') := by
  intro w hw
  have hT : w ∈ TB := by
    rcases List.mem_cons.mp hw with rfl | hw
    · exact h
    · exact hw
  exact ⟨mW_tb hT, good_of_word (List.mem_filter.mp hT).2⟩
theorem NB_warm {s U : State} (hW : s.WarmedH U.vm) (h : ∀ w ∈ NB, va_Nw w s) : ∀ w ∈ NB, va_Nw w U := by
  intro w hw
  have h1 := h w hw
  have h2 := (List.mem_filter.mp hw).2
  cases w <;> first | exact va_Nw.warmF hW h1 | exact va_Nw.warmM hW h1 | cases h2
theorem NB_same {s U : State} (hW : s.vm = U.vm) (h : ∀ w ∈ NB, va_Nw w s) : ∀ w ∈ NB, va_Nw w U := by
  intro w hw
  have h1 := h w hw
  have h2 := (List.mem_filter.mp hw).2
  refine va_Nw.same ?_ hW h1
  cases w <;> first | rfl | cases h2
/-- values and cells of the world as they lie in the heap -/
def zv (b : Nat) : Value → Value
  | .ref i => .ref (b + i)
  | v => v
theorem zv_cat (b : Nat) (v : Value) : (zv b v).category = v.category := by cases v <;> rfl
def ze (b : Nat) (G : Nat → ClassId) : va_E → va_E
  | .inl (t, n, .inr (.inr (.inr (.inr f)))) => .inl (G t, n, .inr (.inr (.inr (.inr (fun j => (f j).map (b + ·))))))
  | .inl (t, a) => .inl (G t, a)
  | .inr (c, fs) => .inr (c, fs.map (zv b))
def zN (N : Nat) (g : Nat → Nat) : va_E := .inl (1, N, .inr (.inl fun j => lN (g j)))
def zI (N : Nat) (f : Nat → Int32) : va_E := .inl (0, N, .inl f)
def zR (N : Nat) (f : Nat → Option Nat) : va_E := .inl (2, N, .inr (.inr (.inr (.inr f))))
def zO (c : Nat) (fs : List Value) : va_E := .inr (c, fs)
theorem ze_N (b : Nat) (G : Nat → ClassId) (N : Nat) (g : Nat → Nat) : ze b G (zN N g) = .inl (G 1, N, .inr (.inl fun j => lN (g j))) := rfl
theorem ze_I (b : Nat) (G : Nat → ClassId) (N : Nat) (f : Nat → Int32) : ze b G (zI N f) = .inl (G 0, N, .inl f) := rfl
theorem ze_R (b : Nat) (G : Nat → ClassId) (N : Nat) (f : Nat → Option Nat) : ze b G (zR N f) = .inl (G 2, N, .inr (.inr (.inr (.inr (fun j => (f j).map (b + ·)))))) := rfl
theorem ze_O (b : Nat) (G : Nat → ClassId) (c : Nat) (fs : List Value) : ze b G (zO c fs) = .inr (c, fs.map (zv b)) := rfl
def zw (b : Nat) (G : Nat → ClassId) (n : Nat) (σ : zWd) : va_W := (List.range n).map (fun i => (b + i, ze b G (σ i)))
theorem zw_at {b : Nat} {G : Nat → ClassId} {n : Nat} {σ : zWd} {i : Nat} (h : i < n) : (zw b G n σ)[i]? = some (b + i, ze b G (σ i)) := by
  simp [zw, h]
theorem zw_of {b : Nat} {G : Nat → ClassId} {n : Nat} {σ : zWd} {i : Nat} {q : Nat × va_E} (h : (zw b G n σ)[i]? = some q) : i < n ∧ q = (b + i, ze b G (σ i)) := by
  have hl : i < n := by
    have := (List.getElem?_eq_some_iff.mp h).1
    simpa [zw] using this
  rw [zw_at hl] at h
  exact ⟨hl, (Option.some.inj h).symm⟩
theorem zw_set {b : Nat} {G : Nat → ClassId} {n : Nat} {σ : zWd} {i : Nat} {e : va_E} : (zw b G n σ).set i (b + i, ze b G e) = zw b G n (va_up σ i e) := by
  apply List.ext_getElem?
  intro j
  by_cases hj : j < n
  · rw [zw_at hj, List.getElem?_set]
    have hl : (zw b G n σ).length = n := by simp [zw]
    by_cases hij : i = j
    · subst hij
      rw [if_pos rfl, if_pos (by rw [hl]; exact hj)]
      simp [va_up]
    · rw [if_neg hij, zw_at hj]
      have : ¬ j = i := fun z => hij z.symm
      simp [va_up, this]
  · rw [List.getElem?_eq_none (by simp [zw]; omega), List.getElem?_eq_none (by simp [zw]; omega)]
theorem zw_push {b : Nat} {G : Nat → ClassId} {n : Nat} {σ : zWd} {e : va_E} : zw b G n σ ++ [(b + n, ze b G e)] = zw b G (n + 1) (va_up σ n e) := by
  apply List.ext_getElem?
  intro j
  have hl : (zw b G n σ).length = n := by simp [zw]
  by_cases hj : j < n
  · rw [List.getElem?_append_left (by rw [hl]; exact hj), zw_at hj, zw_at (by omega)]
    have : ¬ j = n := by omega
    simp [va_up, this]
  · by_cases hjn : j = n
    · subst hjn
      rw [List.getElem?_append_right (by omega), zw_at (by omega), hl, Nat.sub_self]
      simp [va_up]
    · rw [List.getElem?_eq_none (by simp [zw]; omega), List.getElem?_eq_none (by simp [zw]; omega)]
theorem zw_D {b : Nat} {G : Nat → ClassId} {n : Nat} {σ : zWd} : va_D (fun q => b ≤ q) (zw b G n σ) := by
  refine ⟨fun i j p q hi hj h => ?_, fun k q hk => ?_⟩
  · obtain ⟨-, rfl⟩ := zw_of hi
    obtain ⟨-, rfl⟩ := zw_of hj
    have : b + i = b + j := h
    omega
  · obtain ⟨-, rfl⟩ := zw_of hk
    exact Nat.le_add_right b k
theorem zw_P {b : Nat} {G : Nat → ClassId} {D : va_G} {cl : List vw_C} {n : Nat} {σ : zWd} {H : Heap} (h : va_P D cl (zw b G n σ) H) {i : Nat} (hi : i < n) : va_at D cl (b + i, ze b G (σ i)) H := h i _ (zw_at hi)
def zt (G : Nat → ClassId) : List (ClassId × FieldType) := [(G 0, .int), (G 1, .long), (G 2, .object "RecurrentSeries$Series")]
/-- locals -/
def zn2 : Option Value → Bool
  | some v => v.category != 2
  | none => true
def zkb : List (Option Value) → Nat → Bool
  | _, 0 => true
  | lv, i + 1 => match lv[i]? with
    | some o => zn2 o
    | none => true
def zl (b : Nat) (ls : Array Slot) (nL : Nat) (lv : List (Option Value)) : Prop := ls.size = nL ∧ lv_wf ls ∧ lv.length ≤ nL ∧ ∀ (i : Nat) (v : Value), lv[i]? = some (some v) → ls[i]? = some (.val (zv b v))
def zp (b : Nat) (lv : List (Option Value)) : List (Nat × Value) := (List.range lv.length).filterMap (fun i => (lv[i]?.join).map (fun v => (i, zv b v)))
theorem zp_in {b : Nat} {lv : List (Option Value)} {j : Nat} {x : Value} : (j, x) ∈ zp b lv ↔ ∃ v, lv[j]? = some (some v) ∧ x = zv b v := by
  constructor
  · intro h
    obtain ⟨i, hi, he⟩ := List.mem_filterMap.mp h
    cases hv : lv[i]? with
    | none => rw [hv] at he; cases he
    | some o =>
      cases o with
      | none => rw [hv] at he; cases he
      | some v =>
        rw [hv] at he
        cases he
        exact ⟨v, hv, rfl⟩
  · rintro ⟨v, hv, rfl⟩
    refine List.mem_filterMap.mpr ⟨j, List.mem_range.mpr ?_, by rw [hv]; rfl⟩
    exact (List.getElem?_eq_some_iff.mp hv).1
theorem zl_has {b : Nat} {ls : Array Slot} {nL : Nat} {lv : List (Option Value)} (h : zl b ls nL lv) : lv_has ls nL (zp b lv) := by
  refine ⟨h.1, h.2.1, fun q hq => ?_⟩
  obtain ⟨v, hv, hx⟩ := zp_in.mp (show (q.1, q.2) ∈ zp b lv from hq)
  rw [hx]
  exact h.2.2.2 _ _ hv
theorem zkb_use {lv : List (Option Value)} {i j : Nat} {v : Value} (h : zkb lv i = true) (hj : j + 1 = i) (hv : lv[j]? = some (some v)) : v.category ≠ 2 := by
  subst hj
  simp only [zkb, hv, zn2] at h
  simpa using h
theorem zl_set1 {b : Nat} {ls ls' : Array Slot} {nL i : Nat} {lv : List (Option Value)} {x : Value} (h : zl b ls nL lv) (hi : i < lv.length) (hk : zkb lv i = true)
    (h' : lv_has ls' nL ((i, zv b x) :: (zp b lv).filter (fun q => !(q.1 == i) && !(q.1 + 1 == i && q.2.category == 2)))) : zl b ls' nL (lv.set i (some x)) := by
  refine ⟨h'.1, h'.2.1, by rw [List.length_set]; exact h.2.2.1, fun j v hj => ?_⟩
  by_cases hji : i = j
  · subst hji
    rw [List.getElem?_set_self hi] at hj
    cases hj
    exact h'.2.2 (i, zv b x) List.mem_cons_self
  · rw [List.getElem?_set_ne hji] at hj
    refine h'.2.2 (j, zv b v) (List.mem_cons_of_mem _ (List.mem_filter.mpr ⟨zp_in.mpr ⟨v, hj, rfl⟩, ?_⟩))
    have h1 : ¬ j = i := fun z => hji z.symm
    simp only [Bool.and_eq_true, Bool.not_eq_true', beq_eq_false_iff_ne, ne_eq, Bool.and_eq_false_iff, zv_cat]
    refine ⟨h1, ?_⟩
    by_cases h2 : j + 1 = i
    · exact Or.inr (zkb_use hk h2 hj)
    · exact Or.inl h2
theorem zl_set2 {b : Nat} {ls ls' : Array Slot} {nL i : Nat} {lv : List (Option Value)} {x : Value} (h : zl b ls nL lv) (hi : i + 1 < lv.length) (hk : zkb lv i = true)
    (h' : lv_has ls' nL ((i, zv b x) :: (zp b lv).filter (fun q => !(q.1 == i) && (!(q.1 == i + 1) && !(q.1 + 1 == i && q.2.category == 2))))) : zl b ls' nL ((lv.set i (some x)).set (i + 1) none) := by
  refine ⟨h'.1, h'.2.1, by rw [List.length_set, List.length_set]; exact h.2.2.1, fun j v hj => ?_⟩
  by_cases hj1 : i + 1 = j
  · subst hj1
    rw [List.getElem?_set_self (by rw [List.length_set]; exact hi)] at hj
    cases hj
  · rw [List.getElem?_set_ne hj1] at hj
    by_cases hji : i = j
    · subst hji
      rw [List.getElem?_set_self (by omega)] at hj
      cases hj
      exact h'.2.2 (i, zv b x) List.mem_cons_self
    · rw [List.getElem?_set_ne hji] at hj
      refine h'.2.2 (j, zv b v) (List.mem_cons_of_mem _ (List.mem_filter.mpr ⟨zp_in.mpr ⟨v, hj, rfl⟩, ?_⟩))
      have h1 : ¬ j = i := fun z => hji z.symm
      have h3 : ¬ j = i + 1 := fun z => hj1 z.symm
      simp only [Bool.and_eq_true, Bool.not_eq_true', beq_eq_false_iff_ne, ne_eq, Bool.and_eq_false_iff, zv_cat]
      refine ⟨h1, h3, ?_⟩
      by_cases h2 : j + 1 = i
      · exact Or.inr (zkb_use hk h2 hj)
      · exact Or.inl h2
def zE : List Value → List (Option Value)
  | [] => []
  | v :: vs => if v.category = 2 then some v :: none :: zE vs else some v :: zE vs
theorem zE_in {b : Nat} : ∀ (avs : List Value) (o i : Nat) (v : Value), (zE avs)[i]? = some (some v) → (o + i, zv b v) ∈ lv_args o (avs.map (zv b))
  | [], o, i, v, h => by simp [zE] at h
  | a :: avs, o, i, v, h => by
    simp only [List.map_cons, lv_args, zv_cat]
    by_cases hc : a.category = 2
    · rw [zE, if_pos hc] at h
      rw [if_pos hc]
      match i, h with
      | 0, h =>
        cases h
        exact List.mem_cons_self
      | 1, h => cases h
      | i + 2, h =>
        have h1 : (zE avs)[i]? = some (some v) := h
        have h2 := zE_in (b := b) avs (o + 2) i v h1
        rw [show o + (i + 2) = o + 2 + i by omega]
        exact List.mem_cons_of_mem _ h2
    · rw [zE, if_neg hc] at h
      rw [if_neg hc]
      match i, h with
      | 0, h =>
        cases h
        exact List.mem_cons_self
      | i + 1, h =>
        have h1 : (zE avs)[i]? = some (some v) := h
        have h2 := zE_in (b := b) avs (o + 1) i v h1
        rw [show o + (i + 1) = o + 1 + i by omega]
        exact List.mem_cons_of_mem _ h2
theorem zE_len {b : Nat} : ∀ (avs : List Value), (lg_sl (avs.map (zv b))).length = (zE avs).length
  | [] => rfl
  | a :: avs => by
    have ih := zE_len (b := b) avs
    simp only [lg_sl, List.map_cons, List.flatMap_cons, List.length_append] at ih ⊢
    rw [ih, zv_cat]
    by_cases hc : a.category = 2
    · rw [zE, if_pos hc, if_pos hc]
      simp only [List.length_cons, List.length_nil]
      omega
    · rw [zE, if_neg hc, if_neg hc]
      simp only [List.length_cons, List.length_nil]
      omega
/-- the judgement -/
def zCx (M : zMI) (b : Nat) (G : Nat → ClassId) (D : va_G) (p : Program) (s : State) (m : MethodId) (args : Array Value) (meth : Method) (c : Code) : Prop :=
  p.tables.exec = Jvm.exec ∧ c.code = mB M ∧ c.maxLocals = mL M ∧ s.vm.findClass (mY M).cls = some m.cls ∧ (∀ w ∈ mW M, w.before args s = true) ∧ (∀ w ∈ NB, va_Nw w s) ∧ meth.sig.returnType = mT M ∧ meth.locks = false ∧ va_K D zCl (zt G) s ∧ b ≤ s.heap.size ∧ ((mY M).name = "<init>" → meth.name = "<init>")
theorem zCx.tb {M : zMI} {b : Nat} {G : Nat → ClassId} {D : va_G} {p : Program} {s : State} {m : MethodId} {args : Array Value} {meth : Method} {c : Code} (h : zCx M b G D p s m args meth c) {w : Cond} (hw : w ∈ TB) : w.before args s = true := h.2.2.2.2.1 w (mW_tb hw)
theorem zCx.nb {M : zMI} {b : Nat} {G : Nat → ClassId} {D : va_G} {p : Program} {s : State} {m : MethodId} {args : Array Value} {meth : Method} {c : Code} (h : zCx M b G D p s m args meth c) {w : Cond} (hw : w ∈ NB) : va_Nw w s := h.2.2.2.2.2.1 w hw
theorem zCx.k {M : zMI} {b : Nat} {G : Nat → ClassId} {D : va_G} {p : Program} {s : State} {m : MethodId} {args : Array Value} {meth : Method} {c : Code} (h : zCx M b G D p s m args meth c) : va_K D zCl (zt G) s := h.2.2.2.2.2.2.2.2.1
def zQc (b : Nat) (G : Nat → ClassId) (D : va_G) (Po : Option Value → Nat → zWd → Prop) : Array Value → State → Outcome → State → Prop := fun _ st oc t =>
  (∃ (r : Option Value) (n' : Nat) (σ' : zWd), oc = .returned (r.map (zv b)) ∧ Po r n' σ' ∧ t.heap.size = b + n' ∧ va_P D zCl (zw b G n' σ') t.heap) ∧ va_F (fun q => b ≤ q) st t
def zPc (b : Nat) (G : Nat → ClassId) (D : va_G) (n : Nat) (σ : zWd) (avs : List Value) : Array Value → State → Prop :=
  va_Pc (avs.map (zv b)) (fun U => U.heap.size = b + n ∧ va_P D zCl (zw b G n σ) U.heap ∧ va_K D zCl (zt G) U ∧ ∀ w ∈ NB, va_Nw w U)
def Z (M : zMI) (Po : Option Value → Nat → zWd → Prop) (kc ks n : Nat) (σ : zWd) (pc : Nat) (lv : List (Option Value)) (st : List Value) : Prop :=
  ∀ (p : Program) (l : Launch) (e : Env) (s : State) (m : MethodId) (args : Array Value) (below : List Frame) (meth : Method) (c : Code) (b : Nat) (G : Nat → ClassId) (D : va_G), zCx M b G D p s m args meth c →
  ∀ (H : Heap) (locs : List Loc) (ls : Array Slot), H.size = b + n → va_P D zCl (zw b G n σ) H → va_S (fun q => b ≤ q) s.heap H locs → zl b ls (mL M) lv →
    W p l e (mR M) s m args below meth c H locs kc ks (MQ below (zQc b G D Po) args s (mR M).cells (mR M).slots (fun q => b ≤ q)) (F0 m pc ls (st.map (zv b)))
def Ct (M : zMI) (avs : List Value) (n : Nat) (σ : zWd) (Po : Option Value → Nat → zWd → Prop) : Prop :=
  ∀ (l : Launch) (b : Nat) (G : Nat → ClassId) (D : va_G), Met l (mY M) (mW M) (mR M) (zPc b G D n σ avs) (zQc b G D Po) (mR M).cells (mR M).slots (fun q => b ≤ q)
theorem Ct.of {M : zMI} {avs : List Value} {n : Nat} {σ : zWd} {Po : Option Value → Nat → zWd → Prop} {lv : List (Option Value)} (k : Nat) (hy : plainName (mY M).cls = true) (he : zE avs ++ List.replicate k none = lv) (hl : lv.length ≤ mL M) (body : Z M Po 0 0 n σ 0 lv []) : Ct M avs n σ Po := by
  intro l b G D
  refine Met.ofW (cc := mB M) (maxL := mL M) (ret := mT M) hy rfl ?_
  intro p e s m args below meth c s₁ B hml hv
  obtain ⟨rfl, hsz, hP, hK, hN⟩ := hv
  have hcx : zCx M b G D p s m (avs.map (zv b)).toArray meth c := ⟨B.exec, B.bytes, hml, findClass_of_methodNamed B.named, atoms_spec (ws := mW M) B.pre, hN, B.returns, B.notSynchronized, hK, by omega, fun h => ((name_of_methodNamed B.named B.method).1).trans h⟩
  have hlen : (lg_sl (avs.map (zv b))).length ≤ mL M := by
    rw [zE_len]
    rw [← he, List.length_append] at hl
    omega
  have hh := lv_entry (avs.map (zv b)) hlen
  rw [lg_entry_eq]
  refine body p l e s m _ below meth c b G D hcx s.heap [] _ hsz hP va_S.rf ⟨hh.1, hh.2.1, hl, fun i v hi => ?_⟩
  rw [← he] at hi
  have hi2 : (zE avs)[i]? = some (some v) := by
    by_cases hz : i < (zE avs).length
    · rwa [List.getElem?_append_left hz] at hi
    · rw [List.getElem?_append_right (by omega)] at hi
      have := List.eq_of_mem_replicate (List.mem_of_getElem? hi)
      cases this
  have h3 := hh.2.2 _ (zE_in (b := b) avs 0 i v hi2)
  simpa using h3
theorem Ct.weaken {M : zMI} {avs : List Value} {n : Nat} {σ : zWd} {Po Po' : Option Value → Nat → zWd → Prop} (h : Ct M avs n σ Po) (hp : ∀ r n' σ', Po r n' σ' → Po' r n' σ') : Ct M avs n σ Po' := by
  intro l b G D p e h1 h2 h3 s m args below h4 h5 h6 h7
  obtain ⟨k, o, g1, g2, g3, ⟨⟨⟨r, n', σ', e1, e2, e3⟩, hF⟩, hL⟩⟩ := h l b G D p e h1 h2 h3 s m args below h4 h5 h6 h7
  exact ⟨k, o, g1, g2, g3, ⟨⟨⟨r, n', σ', e1, hp _ _ _ e2, e3⟩, hF⟩, hL⟩⟩

section ZR
variable {M : zMI} {Po : Option Value → Nat → zWd → Prop} {kc ks n pc q : Nat} {σ : zWd} {lv : List (Option Value)} {st : List Value}
theorem Z.eq {st' : List Value} (h : st = st') (k : Z M Po kc ks n σ pc lv st') : Z M Po kc ks n σ pc lv st := h ▸ k
theorem Z.eqw {σ' : zWd} (h : σ = σ') (k : Z M Po kc ks n σ' pc lv st) : Z M Po kc ks n σ pc lv st := h ▸ k
theorem Z.widen {kc' ks' : Nat} (h1 : kc ≤ kc') (h2 : ks ≤ ks') (k : Z M Po kc' ks' n σ pc lv st) : Z M Po kc ks n σ pc lv st := by
  intro p l e s m args below meth c b G D hC H locs ls hz hP hS hl
  exact W.widen h1 h2 (k p l e s m args below meth c b G D hC H locs ls hz hP hS hl)
theorem z_iadd {x y : Int32} (hd : decode (mB M) pc = .ok (.iadd, 1)) (hq : pc + 1 = q)  (k : Z M Po kc ks n σ q lv (.int (x + y) :: st)) : Z M Po kc ks n σ pc lv (.int y :: .int x :: st) := by
  subst hq; intro p l e s m args below meth c b G D hC H locs ls hz hP hS hl
  exact lv_iadd hC.1 hC.2.1 hd (k p l e s m args below meth c b G D hC H locs ls hz hP hS hl)
theorem z_isub {x y : Int32} (hd : decode (mB M) pc = .ok (.isub, 1)) (hq : pc + 1 = q)  (k : Z M Po kc ks n σ q lv (.int (x - y) :: st)) : Z M Po kc ks n σ pc lv (.int y :: .int x :: st) := by
  subst hq; intro p l e s m args below meth c b G D hC H locs ls hz hP hS hl
  exact lv_isub hC.1 hC.2.1 hd (k p l e s m args below meth c b G D hC H locs ls hz hP hS hl)
theorem z_imul {x y : Int32} (hd : decode (mB M) pc = .ok (.imul, 1)) (hq : pc + 1 = q)  (k : Z M Po kc ks n σ q lv (.int (x * y) :: st)) : Z M Po kc ks n σ pc lv (.int y :: .int x :: st) := by
  subst hq; intro p l e s m args below meth c b G D hC H locs ls hz hP hS hl
  exact lv_imul hC.1 hC.2.1 hd (k p l e s m args below meth c b G D hC H locs ls hz hP hS hl)
theorem z_iand {x y : Int32} (hd : decode (mB M) pc = .ok (.iand, 1)) (hq : pc + 1 = q)  (k : Z M Po kc ks n σ q lv (.int (x &&& y) :: st)) : Z M Po kc ks n σ pc lv (.int y :: .int x :: st) := by
  subst hq; intro p l e s m args below meth c b G D hC H locs ls hz hP hS hl
  exact lv_iand hC.1 hC.2.1 hd (k p l e s m args below meth c b G D hC H locs ls hz hP hS hl)
theorem z_ior {x y : Int32} (hd : decode (mB M) pc = .ok (.ior, 1)) (hq : pc + 1 = q)  (k : Z M Po kc ks n σ q lv (.int (x ||| y) :: st)) : Z M Po kc ks n σ pc lv (.int y :: .int x :: st) := by
  subst hq; intro p l e s m args below meth c b G D hC H locs ls hz hP hS hl
  exact lv_ior hC.1 hC.2.1 hd (k p l e s m args below meth c b G D hC H locs ls hz hP hS hl)
theorem z_ladd {x y : Int64} (hd : decode (mB M) pc = .ok (.ladd, 1)) (hq : pc + 1 = q)  (k : Z M Po kc ks n σ q lv (.long (x + y) :: st)) : Z M Po kc ks n σ pc lv (.long y :: .long x :: st) := by
  subst hq; intro p l e s m args below meth c b G D hC H locs ls hz hP hS hl
  exact lv_ladd hC.1 hC.2.1 hd (k p l e s m args below meth c b G D hC H locs ls hz hP hS hl)
theorem z_lsub {x y : Int64} (hd : decode (mB M) pc = .ok (.lsub, 1)) (hq : pc + 1 = q)  (k : Z M Po kc ks n σ q lv (.long (x - y) :: st)) : Z M Po kc ks n σ pc lv (.long y :: .long x :: st) := by
  subst hq; intro p l e s m args below meth c b G D hC H locs ls hz hP hS hl
  exact lv_lsub hC.1 hC.2.1 hd (k p l e s m args below meth c b G D hC H locs ls hz hP hS hl)
theorem z_lmul {x y : Int64} (hd : decode (mB M) pc = .ok (.lmul, 1)) (hq : pc + 1 = q)  (k : Z M Po kc ks n σ q lv (.long (x * y) :: st)) : Z M Po kc ks n σ pc lv (.long y :: .long x :: st) := by
  subst hq; intro p l e s m args below meth c b G D hC H locs ls hz hP hS hl
  exact lv_lmul hC.1 hC.2.1 hd (k p l e s m args below meth c b G D hC H locs ls hz hP hS hl)
theorem z_land {x y : Int64} (hd : decode (mB M) pc = .ok (.land, 1)) (hq : pc + 1 = q)  (k : Z M Po kc ks n σ q lv (.long (x &&& y) :: st)) : Z M Po kc ks n σ pc lv (.long y :: .long x :: st) := by
  subst hq; intro p l e s m args below meth c b G D hC H locs ls hz hP hS hl
  exact lv_land hC.1 hC.2.1 hd (k p l e s m args below meth c b G D hC H locs ls hz hP hS hl)
theorem z_lor {x y : Int64} (hd : decode (mB M) pc = .ok (.lor, 1)) (hq : pc + 1 = q)  (k : Z M Po kc ks n σ q lv (.long (x ||| y) :: st)) : Z M Po kc ks n σ pc lv (.long y :: .long x :: st) := by
  subst hq; intro p l e s m args below meth c b G D hC H locs ls hz hP hS hl
  exact lv_lor hC.1 hC.2.1 hd (k p l e s m args below meth c b G D hC H locs ls hz hP hS hl)
theorem z_irem {x y : Int32} (hd : decode (mB M) pc = .ok (.irem, 1)) (hq : pc + 1 = q) (hne : ¬ y = 0) (k : Z M Po kc ks n σ q lv (.int (x - x / y * y) :: st)) : Z M Po kc ks n σ pc lv (.int y :: .int x :: st) := by
  subst hq; intro p l e s m args below meth c b G D hC H locs ls hz hP hS hl
  exact lv_irem hC.1 hC.2.1 hd hne (k p l e s m args below meth c b G D hC H locs ls hz hP hS hl)
theorem z_idiv {x y : Int32} (hd : decode (mB M) pc = .ok (.idiv, 1)) (hq : pc + 1 = q) (hne : ¬ y = 0) (k : Z M Po kc ks n σ q lv (.int (x / y) :: st)) : Z M Po kc ks n σ pc lv (.int y :: .int x :: st) := by
  subst hq; intro p l e s m args below meth c b G D hC H locs ls hz hP hS hl
  exact lv_idiv hC.1 hC.2.1 hd hne (k p l e s m args below meth c b G D hC H locs ls hz hP hS hl)
theorem z_lrem {x y : Int64} (hd : decode (mB M) pc = .ok (.lrem, 1)) (hq : pc + 1 = q) (hne : ¬ y = 0) (k : Z M Po kc ks n σ q lv (.long (x - x / y * y) :: st)) : Z M Po kc ks n σ pc lv (.long y :: .long x :: st) := by
  subst hq; intro p l e s m args below meth c b G D hC H locs ls hz hP hS hl
  exact lv_lrem hC.1 hC.2.1 hd hne (k p l e s m args below meth c b G D hC H locs ls hz hP hS hl)
theorem z_i2l {x : Int32} (hd : decode (mB M) pc = .ok (.i2l, 1)) (hq : pc + 1 = q)  (k : Z M Po kc ks n σ q lv (.long (x.toInt64) :: st)) : Z M Po kc ks n σ pc lv (.int x :: st) := by
  subst hq; intro p l e s m args below meth c b G D hC H locs ls hz hP hS hl
  exact lv_i2l hC.1 hC.2.1 hd rfl (k p l e s m args below meth c b G D hC H locs ls hz hP hS hl)
theorem z_l2i {x : Int64} (hd : decode (mB M) pc = .ok (.l2i, 1)) (hq : pc + 1 = q)  (k : Z M Po kc ks n σ q lv (.int (x.toInt32) :: st)) : Z M Po kc ks n σ pc lv (.long x :: st) := by
  subst hq; intro p l e s m args below meth c b G D hC H locs ls hz hP hS hl
  exact lv_l2i hC.1 hC.2.1 hd rfl (k p l e s m args below meth c b G D hC H locs ls hz hP hS hl)
theorem z_lshr {x : Int64} {y : Int32} (hd : decode (mB M) pc = .ok (.lshr, 1)) (hq : pc + 1 = q)  (k : Z M Po kc ks n σ q lv (.long (x >>> (y.toInt64 &&& 63)) :: st)) : Z M Po kc ks n σ pc lv (.int y :: .long x :: st) := by
  subst hq; intro p l e s m args below meth c b G D hC H locs ls hz hP hS hl
  exact lv_lshr hC.1 hC.2.1 hd rfl (k p l e s m args below meth c b G D hC H locs ls hz hP hS hl)
theorem z_lshl {x : Int64} {y : Int32} (hd : decode (mB M) pc = .ok (.lshl, 1)) (hq : pc + 1 = q)  (k : Z M Po kc ks n σ q lv (.long (x <<< (y.toInt64 &&& 63)) :: st)) : Z M Po kc ks n σ pc lv (.int y :: .long x :: st) := by
  subst hq; intro p l e s m args below meth c b G D hC H locs ls hz hP hS hl
  exact lv_lshl hC.1 hC.2.1 hd rfl (k p l e s m args below meth c b G D hC H locs ls hz hP hS hl)
theorem z_lcmp {x y : Int64} (hd : decode (mB M) pc = .ok (.lcmp, 1)) (hq : pc + 1 = q)  (k : Z M Po kc ks n σ q lv (.int (lg_cmp x y) :: st)) : Z M Po kc ks n σ pc lv (.long y :: .long x :: st) := by
  subst hq; intro p l e s m args below meth c b G D hC H locs ls hz hP hS hl
  exact W.lcmp hC.1 hC.2.1 hd (k p l e s m args below meth c b G D hC H locs ls hz hP hS hl)
theorem z_iconst {i : Int} {v : Int32} (hd : decode (mB M) pc = .ok (.iconst i, 1)) (hq : pc + 1 = q) (hv : Int32.ofInt i = v) (k : Z M Po kc ks n σ q lv (.int v :: st)) : Z M Po kc ks n σ pc lv (st) := by
  subst hq; intro p l e s m args below meth c b G D hC H locs ls hz hP hS hl
  exact lv_iconst hC.1 hC.2.1 hd hv (k p l e s m args below meth c b G D hC H locs ls hz hP hS hl)
theorem z_bipush {i : Int} {v : Int32} (hd : decode (mB M) pc = .ok (.bipush i, 2)) (hq : pc + 2 = q) (hv : (Int8.ofInt i).toInt32 = v) (k : Z M Po kc ks n σ q lv (.int v :: st)) : Z M Po kc ks n σ pc lv (st) := by
  subst hq; intro p l e s m args below meth c b G D hC H locs ls hz hP hS hl
  exact lv_bipush hC.1 hC.2.1 hd hv (k p l e s m args below meth c b G D hC H locs ls hz hP hS hl)
theorem z_sipush {i : Int} {v : Int32} (hd : decode (mB M) pc = .ok (.sipush i, 3)) (hq : pc + 3 = q) (hv : (Int16.ofInt i).toInt32 = v) (k : Z M Po kc ks n σ q lv (.int v :: st)) : Z M Po kc ks n σ pc lv (st) := by
  subst hq; intro p l e s m args below meth c b G D hC H locs ls hz hP hS hl
  exact lv_sipush hC.1 hC.2.1 hd hv (k p l e s m args below meth c b G D hC H locs ls hz hP hS hl)
theorem z_lconst {i : Fin 2} {v : Int64} (hd : decode (mB M) pc = .ok (.lconst i, 1)) (hq : pc + 1 = q) (hv : Int64.ofNat (i : Nat) = v) (k : Z M Po kc ks n σ q lv (.long v :: st)) : Z M Po kc ks n σ pc lv (st) := by
  subst hq; intro p l e s m args below meth c b G D hC H locs ls hz hP hS hl
  exact lv_lconst hC.1 hC.2.1 hd hv (k p l e s m args below meth c b G D hC H locs ls hz hP hS hl)
theorem z_ldc2 {idx : Nat} {v : Int64} (hd : decode (mB M) pc = .ok (.ldc2_w idx, 3)) (hq : pc + 3 = q) (hv : Cond.constantLong (mY M).cls idx v ∈ TB) (k : Z M Po kc ks n σ q lv (.long v :: st)) : Z M Po kc ks n σ pc lv (st) := by
  subst hq; intro p l e s m args below meth c b G D hC H locs ls hz hP hS hl
  exact lv_ldc2 hC.1 hC.2.1 hC.2.2.2.1 (hC.tb hv) hd (k p l e s m args below meth c b G D hC H locs ls hz hP hS hl)
theorem z_ldc {idx : Nat} {v : Int32} (hd : decode (mB M) pc = .ok (.ldc idx, 2)) (hq : pc + 2 = q) (hv : Cond.constant (mY M).cls idx v ∈ TB) (k : Z M Po kc ks n σ q lv (.int v :: st)) : Z M Po kc ks n σ pc lv (st) := by
  subst hq; intro p l e s m args below meth c b G D hC H locs ls hz hP hS hl
  exact lv_ldc hC.1 hC.2.1 hC.2.2.2.1 (hC.tb hv) hd (k p l e s m args below meth c b G D hC H locs ls hz hP hS hl)
theorem z_dup_i {x : Int32} (hd : decode (mB M) pc = .ok (.dup, 1)) (hq : pc + 1 = q)  (k : Z M Po kc ks n σ q lv (.int x :: .int x :: st)) : Z M Po kc ks n σ pc lv (.int x :: st) := by
  subst hq; intro p l e s m args below meth c b G D hC H locs ls hz hP hS hl
  exact lv_dup hC.1 hC.2.1 hd rfl (k p l e s m args below meth c b G D hC H locs ls hz hP hS hl)
theorem z_dup_r {x : Nat} (hd : decode (mB M) pc = .ok (.dup, 1)) (hq : pc + 1 = q)  (k : Z M Po kc ks n σ q lv (.ref x :: .ref x :: st)) : Z M Po kc ks n σ pc lv (.ref x :: st) := by
  subst hq; intro p l e s m args below meth c b G D hC H locs ls hz hP hS hl
  exact lv_dup hC.1 hC.2.1 hd rfl (k p l e s m args below meth c b G D hC H locs ls hz hP hS hl)
theorem z_pop_i {x : Int32} (hd : decode (mB M) pc = .ok (.pop, 1)) (hq : pc + 1 = q)  (k : Z M Po kc ks n σ q lv (st)) : Z M Po kc ks n σ pc lv (.int x :: st) := by
  subst hq; intro p l e s m args below meth c b G D hC H locs ls hz hP hS hl
  exact lv_pop hC.1 hC.2.1 hd rfl (k p l e s m args below meth c b G D hC H locs ls hz hP hS hl)
theorem z_dup2_ir {x : Int32} {y : Nat} (hd : decode (mB M) pc = .ok (.dup2, 1)) (hq : pc + 1 = q)  (k : Z M Po kc ks n σ q lv (.int x :: .ref y :: .int x :: .ref y :: st)) : Z M Po kc ks n σ pc lv (.int x :: .ref y :: st) := by
  subst hq; intro p l e s m args below meth c b G D hC H locs ls hz hP hS hl
  exact lv_dup2_11 hC.1 hC.2.1 hd rfl rfl (k p l e s m args below meth c b G D hC H locs ls hz hP hS hl)
theorem zn_iadd {x y : Nat} (hd : decode (mB M) pc = .ok (.iadd, 1)) (hq : pc + 1 = q)  (k : Z M Po kc ks n σ q lv (.int (nI (x + y)) :: st)) : Z M Po kc ks n σ pc lv (.int (nI y) :: .int (nI x) :: st) := z_iadd hd hq (by rw [nI_add]; exact k)
theorem zn_isub {x y : Nat} (hd : decode (mB M) pc = .ok (.isub, 1)) (hq : pc + 1 = q) (h : y ≤ x) (k : Z M Po kc ks n σ q lv (.int (nI (x - y)) :: st)) : Z M Po kc ks n σ pc lv (.int (nI y) :: .int (nI x) :: st) := z_isub hd hq (by rw [pk_sub h]; exact k)
theorem zn_imul {x y : Nat} (hd : decode (mB M) pc = .ok (.imul, 1)) (hq : pc + 1 = q)  (k : Z M Po kc ks n σ q lv (.int (nI (x * y)) :: st)) : Z M Po kc ks n σ pc lv (.int (nI y) :: .int (nI x) :: st) := z_imul hd hq (by rw [pk_mul]; exact k)
theorem zn_irem {x y : Nat} (hd : decode (mB M) pc = .ok (.irem, 1)) (hq : pc + 1 = q) (hx : x < 2 ^ 31) (h0 : 0 < y) (hy : y < 2 ^ 31) (k : Z M Po kc ks n σ q lv (.int (nI (x % y)) :: st)) : Z M Po kc ks n σ pc lv (.int (nI y) :: .int (nI x) :: st) := z_irem hd hq (nI_ne0 h0 hy) (by rw [pk_rem hx h0 hy]; exact k)
theorem zn_idiv {x y : Nat} (hd : decode (mB M) pc = .ok (.idiv, 1)) (hq : pc + 1 = q) (hx : x < 2 ^ 31) (h0 : 0 < y) (hy : y < 2 ^ 31) (k : Z M Po kc ks n σ q lv (.int (nI (x / y)) :: st)) : Z M Po kc ks n σ pc lv (.int (nI y) :: .int (nI x) :: st) := z_idiv hd hq (nI_ne0 h0 hy) (by rw [pk_div hx h0 hy]; exact k)
theorem zn_ladd {x y : Nat} (hd : decode (mB M) pc = .ok (.ladd, 1)) (hq : pc + 1 = q)  (k : Z M Po kc ks n σ q lv (.long (lN (x + y)) :: st)) : Z M Po kc ks n σ pc lv (.long (lN y) :: .long (lN x) :: st) := z_ladd hd hq (by rw [lN_add]; exact k)
theorem zn_lsub {x y : Nat} (hd : decode (mB M) pc = .ok (.lsub, 1)) (hq : pc + 1 = q) (h : y ≤ x) (k : Z M Po kc ks n σ q lv (.long (lN (x - y)) :: st)) : Z M Po kc ks n σ pc lv (.long (lN y) :: .long (lN x) :: st) := z_lsub hd hq (by rw [lN_sub h]; exact k)
theorem zn_lmul {x y : Nat} (hd : decode (mB M) pc = .ok (.lmul, 1)) (hq : pc + 1 = q)  (k : Z M Po kc ks n σ q lv (.long (lN (x * y)) :: st)) : Z M Po kc ks n σ pc lv (.long (lN y) :: .long (lN x) :: st) := z_lmul hd hq (by rw [lN_mul]; exact k)
theorem z_lne0 {y : Nat} (h0 : 0 < y) (hy : y < 2 ^ 63) : ¬ lN y = 0 := fun h => by have := (pk_lEQ hy (show 0 < 2 ^ 63 by decide)).mp (h.trans (show (0 : Int64) = lN 0 from rfl)); omega
theorem zn_lrem {x y : Nat} (hd : decode (mB M) pc = .ok (.lrem, 1)) (hq : pc + 1 = q) (hx : x < 2 ^ 63) (h0 : 0 < y) (hy : y < 2 ^ 63) (k : Z M Po kc ks n σ q lv (.long (lN (x % y)) :: st)) : Z M Po kc ks n σ pc lv (.long (lN y) :: .long (lN x) :: st) := z_lrem hd hq (z_lne0 h0 hy) (by rw [pk_lRem hx h0 hy]; exact k)
theorem zn_i2l {x : Nat} (hd : decode (mB M) pc = .ok (.i2l, 1)) (hq : pc + 1 = q) (hx : x < 2 ^ 31) (k : Z M Po kc ks n σ q lv (.long (lN x) :: st)) : Z M Po kc ks n σ pc lv (.int (nI x) :: st) := z_i2l hd hq (by rw [nI_l hx]; exact k)
theorem zn_l2i {x : Nat} (hd : decode (mB M) pc = .ok (.l2i, 1)) (hq : pc + 1 = q)  (k : Z M Po kc ks n σ q lv (.int (nI x) :: st)) : Z M Po kc ks n σ pc lv (.long (lN x) :: st) := z_l2i hd hq (by rw [lN_i]; exact k)
theorem z_if_eq {x : Int32} {off : Int} {tgt : Nat} (hd : decode (mB M) pc = .ok (.ifCond .eq off, 3)) (hq : pc + 3 = q) (ht : (pc : Int) + off = (tgt : Int)) (kt : x = 0 → Z M Po kc ks n σ tgt lv st) (kf : ¬ (x = 0) → Z M Po kc ks n σ q lv st) : Z M Po kc ks n σ pc lv (.int x :: st) := by
  subst hq; intro p l e s m args below meth c b G D hC H locs ls hz hP hS hl
  exact lv_if_eq hC.1 hC.2.1 hd ht (fun hh => kt hh p l e s m args below meth c b G D hC H locs ls hz hP hS hl) (fun hh => kf hh p l e s m args below meth c b G D hC H locs ls hz hP hS hl)
theorem z_icmp_eq {x y : Int32} {off : Int} {tgt : Nat} (hd : decode (mB M) pc = .ok (.if_icmp .eq off, 3)) (hq : pc + 3 = q) (ht : (pc : Int) + off = (tgt : Int)) (kt : x = y → Z M Po kc ks n σ tgt lv st) (kf : ¬ (x = y) → Z M Po kc ks n σ q lv st) : Z M Po kc ks n σ pc lv (.int y :: .int x :: st) := by
  subst hq; intro p l e s m args below meth c b G D hC H locs ls hz hP hS hl
  exact lv_icmp_eq hC.1 hC.2.1 hd ht (fun hh => kt hh p l e s m args below meth c b G D hC H locs ls hz hP hS hl) (fun hh => kf hh p l e s m args below meth c b G D hC H locs ls hz hP hS hl)
theorem z_if_ne {x : Int32} {off : Int} {tgt : Nat} (hd : decode (mB M) pc = .ok (.ifCond .ne off, 3)) (hq : pc + 3 = q) (ht : (pc : Int) + off = (tgt : Int)) (kt : ¬ x = 0 → Z M Po kc ks n σ tgt lv st) (kf : x = 0 → Z M Po kc ks n σ q lv st) : Z M Po kc ks n σ pc lv (.int x :: st) := by
  subst hq; intro p l e s m args below meth c b G D hC H locs ls hz hP hS hl
  exact lv_if_ne hC.1 hC.2.1 hd ht (fun hh => kt hh p l e s m args below meth c b G D hC H locs ls hz hP hS hl) (fun hh => kf hh p l e s m args below meth c b G D hC H locs ls hz hP hS hl)
theorem z_icmp_ne {x y : Int32} {off : Int} {tgt : Nat} (hd : decode (mB M) pc = .ok (.if_icmp .ne off, 3)) (hq : pc + 3 = q) (ht : (pc : Int) + off = (tgt : Int)) (kt : ¬ x = y → Z M Po kc ks n σ tgt lv st) (kf : x = y → Z M Po kc ks n σ q lv st) : Z M Po kc ks n σ pc lv (.int y :: .int x :: st) := by
  subst hq; intro p l e s m args below meth c b G D hC H locs ls hz hP hS hl
  exact lv_icmp_ne hC.1 hC.2.1 hd ht (fun hh => kt hh p l e s m args below meth c b G D hC H locs ls hz hP hS hl) (fun hh => kf hh p l e s m args below meth c b G D hC H locs ls hz hP hS hl)
theorem z_if_lt {x : Int32} {off : Int} {tgt : Nat} (hd : decode (mB M) pc = .ok (.ifCond .lt off, 3)) (hq : pc + 3 = q) (ht : (pc : Int) + off = (tgt : Int)) (kt : x < 0 → Z M Po kc ks n σ tgt lv st) (kf : ¬ (x < 0) → Z M Po kc ks n σ q lv st) : Z M Po kc ks n σ pc lv (.int x :: st) := by
  subst hq; intro p l e s m args below meth c b G D hC H locs ls hz hP hS hl
  exact lv_if_lt hC.1 hC.2.1 hd ht (fun hh => kt hh p l e s m args below meth c b G D hC H locs ls hz hP hS hl) (fun hh => kf hh p l e s m args below meth c b G D hC H locs ls hz hP hS hl)
theorem z_icmp_lt {x y : Int32} {off : Int} {tgt : Nat} (hd : decode (mB M) pc = .ok (.if_icmp .lt off, 3)) (hq : pc + 3 = q) (ht : (pc : Int) + off = (tgt : Int)) (kt : x < y → Z M Po kc ks n σ tgt lv st) (kf : ¬ (x < y) → Z M Po kc ks n σ q lv st) : Z M Po kc ks n σ pc lv (.int y :: .int x :: st) := by
  subst hq; intro p l e s m args below meth c b G D hC H locs ls hz hP hS hl
  exact lv_icmp_lt hC.1 hC.2.1 hd ht (fun hh => kt hh p l e s m args below meth c b G D hC H locs ls hz hP hS hl) (fun hh => kf hh p l e s m args below meth c b G D hC H locs ls hz hP hS hl)
theorem z_if_ge {x : Int32} {off : Int} {tgt : Nat} (hd : decode (mB M) pc = .ok (.ifCond .ge off, 3)) (hq : pc + 3 = q) (ht : (pc : Int) + off = (tgt : Int)) (kt : 0 ≤ x → Z M Po kc ks n σ tgt lv st) (kf : ¬ (0 ≤ x) → Z M Po kc ks n σ q lv st) : Z M Po kc ks n σ pc lv (.int x :: st) := by
  subst hq; intro p l e s m args below meth c b G D hC H locs ls hz hP hS hl
  exact lv_if_ge hC.1 hC.2.1 hd ht (fun hh => kt hh p l e s m args below meth c b G D hC H locs ls hz hP hS hl) (fun hh => kf hh p l e s m args below meth c b G D hC H locs ls hz hP hS hl)
theorem z_icmp_ge {x y : Int32} {off : Int} {tgt : Nat} (hd : decode (mB M) pc = .ok (.if_icmp .ge off, 3)) (hq : pc + 3 = q) (ht : (pc : Int) + off = (tgt : Int)) (kt : y ≤ x → Z M Po kc ks n σ tgt lv st) (kf : ¬ (y ≤ x) → Z M Po kc ks n σ q lv st) : Z M Po kc ks n σ pc lv (.int y :: .int x :: st) := by
  subst hq; intro p l e s m args below meth c b G D hC H locs ls hz hP hS hl
  exact lv_icmp_ge hC.1 hC.2.1 hd ht (fun hh => kt hh p l e s m args below meth c b G D hC H locs ls hz hP hS hl) (fun hh => kf hh p l e s m args below meth c b G D hC H locs ls hz hP hS hl)
theorem z_if_gt {x : Int32} {off : Int} {tgt : Nat} (hd : decode (mB M) pc = .ok (.ifCond .gt off, 3)) (hq : pc + 3 = q) (ht : (pc : Int) + off = (tgt : Int)) (kt : 0 < x → Z M Po kc ks n σ tgt lv st) (kf : ¬ (0 < x) → Z M Po kc ks n σ q lv st) : Z M Po kc ks n σ pc lv (.int x :: st) := by
  subst hq; intro p l e s m args below meth c b G D hC H locs ls hz hP hS hl
  exact lv_if_gt hC.1 hC.2.1 hd ht (fun hh => kt hh p l e s m args below meth c b G D hC H locs ls hz hP hS hl) (fun hh => kf hh p l e s m args below meth c b G D hC H locs ls hz hP hS hl)
theorem z_icmp_gt {x y : Int32} {off : Int} {tgt : Nat} (hd : decode (mB M) pc = .ok (.if_icmp .gt off, 3)) (hq : pc + 3 = q) (ht : (pc : Int) + off = (tgt : Int)) (kt : y < x → Z M Po kc ks n σ tgt lv st) (kf : ¬ (y < x) → Z M Po kc ks n σ q lv st) : Z M Po kc ks n σ pc lv (.int y :: .int x :: st) := by
  subst hq; intro p l e s m args below meth c b G D hC H locs ls hz hP hS hl
  exact lv_icmp_gt hC.1 hC.2.1 hd ht (fun hh => kt hh p l e s m args below meth c b G D hC H locs ls hz hP hS hl) (fun hh => kf hh p l e s m args below meth c b G D hC H locs ls hz hP hS hl)
theorem z_if_le {x : Int32} {off : Int} {tgt : Nat} (hd : decode (mB M) pc = .ok (.ifCond .le off, 3)) (hq : pc + 3 = q) (ht : (pc : Int) + off = (tgt : Int)) (kt : x ≤ 0 → Z M Po kc ks n σ tgt lv st) (kf : ¬ (x ≤ 0) → Z M Po kc ks n σ q lv st) : Z M Po kc ks n σ pc lv (.int x :: st) := by
  subst hq; intro p l e s m args below meth c b G D hC H locs ls hz hP hS hl
  exact lv_if_le hC.1 hC.2.1 hd ht (fun hh => kt hh p l e s m args below meth c b G D hC H locs ls hz hP hS hl) (fun hh => kf hh p l e s m args below meth c b G D hC H locs ls hz hP hS hl)
theorem z_icmp_le {x y : Int32} {off : Int} {tgt : Nat} (hd : decode (mB M) pc = .ok (.if_icmp .le off, 3)) (hq : pc + 3 = q) (ht : (pc : Int) + off = (tgt : Int)) (kt : x ≤ y → Z M Po kc ks n σ tgt lv st) (kf : ¬ (x ≤ y) → Z M Po kc ks n σ q lv st) : Z M Po kc ks n σ pc lv (.int y :: .int x :: st) := by
  subst hq; intro p l e s m args below meth c b G D hC H locs ls hz hP hS hl
  exact lv_icmp_le hC.1 hC.2.1 hd ht (fun hh => kt hh p l e s m args below meth c b G D hC H locs ls hz hP hS hl) (fun hh => kf hh p l e s m args below meth c b G D hC H locs ls hz hP hS hl)
theorem zn_icmp_eq {x y : Nat} {off : Int} {tgt : Nat} (hd : decode (mB M) pc = .ok (.if_icmp .eq off, 3)) (hq : pc + 3 = q) (ht : (pc : Int) + off = (tgt : Int)) (hx : x < 2 ^ 31) (hy : y < 2 ^ 31) (kt : x = y → Z M Po kc ks n σ tgt lv st) (kf : ¬ (x = y) → Z M Po kc ks n σ q lv st) : Z M Po kc ks n σ pc lv (.int (nI y) :: .int (nI x) :: st) := z_icmp_eq hd hq ht (fun h => kt ((nI_eq hx hy).mp h)) (fun h => kf (fun g => h ((nI_eq hx hy).mpr g)))
theorem zn_icmp_lt {x y : Nat} {off : Int} {tgt : Nat} (hd : decode (mB M) pc = .ok (.if_icmp .lt off, 3)) (hq : pc + 3 = q) (ht : (pc : Int) + off = (tgt : Int)) (hx : x < 2 ^ 31) (hy : y < 2 ^ 31) (kt : x < y → Z M Po kc ks n σ tgt lv st) (kf : ¬ (x < y) → Z M Po kc ks n σ q lv st) : Z M Po kc ks n σ pc lv (.int (nI y) :: .int (nI x) :: st) := z_icmp_lt hd hq ht (fun h => kt ((nI_ltI hx hy).mp h)) (fun h => kf (fun g => h ((nI_ltI hx hy).mpr g)))
theorem zn_icmp_ge {x y : Nat} {off : Int} {tgt : Nat} (hd : decode (mB M) pc = .ok (.if_icmp .ge off, 3)) (hq : pc + 3 = q) (ht : (pc : Int) + off = (tgt : Int)) (hx : x < 2 ^ 31) (hy : y < 2 ^ 31) (kt : y ≤ x → Z M Po kc ks n σ tgt lv st) (kf : ¬ (y ≤ x) → Z M Po kc ks n σ q lv st) : Z M Po kc ks n σ pc lv (.int (nI y) :: .int (nI x) :: st) := z_icmp_ge hd hq ht (fun h => kt ((nI_leI hy hx).mp h)) (fun h => kf (fun g => h ((nI_leI hy hx).mpr g)))
theorem zn_icmp_gt {x y : Nat} {off : Int} {tgt : Nat} (hd : decode (mB M) pc = .ok (.if_icmp .gt off, 3)) (hq : pc + 3 = q) (ht : (pc : Int) + off = (tgt : Int)) (hx : x < 2 ^ 31) (hy : y < 2 ^ 31) (kt : y < x → Z M Po kc ks n σ tgt lv st) (kf : ¬ (y < x) → Z M Po kc ks n σ q lv st) : Z M Po kc ks n σ pc lv (.int (nI y) :: .int (nI x) :: st) := z_icmp_gt hd hq ht (fun h => kt ((nI_ltI hy hx).mp h)) (fun h => kf (fun g => h ((nI_ltI hy hx).mpr g)))
theorem zn_icmp_le {x y : Nat} {off : Int} {tgt : Nat} (hd : decode (mB M) pc = .ok (.if_icmp .le off, 3)) (hq : pc + 3 = q) (ht : (pc : Int) + off = (tgt : Int)) (hx : x < 2 ^ 31) (hy : y < 2 ^ 31) (kt : x ≤ y → Z M Po kc ks n σ tgt lv st) (kf : ¬ (x ≤ y) → Z M Po kc ks n σ q lv st) : Z M Po kc ks n σ pc lv (.int (nI y) :: .int (nI x) :: st) := z_icmp_le hd hq ht (fun h => kt ((nI_leI hx hy).mp h)) (fun h => kf (fun g => h ((nI_leI hx hy).mpr g)))
theorem zn_icmp_ne {x y : Nat} {off : Int} {tgt : Nat} (hd : decode (mB M) pc = .ok (.if_icmp .ne off, 3)) (hq : pc + 3 = q) (ht : (pc : Int) + off = (tgt : Int)) (hx : x < 2 ^ 31) (hy : y < 2 ^ 31) (kt : ¬ x = y → Z M Po kc ks n σ tgt lv st) (kf : x = y → Z M Po kc ks n σ q lv st) : Z M Po kc ks n σ pc lv (.int (nI y) :: .int (nI x) :: st) := z_icmp_ne hd hq ht (fun h => kt (fun g => h ((nI_eq hx hy).mpr g))) (fun h => kf ((nI_eq hx hy).mp h))
theorem z_lgN {x y : Nat} (hx : x < 2 ^ 63) (hy : y < 2 ^ 63) : lg_cmp (lN x) (lN y) = if y < x then 1 else if x = y then 0 else -1 := by
  unfold lg_cmp
  by_cases h1 : y < x
  · rw [if_pos h1, if_pos ((pk_lLT hy hx).mpr h1)]
  · rw [if_neg h1, if_neg (fun z => h1 ((pk_lLT hy hx).mp z))]
    by_cases h2 : x = y
    · subst h2; simp
    · rw [if_neg h2, if_neg (fun z => h2 ((pk_lEQ hx hy).mp z))]
theorem z_goto {off : Int} {tgt : Nat} (hd : decode (mB M) pc = .ok (.goto off, 3)) (ht : (pc : Int) + off = (tgt : Int)) (k : Z M Po kc ks n σ tgt lv st) : Z M Po kc ks n σ pc lv st := by
  intro p l e s m args below meth c b G D hC H locs ls hz hP hS hl
  exact lv_goto hC.1 hC.2.1 hd ht (k p l e s m args below meth c b G D hC H locs ls hz hP hS hl)
theorem z_iload_n {j : Fin 4} {i : Nat} {x : Int32} (hd : decode (mB M) pc = .ok (.iload_n j, 1)) (hi : (j : Nat) = i) (hv : lv[i]? = some (some (.int x))) (hq : pc + 1 = q) (k : Z M Po kc ks n σ q lv (.int x :: st)) : Z M Po kc ks n σ pc lv st := by
  subst hq; intro p l e s m args below meth c b G D hC H locs ls hz hP hS hl
  exact lv_iload_n hC.1 hC.2.1 hd hi (hl.2.2.2 _ _ hv) (k p l e s m args below meth c b G D hC H locs ls hz hP hS hl)
theorem z_iload {i : Nat} {x : Int32} (hd : decode (mB M) pc = .ok (.iload i, 2)) (hv : lv[i]? = some (some (.int x))) (hq : pc + 2 = q) (k : Z M Po kc ks n σ q lv (.int x :: st)) : Z M Po kc ks n σ pc lv st := by
  subst hq; intro p l e s m args below meth c b G D hC H locs ls hz hP hS hl
  exact lv_iload hC.1 hC.2.1 hd (hl.2.2.2 _ _ hv) (k p l e s m args below meth c b G D hC H locs ls hz hP hS hl)
theorem z_istore_n {j : Fin 4} {i : Nat} {x : Int32} (hd : decode (mB M) pc = .ok (.istore_n j, 1)) (hi : (j : Nat) = i) (hn : i < lv.length) (hk : zkb lv i = true) (hq : pc + 1 = q) (k : Z M Po kc ks n σ q (lv.set i (some (.int x))) st) : Z M Po kc ks n σ pc lv (.int x :: st) := by
  subst hq; intro p l e s m args below meth c b G D hC H locs ls hz hP hS hl
  exact lv_istore_n hC.1 hC.2.1 hd hi (zl_has hl) (Nat.lt_of_lt_of_le hn hl.2.2.1) rfl (fun ls' h' => k p l e s m args below meth c b G D hC H locs ls' hz hP hS (zl_set1 (x := .int x) hl hn hk h'))
theorem z_istore {i : Nat} {x : Int32} (hd : decode (mB M) pc = .ok (.istore i, 2)) (hn : i < lv.length) (hk : zkb lv i = true) (hq : pc + 2 = q) (k : Z M Po kc ks n σ q (lv.set i (some (.int x))) st) : Z M Po kc ks n σ pc lv (.int x :: st) := by
  subst hq; intro p l e s m args below meth c b G D hC H locs ls hz hP hS hl
  exact lv_istore hC.1 hC.2.1 hd (zl_has hl) (Nat.lt_of_lt_of_le hn hl.2.2.1) rfl (fun ls' h' => k p l e s m args below meth c b G D hC H locs ls' hz hP hS (zl_set1 (x := .int x) hl hn hk h'))
theorem z_lload_n {j : Fin 4} {i : Nat} {x : Int64} (hd : decode (mB M) pc = .ok (.lload_n j, 1)) (hi : (j : Nat) = i) (hv : lv[i]? = some (some (.long x))) (hq : pc + 1 = q) (k : Z M Po kc ks n σ q lv (.long x :: st)) : Z M Po kc ks n σ pc lv st := by
  subst hq; intro p l e s m args below meth c b G D hC H locs ls hz hP hS hl
  exact lv_lload_n hC.1 hC.2.1 hd hi (hl.2.2.2 _ _ hv) (k p l e s m args below meth c b G D hC H locs ls hz hP hS hl)
theorem z_lload {i : Nat} {x : Int64} (hd : decode (mB M) pc = .ok (.lload i, 2)) (hv : lv[i]? = some (some (.long x))) (hq : pc + 2 = q) (k : Z M Po kc ks n σ q lv (.long x :: st)) : Z M Po kc ks n σ pc lv st := by
  subst hq; intro p l e s m args below meth c b G D hC H locs ls hz hP hS hl
  exact lv_lload hC.1 hC.2.1 hd (hl.2.2.2 _ _ hv) (k p l e s m args below meth c b G D hC H locs ls hz hP hS hl)
theorem z_lstore_n {j : Fin 4} {i : Nat} {x : Int64} (hd : decode (mB M) pc = .ok (.lstore_n j, 1)) (hi : (j : Nat) = i) (hn : i + 1 < lv.length) (hk : zkb lv i = true) (hq : pc + 1 = q) (k : Z M Po kc ks n σ q ((lv.set i (some (.long x))).set (i + 1) none) st) : Z M Po kc ks n σ pc lv (.long x :: st) := by
  subst hq; intro p l e s m args below meth c b G D hC H locs ls hz hP hS hl
  exact lv_lstore_n hC.1 hC.2.1 hd hi (zl_has hl) (Nat.lt_of_lt_of_le hn hl.2.2.1) rfl (fun ls' h' => k p l e s m args below meth c b G D hC H locs ls' hz hP hS (zl_set2 (x := .long x) hl hn hk h'))
theorem z_lstore {i : Nat} {x : Int64} (hd : decode (mB M) pc = .ok (.lstore i, 2)) (hn : i + 1 < lv.length) (hk : zkb lv i = true) (hq : pc + 2 = q) (k : Z M Po kc ks n σ q ((lv.set i (some (.long x))).set (i + 1) none) st) : Z M Po kc ks n σ pc lv (.long x :: st) := by
  subst hq; intro p l e s m args below meth c b G D hC H locs ls hz hP hS hl
  exact lv_lstore hC.1 hC.2.1 hd (zl_has hl) (Nat.lt_of_lt_of_le hn hl.2.2.1) rfl (fun ls' h' => k p l e s m args below meth c b G D hC H locs ls' hz hP hS (zl_set2 (x := .long x) hl hn hk h'))
theorem z_aload_n {j : Fin 4} {i : Nat} {x : Nat} (hd : decode (mB M) pc = .ok (.aload_n j, 1)) (hi : (j : Nat) = i) (hv : lv[i]? = some (some (.ref x))) (hq : pc + 1 = q) (k : Z M Po kc ks n σ q lv (.ref x :: st)) : Z M Po kc ks n σ pc lv st := by
  subst hq; intro p l e s m args below meth c b G D hC H locs ls hz hP hS hl
  exact lv_aload_n hC.1 hC.2.1 hd hi (hl.2.2.2 _ _ hv) (k p l e s m args below meth c b G D hC H locs ls hz hP hS hl)
theorem z_aload {i : Nat} {x : Nat} (hd : decode (mB M) pc = .ok (.aload i, 2)) (hv : lv[i]? = some (some (.ref x))) (hq : pc + 2 = q) (k : Z M Po kc ks n σ q lv (.ref x :: st)) : Z M Po kc ks n σ pc lv st := by
  subst hq; intro p l e s m args below meth c b G D hC H locs ls hz hP hS hl
  exact lv_aload hC.1 hC.2.1 hd (hl.2.2.2 _ _ hv) (k p l e s m args below meth c b G D hC H locs ls hz hP hS hl)
theorem z_astore_n {j : Fin 4} {i : Nat} {x : Nat} (hd : decode (mB M) pc = .ok (.astore_n j, 1)) (hi : (j : Nat) = i) (hn : i < lv.length) (hk : zkb lv i = true) (hq : pc + 1 = q) (k : Z M Po kc ks n σ q (lv.set i (some (.ref x))) st) : Z M Po kc ks n σ pc lv (.ref x :: st) := by
  subst hq; intro p l e s m args below meth c b G D hC H locs ls hz hP hS hl
  exact lv_astore_n hC.1 hC.2.1 hd hi (zl_has hl) (Nat.lt_of_lt_of_le hn hl.2.2.1) rfl (fun ls' h' => k p l e s m args below meth c b G D hC H locs ls' hz hP hS (zl_set1 (x := .ref x) hl hn hk h'))
theorem z_astore {i : Nat} {x : Nat} (hd : decode (mB M) pc = .ok (.astore i, 2)) (hn : i < lv.length) (hk : zkb lv i = true) (hq : pc + 2 = q) (k : Z M Po kc ks n σ q (lv.set i (some (.ref x))) st) : Z M Po kc ks n σ pc lv (.ref x :: st) := by
  subst hq; intro p l e s m args below meth c b G D hC H locs ls hz hP hS hl
  exact lv_astore hC.1 hC.2.1 hd (zl_has hl) (Nat.lt_of_lt_of_le hn hl.2.2.1) rfl (fun ls' h' => k p l e s m args below meth c b G D hC H locs ls' hz hP hS (zl_set1 (x := .ref x) hl hn hk h'))
theorem z_iinc {i : Nat} {x v : Int32} {d : Int} (hd : decode (mB M) pc = .ok (.iinc i d, 3)) (hv : lv[i]? = some (some (.int x))) (hx : x + Int32.ofInt d = v) (hn : i < lv.length) (hk : zkb lv i = true) (hq : pc + 3 = q) (k : Z M Po kc ks n σ q (lv.set i (some (.int v))) st) : Z M Po kc ks n σ pc lv st := by
  subst hq; intro p l e s m args below meth c b G D hC H locs ls hz hP hS hl
  obtain ⟨j, hj⟩ := List.getElem?_of_mem (zp_in (b := b).mpr ⟨_, hv, rfl⟩)
  exact lv_iinc hC.1 hC.2.1 hd (zl_has hl) hj hx (Nat.lt_of_lt_of_le hn hl.2.2.1) rfl (fun ls' h' => k p l e s m args below meth c b G D hC H locs ls' hz hP hS (zl_set1 (x := .int v) hl hn hk h'))
theorem z_ild0 {t : List (Option Value)} {x : Int32} (hd : decode (mB M) pc = .ok (.iload_n 0, 1)) (hq : pc + 1 = q) (k : Z M Po kc ks n σ q (some (.int x) :: t) (.int x :: st)) : Z M Po kc ks n σ pc (some (.int x) :: t) st := z_iload_n (i := 0) hd rfl rfl hq k
theorem z_ist0 {o : Option Value} {t : List (Option Value)} {x : Int32} (hd : decode (mB M) pc = .ok (.istore_n 0, 1)) (hq : pc + 1 = q) (k : Z M Po kc ks n σ q (some (.int x) :: t) st) : Z M Po kc ks n σ pc (o :: t) (.int x :: st) := z_istore_n (i := 0) hd rfl (by simp only [List.length_cons]; omega) rfl hq k
theorem z_lld0 {t : List (Option Value)} {x : Int64} (hd : decode (mB M) pc = .ok (.lload_n 0, 1)) (hq : pc + 1 = q) (k : Z M Po kc ks n σ q (some (.long x) :: t) (.long x :: st)) : Z M Po kc ks n σ pc (some (.long x) :: t) st := z_lload_n (i := 0) hd rfl rfl hq k
theorem z_lst0 {o o2 : Option Value} {t : List (Option Value)} {x : Int64} (hd : decode (mB M) pc = .ok (.lstore_n 0, 1)) (hq : pc + 1 = q) (k : Z M Po kc ks n σ q (some (.long x) :: none :: t) st) : Z M Po kc ks n σ pc (o :: o2 :: t) (.long x :: st) := z_lstore_n (i := 0) hd rfl (by simp only [List.length_cons]; omega) rfl hq k
theorem z_ald0 {t : List (Option Value)} {x : Nat} (hd : decode (mB M) pc = .ok (.aload_n 0, 1)) (hq : pc + 1 = q) (k : Z M Po kc ks n σ q (some (.ref x) :: t) (.ref x :: st)) : Z M Po kc ks n σ pc (some (.ref x) :: t) st := z_aload_n (i := 0) hd rfl rfl hq k
theorem z_ast0 {o : Option Value} {t : List (Option Value)} {x : Nat} (hd : decode (mB M) pc = .ok (.astore_n 0, 1)) (hq : pc + 1 = q) (k : Z M Po kc ks n σ q (some (.ref x) :: t) st) : Z M Po kc ks n σ pc (o :: t) (.ref x :: st) := z_astore_n (i := 0) hd rfl (by simp only [List.length_cons]; omega) rfl hq k
theorem zn_iinc0 {t : List (Option Value)} {x d : Nat} (hd : decode (mB M) pc = .ok (.iinc 0 (d : Int), 3)) (hq : pc + 3 = q) (k : Z M Po kc ks n σ q (some (.int (nI (x + d))) :: t) st) : Z M Po kc ks n σ pc (some (.int (nI x)) :: t) st := z_iinc (i := 0) hd rfl (show nI x + Int32.ofInt (d : Int) = nI (x + d) from nI_add x d) (by simp only [List.length_cons]; omega) rfl hq k
theorem z_ild1 {a0 : Option Value} {t : List (Option Value)} {x : Int32} (hd : decode (mB M) pc = .ok (.iload_n 1, 1)) (hq : pc + 1 = q) (k : Z M Po kc ks n σ q (a0 :: some (.int x) :: t) (.int x :: st)) : Z M Po kc ks n σ pc (a0 :: some (.int x) :: t) st := z_iload_n (i := 1) hd rfl rfl hq k
theorem z_ist1 {a0 : Option Value} {o : Option Value} {t : List (Option Value)} {x : Int32} (hd : decode (mB M) pc = .ok (.istore_n 1, 1)) (hq : pc + 1 = q) (hk : zn2 a0 = true) (k : Z M Po kc ks n σ q (a0 :: some (.int x) :: t) st) : Z M Po kc ks n σ pc (a0 :: o :: t) (.int x :: st) := z_istore_n (i := 1) hd rfl (by simp only [List.length_cons]; omega) hk hq k
theorem z_lld1 {a0 : Option Value} {t : List (Option Value)} {x : Int64} (hd : decode (mB M) pc = .ok (.lload_n 1, 1)) (hq : pc + 1 = q) (k : Z M Po kc ks n σ q (a0 :: some (.long x) :: t) (.long x :: st)) : Z M Po kc ks n σ pc (a0 :: some (.long x) :: t) st := z_lload_n (i := 1) hd rfl rfl hq k
theorem z_lst1 {a0 : Option Value} {o o2 : Option Value} {t : List (Option Value)} {x : Int64} (hd : decode (mB M) pc = .ok (.lstore_n 1, 1)) (hq : pc + 1 = q) (hk : zn2 a0 = true) (k : Z M Po kc ks n σ q (a0 :: some (.long x) :: none :: t) st) : Z M Po kc ks n σ pc (a0 :: o :: o2 :: t) (.long x :: st) := z_lstore_n (i := 1) hd rfl (by simp only [List.length_cons]; omega) hk hq k
theorem z_ald1 {a0 : Option Value} {t : List (Option Value)} {x : Nat} (hd : decode (mB M) pc = .ok (.aload_n 1, 1)) (hq : pc + 1 = q) (k : Z M Po kc ks n σ q (a0 :: some (.ref x) :: t) (.ref x :: st)) : Z M Po kc ks n σ pc (a0 :: some (.ref x) :: t) st := z_aload_n (i := 1) hd rfl rfl hq k
theorem z_ast1 {a0 : Option Value} {o : Option Value} {t : List (Option Value)} {x : Nat} (hd : decode (mB M) pc = .ok (.astore_n 1, 1)) (hq : pc + 1 = q) (hk : zn2 a0 = true) (k : Z M Po kc ks n σ q (a0 :: some (.ref x) :: t) st) : Z M Po kc ks n σ pc (a0 :: o :: t) (.ref x :: st) := z_astore_n (i := 1) hd rfl (by simp only [List.length_cons]; omega) hk hq k
theorem zn_iinc1 {a0 : Option Value} {t : List (Option Value)} {x d : Nat} (hd : decode (mB M) pc = .ok (.iinc 1 (d : Int), 3)) (hq : pc + 3 = q) (hk : zn2 a0 = true) (k : Z M Po kc ks n σ q (a0 :: some (.int (nI (x + d))) :: t) st) : Z M Po kc ks n σ pc (a0 :: some (.int (nI x)) :: t) st := z_iinc (i := 1) hd rfl (show nI x + Int32.ofInt (d : Int) = nI (x + d) from nI_add x d) (by simp only [List.length_cons]; omega) hk hq k
theorem z_ild2 {a0 a1 : Option Value} {t : List (Option Value)} {x : Int32} (hd : decode (mB M) pc = .ok (.iload_n 2, 1)) (hq : pc + 1 = q) (k : Z M Po kc ks n σ q (a0 :: a1 :: some (.int x) :: t) (.int x :: st)) : Z M Po kc ks n σ pc (a0 :: a1 :: some (.int x) :: t) st := z_iload_n (i := 2) hd rfl rfl hq k
theorem z_ist2 {a0 a1 : Option Value} {o : Option Value} {t : List (Option Value)} {x : Int32} (hd : decode (mB M) pc = .ok (.istore_n 2, 1)) (hq : pc + 1 = q) (hk : zn2 a1 = true) (k : Z M Po kc ks n σ q (a0 :: a1 :: some (.int x) :: t) st) : Z M Po kc ks n σ pc (a0 :: a1 :: o :: t) (.int x :: st) := z_istore_n (i := 2) hd rfl (by simp only [List.length_cons]; omega) hk hq k
theorem z_lld2 {a0 a1 : Option Value} {t : List (Option Value)} {x : Int64} (hd : decode (mB M) pc = .ok (.lload_n 2, 1)) (hq : pc + 1 = q) (k : Z M Po kc ks n σ q (a0 :: a1 :: some (.long x) :: t) (.long x :: st)) : Z M Po kc ks n σ pc (a0 :: a1 :: some (.long x) :: t) st := z_lload_n (i := 2) hd rfl rfl hq k
theorem z_lst2 {a0 a1 : Option Value} {o o2 : Option Value} {t : List (Option Value)} {x : Int64} (hd : decode (mB M) pc = .ok (.lstore_n 2, 1)) (hq : pc + 1 = q) (hk : zn2 a1 = true) (k : Z M Po kc ks n σ q (a0 :: a1 :: some (.long x) :: none :: t) st) : Z M Po kc ks n σ pc (a0 :: a1 :: o :: o2 :: t) (.long x :: st) := z_lstore_n (i := 2) hd rfl (by simp only [List.length_cons]; omega) hk hq k
theorem z_ald2 {a0 a1 : Option Value} {t : List (Option Value)} {x : Nat} (hd : decode (mB M) pc = .ok (.aload_n 2, 1)) (hq : pc + 1 = q) (k : Z M Po kc ks n σ q (a0 :: a1 :: some (.ref x) :: t) (.ref x :: st)) : Z M Po kc ks n σ pc (a0 :: a1 :: some (.ref x) :: t) st := z_aload_n (i := 2) hd rfl rfl hq k
theorem z_ast2 {a0 a1 : Option Value} {o : Option Value} {t : List (Option Value)} {x : Nat} (hd : decode (mB M) pc = .ok (.astore_n 2, 1)) (hq : pc + 1 = q) (hk : zn2 a1 = true) (k : Z M Po kc ks n σ q (a0 :: a1 :: some (.ref x) :: t) st) : Z M Po kc ks n σ pc (a0 :: a1 :: o :: t) (.ref x :: st) := z_astore_n (i := 2) hd rfl (by simp only [List.length_cons]; omega) hk hq k
theorem zn_iinc2 {a0 a1 : Option Value} {t : List (Option Value)} {x d : Nat} (hd : decode (mB M) pc = .ok (.iinc 2 (d : Int), 3)) (hq : pc + 3 = q) (hk : zn2 a1 = true) (k : Z M Po kc ks n σ q (a0 :: a1 :: some (.int (nI (x + d))) :: t) st) : Z M Po kc ks n σ pc (a0 :: a1 :: some (.int (nI x)) :: t) st := z_iinc (i := 2) hd rfl (show nI x + Int32.ofInt (d : Int) = nI (x + d) from nI_add x d) (by simp only [List.length_cons]; omega) hk hq k
theorem z_ild3 {a0 a1 a2 : Option Value} {t : List (Option Value)} {x : Int32} (hd : decode (mB M) pc = .ok (.iload_n 3, 1)) (hq : pc + 1 = q) (k : Z M Po kc ks n σ q (a0 :: a1 :: a2 :: some (.int x) :: t) (.int x :: st)) : Z M Po kc ks n σ pc (a0 :: a1 :: a2 :: some (.int x) :: t) st := z_iload_n (i := 3) hd rfl rfl hq k
theorem z_ist3 {a0 a1 a2 : Option Value} {o : Option Value} {t : List (Option Value)} {x : Int32} (hd : decode (mB M) pc = .ok (.istore_n 3, 1)) (hq : pc + 1 = q) (hk : zn2 a2 = true) (k : Z M Po kc ks n σ q (a0 :: a1 :: a2 :: some (.int x) :: t) st) : Z M Po kc ks n σ pc (a0 :: a1 :: a2 :: o :: t) (.int x :: st) := z_istore_n (i := 3) hd rfl (by simp only [List.length_cons]; omega) hk hq k
theorem z_lld3 {a0 a1 a2 : Option Value} {t : List (Option Value)} {x : Int64} (hd : decode (mB M) pc = .ok (.lload_n 3, 1)) (hq : pc + 1 = q) (k : Z M Po kc ks n σ q (a0 :: a1 :: a2 :: some (.long x) :: t) (.long x :: st)) : Z M Po kc ks n σ pc (a0 :: a1 :: a2 :: some (.long x) :: t) st := z_lload_n (i := 3) hd rfl rfl hq k
theorem z_lst3 {a0 a1 a2 : Option Value} {o o2 : Option Value} {t : List (Option Value)} {x : Int64} (hd : decode (mB M) pc = .ok (.lstore_n 3, 1)) (hq : pc + 1 = q) (hk : zn2 a2 = true) (k : Z M Po kc ks n σ q (a0 :: a1 :: a2 :: some (.long x) :: none :: t) st) : Z M Po kc ks n σ pc (a0 :: a1 :: a2 :: o :: o2 :: t) (.long x :: st) := z_lstore_n (i := 3) hd rfl (by simp only [List.length_cons]; omega) hk hq k
theorem z_ald3 {a0 a1 a2 : Option Value} {t : List (Option Value)} {x : Nat} (hd : decode (mB M) pc = .ok (.aload_n 3, 1)) (hq : pc + 1 = q) (k : Z M Po kc ks n σ q (a0 :: a1 :: a2 :: some (.ref x) :: t) (.ref x :: st)) : Z M Po kc ks n σ pc (a0 :: a1 :: a2 :: some (.ref x) :: t) st := z_aload_n (i := 3) hd rfl rfl hq k
theorem z_ast3 {a0 a1 a2 : Option Value} {o : Option Value} {t : List (Option Value)} {x : Nat} (hd : decode (mB M) pc = .ok (.astore_n 3, 1)) (hq : pc + 1 = q) (hk : zn2 a2 = true) (k : Z M Po kc ks n σ q (a0 :: a1 :: a2 :: some (.ref x) :: t) st) : Z M Po kc ks n σ pc (a0 :: a1 :: a2 :: o :: t) (.ref x :: st) := z_astore_n (i := 3) hd rfl (by simp only [List.length_cons]; omega) hk hq k
theorem zn_iinc3 {a0 a1 a2 : Option Value} {t : List (Option Value)} {x d : Nat} (hd : decode (mB M) pc = .ok (.iinc 3 (d : Int), 3)) (hq : pc + 3 = q) (hk : zn2 a2 = true) (k : Z M Po kc ks n σ q (a0 :: a1 :: a2 :: some (.int (nI (x + d))) :: t) st) : Z M Po kc ks n σ pc (a0 :: a1 :: a2 :: some (.int (nI x)) :: t) st := z_iinc (i := 3) hd rfl (show nI x + Int32.ofInt (d : Int) = nI (x + d) from nI_add x d) (by simp only [List.length_cons]; omega) hk hq k
theorem z_ild4 {a0 a1 a2 a3 : Option Value} {t : List (Option Value)} {x : Int32} (hd : decode (mB M) pc = .ok (.iload 4, 2)) (hq : pc + 2 = q) (k : Z M Po kc ks n σ q (a0 :: a1 :: a2 :: a3 :: some (.int x) :: t) (.int x :: st)) : Z M Po kc ks n σ pc (a0 :: a1 :: a2 :: a3 :: some (.int x) :: t) st := z_iload (i := 4) hd rfl hq k
theorem z_ist4 {a0 a1 a2 a3 : Option Value} {o : Option Value} {t : List (Option Value)} {x : Int32} (hd : decode (mB M) pc = .ok (.istore 4, 2)) (hq : pc + 2 = q) (hk : zn2 a3 = true) (k : Z M Po kc ks n σ q (a0 :: a1 :: a2 :: a3 :: some (.int x) :: t) st) : Z M Po kc ks n σ pc (a0 :: a1 :: a2 :: a3 :: o :: t) (.int x :: st) := z_istore (i := 4) hd (by simp only [List.length_cons]; omega) hk hq k
theorem z_lld4 {a0 a1 a2 a3 : Option Value} {t : List (Option Value)} {x : Int64} (hd : decode (mB M) pc = .ok (.lload 4, 2)) (hq : pc + 2 = q) (k : Z M Po kc ks n σ q (a0 :: a1 :: a2 :: a3 :: some (.long x) :: t) (.long x :: st)) : Z M Po kc ks n σ pc (a0 :: a1 :: a2 :: a3 :: some (.long x) :: t) st := z_lload (i := 4) hd rfl hq k
theorem z_lst4 {a0 a1 a2 a3 : Option Value} {o o2 : Option Value} {t : List (Option Value)} {x : Int64} (hd : decode (mB M) pc = .ok (.lstore 4, 2)) (hq : pc + 2 = q) (hk : zn2 a3 = true) (k : Z M Po kc ks n σ q (a0 :: a1 :: a2 :: a3 :: some (.long x) :: none :: t) st) : Z M Po kc ks n σ pc (a0 :: a1 :: a2 :: a3 :: o :: o2 :: t) (.long x :: st) := z_lstore (i := 4) hd (by simp only [List.length_cons]; omega) hk hq k
theorem z_ald4 {a0 a1 a2 a3 : Option Value} {t : List (Option Value)} {x : Nat} (hd : decode (mB M) pc = .ok (.aload 4, 2)) (hq : pc + 2 = q) (k : Z M Po kc ks n σ q (a0 :: a1 :: a2 :: a3 :: some (.ref x) :: t) (.ref x :: st)) : Z M Po kc ks n σ pc (a0 :: a1 :: a2 :: a3 :: some (.ref x) :: t) st := z_aload (i := 4) hd rfl hq k
theorem z_ast4 {a0 a1 a2 a3 : Option Value} {o : Option Value} {t : List (Option Value)} {x : Nat} (hd : decode (mB M) pc = .ok (.astore 4, 2)) (hq : pc + 2 = q) (hk : zn2 a3 = true) (k : Z M Po kc ks n σ q (a0 :: a1 :: a2 :: a3 :: some (.ref x) :: t) st) : Z M Po kc ks n σ pc (a0 :: a1 :: a2 :: a3 :: o :: t) (.ref x :: st) := z_astore (i := 4) hd (by simp only [List.length_cons]; omega) hk hq k
theorem zn_iinc4 {a0 a1 a2 a3 : Option Value} {t : List (Option Value)} {x d : Nat} (hd : decode (mB M) pc = .ok (.iinc 4 (d : Int), 3)) (hq : pc + 3 = q) (hk : zn2 a3 = true) (k : Z M Po kc ks n σ q (a0 :: a1 :: a2 :: a3 :: some (.int (nI (x + d))) :: t) st) : Z M Po kc ks n σ pc (a0 :: a1 :: a2 :: a3 :: some (.int (nI x)) :: t) st := z_iinc (i := 4) hd rfl (show nI x + Int32.ofInt (d : Int) = nI (x + d) from nI_add x d) (by simp only [List.length_cons]; omega) hk hq k
theorem z_ild5 {a0 a1 a2 a3 a4 : Option Value} {t : List (Option Value)} {x : Int32} (hd : decode (mB M) pc = .ok (.iload 5, 2)) (hq : pc + 2 = q) (k : Z M Po kc ks n σ q (a0 :: a1 :: a2 :: a3 :: a4 :: some (.int x) :: t) (.int x :: st)) : Z M Po kc ks n σ pc (a0 :: a1 :: a2 :: a3 :: a4 :: some (.int x) :: t) st := z_iload (i := 5) hd rfl hq k
theorem z_ist5 {a0 a1 a2 a3 a4 : Option Value} {o : Option Value} {t : List (Option Value)} {x : Int32} (hd : decode (mB M) pc = .ok (.istore 5, 2)) (hq : pc + 2 = q) (hk : zn2 a4 = true) (k : Z M Po kc ks n σ q (a0 :: a1 :: a2 :: a3 :: a4 :: some (.int x) :: t) st) : Z M Po kc ks n σ pc (a0 :: a1 :: a2 :: a3 :: a4 :: o :: t) (.int x :: st) := z_istore (i := 5) hd (by simp only [List.length_cons]; omega) hk hq k
theorem z_lld5 {a0 a1 a2 a3 a4 : Option Value} {t : List (Option Value)} {x : Int64} (hd : decode (mB M) pc = .ok (.lload 5, 2)) (hq : pc + 2 = q) (k : Z M Po kc ks n σ q (a0 :: a1 :: a2 :: a3 :: a4 :: some (.long x) :: t) (.long x :: st)) : Z M Po kc ks n σ pc (a0 :: a1 :: a2 :: a3 :: a4 :: some (.long x) :: t) st := z_lload (i := 5) hd rfl hq k
theorem z_lst5 {a0 a1 a2 a3 a4 : Option Value} {o o2 : Option Value} {t : List (Option Value)} {x : Int64} (hd : decode (mB M) pc = .ok (.lstore 5, 2)) (hq : pc + 2 = q) (hk : zn2 a4 = true) (k : Z M Po kc ks n σ q (a0 :: a1 :: a2 :: a3 :: a4 :: some (.long x) :: none :: t) st) : Z M Po kc ks n σ pc (a0 :: a1 :: a2 :: a3 :: a4 :: o :: o2 :: t) (.long x :: st) := z_lstore (i := 5) hd (by simp only [List.length_cons]; omega) hk hq k
theorem z_ald5 {a0 a1 a2 a3 a4 : Option Value} {t : List (Option Value)} {x : Nat} (hd : decode (mB M) pc = .ok (.aload 5, 2)) (hq : pc + 2 = q) (k : Z M Po kc ks n σ q (a0 :: a1 :: a2 :: a3 :: a4 :: some (.ref x) :: t) (.ref x :: st)) : Z M Po kc ks n σ pc (a0 :: a1 :: a2 :: a3 :: a4 :: some (.ref x) :: t) st := z_aload (i := 5) hd rfl hq k
theorem z_ast5 {a0 a1 a2 a3 a4 : Option Value} {o : Option Value} {t : List (Option Value)} {x : Nat} (hd : decode (mB M) pc = .ok (.astore 5, 2)) (hq : pc + 2 = q) (hk : zn2 a4 = true) (k : Z M Po kc ks n σ q (a0 :: a1 :: a2 :: a3 :: a4 :: some (.ref x) :: t) st) : Z M Po kc ks n σ pc (a0 :: a1 :: a2 :: a3 :: a4 :: o :: t) (.ref x :: st) := z_astore (i := 5) hd (by simp only [List.length_cons]; omega) hk hq k
theorem zn_iinc5 {a0 a1 a2 a3 a4 : Option Value} {t : List (Option Value)} {x d : Nat} (hd : decode (mB M) pc = .ok (.iinc 5 (d : Int), 3)) (hq : pc + 3 = q) (hk : zn2 a4 = true) (k : Z M Po kc ks n σ q (a0 :: a1 :: a2 :: a3 :: a4 :: some (.int (nI (x + d))) :: t) st) : Z M Po kc ks n σ pc (a0 :: a1 :: a2 :: a3 :: a4 :: some (.int (nI x)) :: t) st := z_iinc (i := 5) hd rfl (show nI x + Int32.ofInt (d : Int) = nI (x + d) from nI_add x d) (by simp only [List.length_cons]; omega) hk hq k
theorem z_ild6 {a0 a1 a2 a3 a4 a5 : Option Value} {t : List (Option Value)} {x : Int32} (hd : decode (mB M) pc = .ok (.iload 6, 2)) (hq : pc + 2 = q) (k : Z M Po kc ks n σ q (a0 :: a1 :: a2 :: a3 :: a4 :: a5 :: some (.int x) :: t) (.int x :: st)) : Z M Po kc ks n σ pc (a0 :: a1 :: a2 :: a3 :: a4 :: a5 :: some (.int x) :: t) st := z_iload (i := 6) hd rfl hq k
theorem z_ist6 {a0 a1 a2 a3 a4 a5 : Option Value} {o : Option Value} {t : List (Option Value)} {x : Int32} (hd : decode (mB M) pc = .ok (.istore 6, 2)) (hq : pc + 2 = q) (hk : zn2 a5 = true) (k : Z M Po kc ks n σ q (a0 :: a1 :: a2 :: a3 :: a4 :: a5 :: some (.int x) :: t) st) : Z M Po kc ks n σ pc (a0 :: a1 :: a2 :: a3 :: a4 :: a5 :: o :: t) (.int x :: st) := z_istore (i := 6) hd (by simp only [List.length_cons]; omega) hk hq k
theorem z_lld6 {a0 a1 a2 a3 a4 a5 : Option Value} {t : List (Option Value)} {x : Int64} (hd : decode (mB M) pc = .ok (.lload 6, 2)) (hq : pc + 2 = q) (k : Z M Po kc ks n σ q (a0 :: a1 :: a2 :: a3 :: a4 :: a5 :: some (.long x) :: t) (.long x :: st)) : Z M Po kc ks n σ pc (a0 :: a1 :: a2 :: a3 :: a4 :: a5 :: some (.long x) :: t) st := z_lload (i := 6) hd rfl hq k
theorem z_lst6 {a0 a1 a2 a3 a4 a5 : Option Value} {o o2 : Option Value} {t : List (Option Value)} {x : Int64} (hd : decode (mB M) pc = .ok (.lstore 6, 2)) (hq : pc + 2 = q) (hk : zn2 a5 = true) (k : Z M Po kc ks n σ q (a0 :: a1 :: a2 :: a3 :: a4 :: a5 :: some (.long x) :: none :: t) st) : Z M Po kc ks n σ pc (a0 :: a1 :: a2 :: a3 :: a4 :: a5 :: o :: o2 :: t) (.long x :: st) := z_lstore (i := 6) hd (by simp only [List.length_cons]; omega) hk hq k
theorem z_ald6 {a0 a1 a2 a3 a4 a5 : Option Value} {t : List (Option Value)} {x : Nat} (hd : decode (mB M) pc = .ok (.aload 6, 2)) (hq : pc + 2 = q) (k : Z M Po kc ks n σ q (a0 :: a1 :: a2 :: a3 :: a4 :: a5 :: some (.ref x) :: t) (.ref x :: st)) : Z M Po kc ks n σ pc (a0 :: a1 :: a2 :: a3 :: a4 :: a5 :: some (.ref x) :: t) st := z_aload (i := 6) hd rfl hq k
theorem z_ast6 {a0 a1 a2 a3 a4 a5 : Option Value} {o : Option Value} {t : List (Option Value)} {x : Nat} (hd : decode (mB M) pc = .ok (.astore 6, 2)) (hq : pc + 2 = q) (hk : zn2 a5 = true) (k : Z M Po kc ks n σ q (a0 :: a1 :: a2 :: a3 :: a4 :: a5 :: some (.ref x) :: t) st) : Z M Po kc ks n σ pc (a0 :: a1 :: a2 :: a3 :: a4 :: a5 :: o :: t) (.ref x :: st) := z_astore (i := 6) hd (by simp only [List.length_cons]; omega) hk hq k
theorem zn_iinc6 {a0 a1 a2 a3 a4 a5 : Option Value} {t : List (Option Value)} {x d : Nat} (hd : decode (mB M) pc = .ok (.iinc 6 (d : Int), 3)) (hq : pc + 3 = q) (hk : zn2 a5 = true) (k : Z M Po kc ks n σ q (a0 :: a1 :: a2 :: a3 :: a4 :: a5 :: some (.int (nI (x + d))) :: t) st) : Z M Po kc ks n σ pc (a0 :: a1 :: a2 :: a3 :: a4 :: a5 :: some (.int (nI x)) :: t) st := z_iinc (i := 6) hd rfl (show nI x + Int32.ofInt (d : Int) = nI (x + d) from nI_add x d) (by simp only [List.length_cons]; omega) hk hq k
theorem z_ild7 {a0 a1 a2 a3 a4 a5 a6 : Option Value} {t : List (Option Value)} {x : Int32} (hd : decode (mB M) pc = .ok (.iload 7, 2)) (hq : pc + 2 = q) (k : Z M Po kc ks n σ q (a0 :: a1 :: a2 :: a3 :: a4 :: a5 :: a6 :: some (.int x) :: t) (.int x :: st)) : Z M Po kc ks n σ pc (a0 :: a1 :: a2 :: a3 :: a4 :: a5 :: a6 :: some (.int x) :: t) st := z_iload (i := 7) hd rfl hq k
theorem z_ist7 {a0 a1 a2 a3 a4 a5 a6 : Option Value} {o : Option Value} {t : List (Option Value)} {x : Int32} (hd : decode (mB M) pc = .ok (.istore 7, 2)) (hq : pc + 2 = q) (hk : zn2 a6 = true) (k : Z M Po kc ks n σ q (a0 :: a1 :: a2 :: a3 :: a4 :: a5 :: a6 :: some (.int x) :: t) st) : Z M Po kc ks n σ pc (a0 :: a1 :: a2 :: a3 :: a4 :: a5 :: a6 :: o :: t) (.int x :: st) := z_istore (i := 7) hd (by simp only [List.length_cons]; omega) hk hq k
theorem z_lld7 {a0 a1 a2 a3 a4 a5 a6 : Option Value} {t : List (Option Value)} {x : Int64} (hd : decode (mB M) pc = .ok (.lload 7, 2)) (hq : pc + 2 = q) (k : Z M Po kc ks n σ q (a0 :: a1 :: a2 :: a3 :: a4 :: a5 :: a6 :: some (.long x) :: t) (.long x :: st)) : Z M Po kc ks n σ pc (a0 :: a1 :: a2 :: a3 :: a4 :: a5 :: a6 :: some (.long x) :: t) st := z_lload (i := 7) hd rfl hq k
theorem z_lst7 {a0 a1 a2 a3 a4 a5 a6 : Option Value} {o o2 : Option Value} {t : List (Option Value)} {x : Int64} (hd : decode (mB M) pc = .ok (.lstore 7, 2)) (hq : pc + 2 = q) (hk : zn2 a6 = true) (k : Z M Po kc ks n σ q (a0 :: a1 :: a2 :: a3 :: a4 :: a5 :: a6 :: some (.long x) :: none :: t) st) : Z M Po kc ks n σ pc (a0 :: a1 :: a2 :: a3 :: a4 :: a5 :: a6 :: o :: o2 :: t) (.long x :: st) := z_lstore (i := 7) hd (by simp only [List.length_cons]; omega) hk hq k
theorem z_ald7 {a0 a1 a2 a3 a4 a5 a6 : Option Value} {t : List (Option Value)} {x : Nat} (hd : decode (mB M) pc = .ok (.aload 7, 2)) (hq : pc + 2 = q) (k : Z M Po kc ks n σ q (a0 :: a1 :: a2 :: a3 :: a4 :: a5 :: a6 :: some (.ref x) :: t) (.ref x :: st)) : Z M Po kc ks n σ pc (a0 :: a1 :: a2 :: a3 :: a4 :: a5 :: a6 :: some (.ref x) :: t) st := z_aload (i := 7) hd rfl hq k
theorem z_ast7 {a0 a1 a2 a3 a4 a5 a6 : Option Value} {o : Option Value} {t : List (Option Value)} {x : Nat} (hd : decode (mB M) pc = .ok (.astore 7, 2)) (hq : pc + 2 = q) (hk : zn2 a6 = true) (k : Z M Po kc ks n σ q (a0 :: a1 :: a2 :: a3 :: a4 :: a5 :: a6 :: some (.ref x) :: t) st) : Z M Po kc ks n σ pc (a0 :: a1 :: a2 :: a3 :: a4 :: a5 :: a6 :: o :: t) (.ref x :: st) := z_astore (i := 7) hd (by simp only [List.length_cons]; omega) hk hq k
theorem zn_iinc7 {a0 a1 a2 a3 a4 a5 a6 : Option Value} {t : List (Option Value)} {x d : Nat} (hd : decode (mB M) pc = .ok (.iinc 7 (d : Int), 3)) (hq : pc + 3 = q) (hk : zn2 a6 = true) (k : Z M Po kc ks n σ q (a0 :: a1 :: a2 :: a3 :: a4 :: a5 :: a6 :: some (.int (nI (x + d))) :: t) st) : Z M Po kc ks n σ pc (a0 :: a1 :: a2 :: a3 :: a4 :: a5 :: a6 :: some (.int (nI x)) :: t) st := z_iinc (i := 7) hd rfl (show nI x + Int32.ofInt (d : Int) = nI (x + d) from nI_add x d) (by simp only [List.length_cons]; omega) hk hq k
theorem z_ild8 {a0 a1 a2 a3 a4 a5 a6 a7 : Option Value} {t : List (Option Value)} {x : Int32} (hd : decode (mB M) pc = .ok (.iload 8, 2)) (hq : pc + 2 = q) (k : Z M Po kc ks n σ q (a0 :: a1 :: a2 :: a3 :: a4 :: a5 :: a6 :: a7 :: some (.int x) :: t) (.int x :: st)) : Z M Po kc ks n σ pc (a0 :: a1 :: a2 :: a3 :: a4 :: a5 :: a6 :: a7 :: some (.int x) :: t) st := z_iload (i := 8) hd rfl hq k
theorem z_ist8 {a0 a1 a2 a3 a4 a5 a6 a7 : Option Value} {o : Option Value} {t : List (Option Value)} {x : Int32} (hd : decode (mB M) pc = .ok (.istore 8, 2)) (hq : pc + 2 = q) (hk : zn2 a7 = true) (k : Z M Po kc ks n σ q (a0 :: a1 :: a2 :: a3 :: a4 :: a5 :: a6 :: a7 :: some (.int x) :: t) st) : Z M Po kc ks n σ pc (a0 :: a1 :: a2 :: a3 :: a4 :: a5 :: a6 :: a7 :: o :: t) (.int x :: st) := z_istore (i := 8) hd (by simp only [List.length_cons]; omega) hk hq k
theorem z_lld8 {a0 a1 a2 a3 a4 a5 a6 a7 : Option Value} {t : List (Option Value)} {x : Int64} (hd : decode (mB M) pc = .ok (.lload 8, 2)) (hq : pc + 2 = q) (k : Z M Po kc ks n σ q (a0 :: a1 :: a2 :: a3 :: a4 :: a5 :: a6 :: a7 :: some (.long x) :: t) (.long x :: st)) : Z M Po kc ks n σ pc (a0 :: a1 :: a2 :: a3 :: a4 :: a5 :: a6 :: a7 :: some (.long x) :: t) st := z_lload (i := 8) hd rfl hq k
theorem z_lst8 {a0 a1 a2 a3 a4 a5 a6 a7 : Option Value} {o o2 : Option Value} {t : List (Option Value)} {x : Int64} (hd : decode (mB M) pc = .ok (.lstore 8, 2)) (hq : pc + 2 = q) (hk : zn2 a7 = true) (k : Z M Po kc ks n σ q (a0 :: a1 :: a2 :: a3 :: a4 :: a5 :: a6 :: a7 :: some (.long x) :: none :: t) st) : Z M Po kc ks n σ pc (a0 :: a1 :: a2 :: a3 :: a4 :: a5 :: a6 :: a7 :: o :: o2 :: t) (.long x :: st) := z_lstore (i := 8) hd (by simp only [List.length_cons]; omega) hk hq k
theorem z_ald8 {a0 a1 a2 a3 a4 a5 a6 a7 : Option Value} {t : List (Option Value)} {x : Nat} (hd : decode (mB M) pc = .ok (.aload 8, 2)) (hq : pc + 2 = q) (k : Z M Po kc ks n σ q (a0 :: a1 :: a2 :: a3 :: a4 :: a5 :: a6 :: a7 :: some (.ref x) :: t) (.ref x :: st)) : Z M Po kc ks n σ pc (a0 :: a1 :: a2 :: a3 :: a4 :: a5 :: a6 :: a7 :: some (.ref x) :: t) st := z_aload (i := 8) hd rfl hq k
theorem z_ast8 {a0 a1 a2 a3 a4 a5 a6 a7 : Option Value} {o : Option Value} {t : List (Option Value)} {x : Nat} (hd : decode (mB M) pc = .ok (.astore 8, 2)) (hq : pc + 2 = q) (hk : zn2 a7 = true) (k : Z M Po kc ks n σ q (a0 :: a1 :: a2 :: a3 :: a4 :: a5 :: a6 :: a7 :: some (.ref x) :: t) st) : Z M Po kc ks n σ pc (a0 :: a1 :: a2 :: a3 :: a4 :: a5 :: a6 :: a7 :: o :: t) (.ref x :: st) := z_astore (i := 8) hd (by simp only [List.length_cons]; omega) hk hq k
theorem zn_iinc8 {a0 a1 a2 a3 a4 a5 a6 a7 : Option Value} {t : List (Option Value)} {x d : Nat} (hd : decode (mB M) pc = .ok (.iinc 8 (d : Int), 3)) (hq : pc + 3 = q) (hk : zn2 a7 = true) (k : Z M Po kc ks n σ q (a0 :: a1 :: a2 :: a3 :: a4 :: a5 :: a6 :: a7 :: some (.int (nI (x + d))) :: t) st) : Z M Po kc ks n σ pc (a0 :: a1 :: a2 :: a3 :: a4 :: a5 :: a6 :: a7 :: some (.int (nI x)) :: t) st := z_iinc (i := 8) hd rfl (show nI x + Int32.ofInt (d : Int) = nI (x + d) from nI_add x d) (by simp only [List.length_cons]; omega) hk hq k
theorem z_ild9 {a0 a1 a2 a3 a4 a5 a6 a7 a8 : Option Value} {t : List (Option Value)} {x : Int32} (hd : decode (mB M) pc = .ok (.iload 9, 2)) (hq : pc + 2 = q) (k : Z M Po kc ks n σ q (a0 :: a1 :: a2 :: a3 :: a4 :: a5 :: a6 :: a7 :: a8 :: some (.int x) :: t) (.int x :: st)) : Z M Po kc ks n σ pc (a0 :: a1 :: a2 :: a3 :: a4 :: a5 :: a6 :: a7 :: a8 :: some (.int x) :: t) st := z_iload (i := 9) hd rfl hq k
theorem z_ist9 {a0 a1 a2 a3 a4 a5 a6 a7 a8 : Option Value} {o : Option Value} {t : List (Option Value)} {x : Int32} (hd : decode (mB M) pc = .ok (.istore 9, 2)) (hq : pc + 2 = q) (hk : zn2 a8 = true) (k : Z M Po kc ks n σ q (a0 :: a1 :: a2 :: a3 :: a4 :: a5 :: a6 :: a7 :: a8 :: some (.int x) :: t) st) : Z M Po kc ks n σ pc (a0 :: a1 :: a2 :: a3 :: a4 :: a5 :: a6 :: a7 :: a8 :: o :: t) (.int x :: st) := z_istore (i := 9) hd (by simp only [List.length_cons]; omega) hk hq k
theorem z_lld9 {a0 a1 a2 a3 a4 a5 a6 a7 a8 : Option Value} {t : List (Option Value)} {x : Int64} (hd : decode (mB M) pc = .ok (.lload 9, 2)) (hq : pc + 2 = q) (k : Z M Po kc ks n σ q (a0 :: a1 :: a2 :: a3 :: a4 :: a5 :: a6 :: a7 :: a8 :: some (.long x) :: t) (.long x :: st)) : Z M Po kc ks n σ pc (a0 :: a1 :: a2 :: a3 :: a4 :: a5 :: a6 :: a7 :: a8 :: some (.long x) :: t) st := z_lload (i := 9) hd rfl hq k
theorem z_lst9 {a0 a1 a2 a3 a4 a5 a6 a7 a8 : Option Value} {o o2 : Option Value} {t : List (Option Value)} {x : Int64} (hd : decode (mB M) pc = .ok (.lstore 9, 2)) (hq : pc + 2 = q) (hk : zn2 a8 = true) (k : Z M Po kc ks n σ q (a0 :: a1 :: a2 :: a3 :: a4 :: a5 :: a6 :: a7 :: a8 :: some (.long x) :: none :: t) st) : Z M Po kc ks n σ pc (a0 :: a1 :: a2 :: a3 :: a4 :: a5 :: a6 :: a7 :: a8 :: o :: o2 :: t) (.long x :: st) := z_lstore (i := 9) hd (by simp only [List.length_cons]; omega) hk hq k
theorem z_ald9 {a0 a1 a2 a3 a4 a5 a6 a7 a8 : Option Value} {t : List (Option Value)} {x : Nat} (hd : decode (mB M) pc = .ok (.aload 9, 2)) (hq : pc + 2 = q) (k : Z M Po kc ks n σ q (a0 :: a1 :: a2 :: a3 :: a4 :: a5 :: a6 :: a7 :: a8 :: some (.ref x) :: t) (.ref x :: st)) : Z M Po kc ks n σ pc (a0 :: a1 :: a2 :: a3 :: a4 :: a5 :: a6 :: a7 :: a8 :: some (.ref x) :: t) st := z_aload (i := 9) hd rfl hq k
theorem z_ast9 {a0 a1 a2 a3 a4 a5 a6 a7 a8 : Option Value} {o : Option Value} {t : List (Option Value)} {x : Nat} (hd : decode (mB M) pc = .ok (.astore 9, 2)) (hq : pc + 2 = q) (hk : zn2 a8 = true) (k : Z M Po kc ks n σ q (a0 :: a1 :: a2 :: a3 :: a4 :: a5 :: a6 :: a7 :: a8 :: some (.ref x) :: t) st) : Z M Po kc ks n σ pc (a0 :: a1 :: a2 :: a3 :: a4 :: a5 :: a6 :: a7 :: a8 :: o :: t) (.ref x :: st) := z_astore (i := 9) hd (by simp only [List.length_cons]; omega) hk hq k
theorem zn_iinc9 {a0 a1 a2 a3 a4 a5 a6 a7 a8 : Option Value} {t : List (Option Value)} {x d : Nat} (hd : decode (mB M) pc = .ok (.iinc 9 (d : Int), 3)) (hq : pc + 3 = q) (hk : zn2 a8 = true) (k : Z M Po kc ks n σ q (a0 :: a1 :: a2 :: a3 :: a4 :: a5 :: a6 :: a7 :: a8 :: some (.int (nI (x + d))) :: t) st) : Z M Po kc ks n σ pc (a0 :: a1 :: a2 :: a3 :: a4 :: a5 :: a6 :: a7 :: a8 :: some (.int (nI x)) :: t) st := z_iinc (i := 9) hd rfl (show nI x + Int32.ofInt (d : Int) = nI (x + d) from nI_add x d) (by simp only [List.length_cons]; omega) hk hq k
theorem z_ild10 {a0 a1 a2 a3 a4 a5 a6 a7 a8 a9 : Option Value} {t : List (Option Value)} {x : Int32} (hd : decode (mB M) pc = .ok (.iload 10, 2)) (hq : pc + 2 = q) (k : Z M Po kc ks n σ q (a0 :: a1 :: a2 :: a3 :: a4 :: a5 :: a6 :: a7 :: a8 :: a9 :: some (.int x) :: t) (.int x :: st)) : Z M Po kc ks n σ pc (a0 :: a1 :: a2 :: a3 :: a4 :: a5 :: a6 :: a7 :: a8 :: a9 :: some (.int x) :: t) st := z_iload (i := 10) hd rfl hq k
theorem z_ist10 {a0 a1 a2 a3 a4 a5 a6 a7 a8 a9 : Option Value} {o : Option Value} {t : List (Option Value)} {x : Int32} (hd : decode (mB M) pc = .ok (.istore 10, 2)) (hq : pc + 2 = q) (hk : zn2 a9 = true) (k : Z M Po kc ks n σ q (a0 :: a1 :: a2 :: a3 :: a4 :: a5 :: a6 :: a7 :: a8 :: a9 :: some (.int x) :: t) st) : Z M Po kc ks n σ pc (a0 :: a1 :: a2 :: a3 :: a4 :: a5 :: a6 :: a7 :: a8 :: a9 :: o :: t) (.int x :: st) := z_istore (i := 10) hd (by simp only [List.length_cons]; omega) hk hq k
theorem z_lld10 {a0 a1 a2 a3 a4 a5 a6 a7 a8 a9 : Option Value} {t : List (Option Value)} {x : Int64} (hd : decode (mB M) pc = .ok (.lload 10, 2)) (hq : pc + 2 = q) (k : Z M Po kc ks n σ q (a0 :: a1 :: a2 :: a3 :: a4 :: a5 :: a6 :: a7 :: a8 :: a9 :: some (.long x) :: t) (.long x :: st)) : Z M Po kc ks n σ pc (a0 :: a1 :: a2 :: a3 :: a4 :: a5 :: a6 :: a7 :: a8 :: a9 :: some (.long x) :: t) st := z_lload (i := 10) hd rfl hq k
theorem z_lst10 {a0 a1 a2 a3 a4 a5 a6 a7 a8 a9 : Option Value} {o o2 : Option Value} {t : List (Option Value)} {x : Int64} (hd : decode (mB M) pc = .ok (.lstore 10, 2)) (hq : pc + 2 = q) (hk : zn2 a9 = true) (k : Z M Po kc ks n σ q (a0 :: a1 :: a2 :: a3 :: a4 :: a5 :: a6 :: a7 :: a8 :: a9 :: some (.long x) :: none :: t) st) : Z M Po kc ks n σ pc (a0 :: a1 :: a2 :: a3 :: a4 :: a5 :: a6 :: a7 :: a8 :: a9 :: o :: o2 :: t) (.long x :: st) := z_lstore (i := 10) hd (by simp only [List.length_cons]; omega) hk hq k
theorem z_ald10 {a0 a1 a2 a3 a4 a5 a6 a7 a8 a9 : Option Value} {t : List (Option Value)} {x : Nat} (hd : decode (mB M) pc = .ok (.aload 10, 2)) (hq : pc + 2 = q) (k : Z M Po kc ks n σ q (a0 :: a1 :: a2 :: a3 :: a4 :: a5 :: a6 :: a7 :: a8 :: a9 :: some (.ref x) :: t) (.ref x :: st)) : Z M Po kc ks n σ pc (a0 :: a1 :: a2 :: a3 :: a4 :: a5 :: a6 :: a7 :: a8 :: a9 :: some (.ref x) :: t) st := z_aload (i := 10) hd rfl hq k
theorem z_ast10 {a0 a1 a2 a3 a4 a5 a6 a7 a8 a9 : Option Value} {o : Option Value} {t : List (Option Value)} {x : Nat} (hd : decode (mB M) pc = .ok (.astore 10, 2)) (hq : pc + 2 = q) (hk : zn2 a9 = true) (k : Z M Po kc ks n σ q (a0 :: a1 :: a2 :: a3 :: a4 :: a5 :: a6 :: a7 :: a8 :: a9 :: some (.ref x) :: t) st) : Z M Po kc ks n σ pc (a0 :: a1 :: a2 :: a3 :: a4 :: a5 :: a6 :: a7 :: a8 :: a9 :: o :: t) (.ref x :: st) := z_astore (i := 10) hd (by simp only [List.length_cons]; omega) hk hq k
theorem zn_iinc10 {a0 a1 a2 a3 a4 a5 a6 a7 a8 a9 : Option Value} {t : List (Option Value)} {x d : Nat} (hd : decode (mB M) pc = .ok (.iinc 10 (d : Int), 3)) (hq : pc + 3 = q) (hk : zn2 a9 = true) (k : Z M Po kc ks n σ q (a0 :: a1 :: a2 :: a3 :: a4 :: a5 :: a6 :: a7 :: a8 :: a9 :: some (.int (nI (x + d))) :: t) st) : Z M Po kc ks n σ pc (a0 :: a1 :: a2 :: a3 :: a4 :: a5 :: a6 :: a7 :: a8 :: a9 :: some (.int (nI x)) :: t) st := z_iinc (i := 10) hd rfl (show nI x + Int32.ofInt (d : Int) = nI (x + d) from nI_add x d) (by simp only [List.length_cons]; omega) hk hq k
theorem z_ild11 {a0 a1 a2 a3 a4 a5 a6 a7 a8 a9 a10 : Option Value} {t : List (Option Value)} {x : Int32} (hd : decode (mB M) pc = .ok (.iload 11, 2)) (hq : pc + 2 = q) (k : Z M Po kc ks n σ q (a0 :: a1 :: a2 :: a3 :: a4 :: a5 :: a6 :: a7 :: a8 :: a9 :: a10 :: some (.int x) :: t) (.int x :: st)) : Z M Po kc ks n σ pc (a0 :: a1 :: a2 :: a3 :: a4 :: a5 :: a6 :: a7 :: a8 :: a9 :: a10 :: some (.int x) :: t) st := z_iload (i := 11) hd rfl hq k
theorem z_ist11 {a0 a1 a2 a3 a4 a5 a6 a7 a8 a9 a10 : Option Value} {o : Option Value} {t : List (Option Value)} {x : Int32} (hd : decode (mB M) pc = .ok (.istore 11, 2)) (hq : pc + 2 = q) (hk : zn2 a10 = true) (k : Z M Po kc ks n σ q (a0 :: a1 :: a2 :: a3 :: a4 :: a5 :: a6 :: a7 :: a8 :: a9 :: a10 :: some (.int x) :: t) st) : Z M Po kc ks n σ pc (a0 :: a1 :: a2 :: a3 :: a4 :: a5 :: a6 :: a7 :: a8 :: a9 :: a10 :: o :: t) (.int x :: st) := z_istore (i := 11) hd (by simp only [List.length_cons]; omega) hk hq k
theorem z_lld11 {a0 a1 a2 a3 a4 a5 a6 a7 a8 a9 a10 : Option Value} {t : List (Option Value)} {x : Int64} (hd : decode (mB M) pc = .ok (.lload 11, 2)) (hq : pc + 2 = q) (k : Z M Po kc ks n σ q (a0 :: a1 :: a2 :: a3 :: a4 :: a5 :: a6 :: a7 :: a8 :: a9 :: a10 :: some (.long x) :: t) (.long x :: st)) : Z M Po kc ks n σ pc (a0 :: a1 :: a2 :: a3 :: a4 :: a5 :: a6 :: a7 :: a8 :: a9 :: a10 :: some (.long x) :: t) st := z_lload (i := 11) hd rfl hq k
theorem z_lst11 {a0 a1 a2 a3 a4 a5 a6 a7 a8 a9 a10 : Option Value} {o o2 : Option Value} {t : List (Option Value)} {x : Int64} (hd : decode (mB M) pc = .ok (.lstore 11, 2)) (hq : pc + 2 = q) (hk : zn2 a10 = true) (k : Z M Po kc ks n σ q (a0 :: a1 :: a2 :: a3 :: a4 :: a5 :: a6 :: a7 :: a8 :: a9 :: a10 :: some (.long x) :: none :: t) st) : Z M Po kc ks n σ pc (a0 :: a1 :: a2 :: a3 :: a4 :: a5 :: a6 :: a7 :: a8 :: a9 :: a10 :: o :: o2 :: t) (.long x :: st) := z_lstore (i := 11) hd (by simp only [List.length_cons]; omega) hk hq k
theorem z_ald11 {a0 a1 a2 a3 a4 a5 a6 a7 a8 a9 a10 : Option Value} {t : List (Option Value)} {x : Nat} (hd : decode (mB M) pc = .ok (.aload 11, 2)) (hq : pc + 2 = q) (k : Z M Po kc ks n σ q (a0 :: a1 :: a2 :: a3 :: a4 :: a5 :: a6 :: a7 :: a8 :: a9 :: a10 :: some (.ref x) :: t) (.ref x :: st)) : Z M Po kc ks n σ pc (a0 :: a1 :: a2 :: a3 :: a4 :: a5 :: a6 :: a7 :: a8 :: a9 :: a10 :: some (.ref x) :: t) st := z_aload (i := 11) hd rfl hq k
theorem z_ast11 {a0 a1 a2 a3 a4 a5 a6 a7 a8 a9 a10 : Option Value} {o : Option Value} {t : List (Option Value)} {x : Nat} (hd : decode (mB M) pc = .ok (.astore 11, 2)) (hq : pc + 2 = q) (hk : zn2 a10 = true) (k : Z M Po kc ks n σ q (a0 :: a1 :: a2 :: a3 :: a4 :: a5 :: a6 :: a7 :: a8 :: a9 :: a10 :: some (.ref x) :: t) st) : Z M Po kc ks n σ pc (a0 :: a1 :: a2 :: a3 :: a4 :: a5 :: a6 :: a7 :: a8 :: a9 :: a10 :: o :: t) (.ref x :: st) := z_astore (i := 11) hd (by simp only [List.length_cons]; omega) hk hq k
theorem zn_iinc11 {a0 a1 a2 a3 a4 a5 a6 a7 a8 a9 a10 : Option Value} {t : List (Option Value)} {x d : Nat} (hd : decode (mB M) pc = .ok (.iinc 11 (d : Int), 3)) (hq : pc + 3 = q) (hk : zn2 a10 = true) (k : Z M Po kc ks n σ q (a0 :: a1 :: a2 :: a3 :: a4 :: a5 :: a6 :: a7 :: a8 :: a9 :: a10 :: some (.int (nI (x + d))) :: t) st) : Z M Po kc ks n σ pc (a0 :: a1 :: a2 :: a3 :: a4 :: a5 :: a6 :: a7 :: a8 :: a9 :: a10 :: some (.int (nI x)) :: t) st := z_iinc (i := 11) hd rfl (show nI x + Int32.ofInt (d : Int) = nI (x + d) from nI_add x d) (by simp only [List.length_cons]; omega) hk hq k
theorem z_ild12 {a0 a1 a2 a3 a4 a5 a6 a7 a8 a9 a10 a11 : Option Value} {t : List (Option Value)} {x : Int32} (hd : decode (mB M) pc = .ok (.iload 12, 2)) (hq : pc + 2 = q) (k : Z M Po kc ks n σ q (a0 :: a1 :: a2 :: a3 :: a4 :: a5 :: a6 :: a7 :: a8 :: a9 :: a10 :: a11 :: some (.int x) :: t) (.int x :: st)) : Z M Po kc ks n σ pc (a0 :: a1 :: a2 :: a3 :: a4 :: a5 :: a6 :: a7 :: a8 :: a9 :: a10 :: a11 :: some (.int x) :: t) st := z_iload (i := 12) hd rfl hq k
theorem z_ist12 {a0 a1 a2 a3 a4 a5 a6 a7 a8 a9 a10 a11 : Option Value} {o : Option Value} {t : List (Option Value)} {x : Int32} (hd : decode (mB M) pc = .ok (.istore 12, 2)) (hq : pc + 2 = q) (hk : zn2 a11 = true) (k : Z M Po kc ks n σ q (a0 :: a1 :: a2 :: a3 :: a4 :: a5 :: a6 :: a7 :: a8 :: a9 :: a10 :: a11 :: some (.int x) :: t) st) : Z M Po kc ks n σ pc (a0 :: a1 :: a2 :: a3 :: a4 :: a5 :: a6 :: a7 :: a8 :: a9 :: a10 :: a11 :: o :: t) (.int x :: st) := z_istore (i := 12) hd (by simp only [List.length_cons]; omega) hk hq k
theorem z_lld12 {a0 a1 a2 a3 a4 a5 a6 a7 a8 a9 a10 a11 : Option Value} {t : List (Option Value)} {x : Int64} (hd : decode (mB M) pc = .ok (.lload 12, 2)) (hq : pc + 2 = q) (k : Z M Po kc ks n σ q (a0 :: a1 :: a2 :: a3 :: a4 :: a5 :: a6 :: a7 :: a8 :: a9 :: a10 :: a11 :: some (.long x) :: t) (.long x :: st)) : Z M Po kc ks n σ pc (a0 :: a1 :: a2 :: a3 :: a4 :: a5 :: a6 :: a7 :: a8 :: a9 :: a10 :: a11 :: some (.long x) :: t) st := z_lload (i := 12) hd rfl hq k
theorem z_lst12 {a0 a1 a2 a3 a4 a5 a6 a7 a8 a9 a10 a11 : Option Value} {o o2 : Option Value} {t : List (Option Value)} {x : Int64} (hd : decode (mB M) pc = .ok (.lstore 12, 2)) (hq : pc + 2 = q) (hk : zn2 a11 = true) (k : Z M Po kc ks n σ q (a0 :: a1 :: a2 :: a3 :: a4 :: a5 :: a6 :: a7 :: a8 :: a9 :: a10 :: a11 :: some (.long x) :: none :: t) st) : Z M Po kc ks n σ pc (a0 :: a1 :: a2 :: a3 :: a4 :: a5 :: a6 :: a7 :: a8 :: a9 :: a10 :: a11 :: o :: o2 :: t) (.long x :: st) := z_lstore (i := 12) hd (by simp only [List.length_cons]; omega) hk hq k
theorem z_ald12 {a0 a1 a2 a3 a4 a5 a6 a7 a8 a9 a10 a11 : Option Value} {t : List (Option Value)} {x : Nat} (hd : decode (mB M) pc = .ok (.aload 12, 2)) (hq : pc + 2 = q) (k : Z M Po kc ks n σ q (a0 :: a1 :: a2 :: a3 :: a4 :: a5 :: a6 :: a7 :: a8 :: a9 :: a10 :: a11 :: some (.ref x) :: t) (.ref x :: st)) : Z M Po kc ks n σ pc (a0 :: a1 :: a2 :: a3 :: a4 :: a5 :: a6 :: a7 :: a8 :: a9 :: a10 :: a11 :: some (.ref x) :: t) st := z_aload (i := 12) hd rfl hq k
theorem z_ast12 {a0 a1 a2 a3 a4 a5 a6 a7 a8 a9 a10 a11 : Option Value} {o : Option Value} {t : List (Option Value)} {x : Nat} (hd : decode (mB M) pc = .ok (.astore 12, 2)) (hq : pc + 2 = q) (hk : zn2 a11 = true) (k : Z M Po kc ks n σ q (a0 :: a1 :: a2 :: a3 :: a4 :: a5 :: a6 :: a7 :: a8 :: a9 :: a10 :: a11 :: some (.ref x) :: t) st) : Z M Po kc ks n σ pc (a0 :: a1 :: a2 :: a3 :: a4 :: a5 :: a6 :: a7 :: a8 :: a9 :: a10 :: a11 :: o :: t) (.ref x :: st) := z_astore (i := 12) hd (by simp only [List.length_cons]; omega) hk hq k
theorem zn_iinc12 {a0 a1 a2 a3 a4 a5 a6 a7 a8 a9 a10 a11 : Option Value} {t : List (Option Value)} {x d : Nat} (hd : decode (mB M) pc = .ok (.iinc 12 (d : Int), 3)) (hq : pc + 3 = q) (hk : zn2 a11 = true) (k : Z M Po kc ks n σ q (a0 :: a1 :: a2 :: a3 :: a4 :: a5 :: a6 :: a7 :: a8 :: a9 :: a10 :: a11 :: some (.int (nI (x + d))) :: t) st) : Z M Po kc ks n σ pc (a0 :: a1 :: a2 :: a3 :: a4 :: a5 :: a6 :: a7 :: a8 :: a9 :: a10 :: a11 :: some (.int (nI x)) :: t) st := z_iinc (i := 12) hd rfl (show nI x + Int32.ofInt (d : Int) = nI (x + d) from nI_add x d) (by simp only [List.length_cons]; omega) hk hq k
theorem z_ild13 {a0 a1 a2 a3 a4 a5 a6 a7 a8 a9 a10 a11 a12 : Option Value} {t : List (Option Value)} {x : Int32} (hd : decode (mB M) pc = .ok (.iload 13, 2)) (hq : pc + 2 = q) (k : Z M Po kc ks n σ q (a0 :: a1 :: a2 :: a3 :: a4 :: a5 :: a6 :: a7 :: a8 :: a9 :: a10 :: a11 :: a12 :: some (.int x) :: t) (.int x :: st)) : Z M Po kc ks n σ pc (a0 :: a1 :: a2 :: a3 :: a4 :: a5 :: a6 :: a7 :: a8 :: a9 :: a10 :: a11 :: a12 :: some (.int x) :: t) st := z_iload (i := 13) hd rfl hq k
theorem z_ist13 {a0 a1 a2 a3 a4 a5 a6 a7 a8 a9 a10 a11 a12 : Option Value} {o : Option Value} {t : List (Option Value)} {x : Int32} (hd : decode (mB M) pc = .ok (.istore 13, 2)) (hq : pc + 2 = q) (hk : zn2 a12 = true) (k : Z M Po kc ks n σ q (a0 :: a1 :: a2 :: a3 :: a4 :: a5 :: a6 :: a7 :: a8 :: a9 :: a10 :: a11 :: a12 :: some (.int x) :: t) st) : Z M Po kc ks n σ pc (a0 :: a1 :: a2 :: a3 :: a4 :: a5 :: a6 :: a7 :: a8 :: a9 :: a10 :: a11 :: a12 :: o :: t) (.int x :: st) := z_istore (i := 13) hd (by simp only [List.length_cons]; omega) hk hq k
theorem z_lld13 {a0 a1 a2 a3 a4 a5 a6 a7 a8 a9 a10 a11 a12 : Option Value} {t : List (Option Value)} {x : Int64} (hd : decode (mB M) pc = .ok (.lload 13, 2)) (hq : pc + 2 = q) (k : Z M Po kc ks n σ q (a0 :: a1 :: a2 :: a3 :: a4 :: a5 :: a6 :: a7 :: a8 :: a9 :: a10 :: a11 :: a12 :: some (.long x) :: t) (.long x :: st)) : Z M Po kc ks n σ pc (a0 :: a1 :: a2 :: a3 :: a4 :: a5 :: a6 :: a7 :: a8 :: a9 :: a10 :: a11 :: a12 :: some (.long x) :: t) st := z_lload (i := 13) hd rfl hq k
theorem z_lst13 {a0 a1 a2 a3 a4 a5 a6 a7 a8 a9 a10 a11 a12 : Option Value} {o o2 : Option Value} {t : List (Option Value)} {x : Int64} (hd : decode (mB M) pc = .ok (.lstore 13, 2)) (hq : pc + 2 = q) (hk : zn2 a12 = true) (k : Z M Po kc ks n σ q (a0 :: a1 :: a2 :: a3 :: a4 :: a5 :: a6 :: a7 :: a8 :: a9 :: a10 :: a11 :: a12 :: some (.long x) :: none :: t) st) : Z M Po kc ks n σ pc (a0 :: a1 :: a2 :: a3 :: a4 :: a5 :: a6 :: a7 :: a8 :: a9 :: a10 :: a11 :: a12 :: o :: o2 :: t) (.long x :: st) := z_lstore (i := 13) hd (by simp only [List.length_cons]; omega) hk hq k
theorem z_ald13 {a0 a1 a2 a3 a4 a5 a6 a7 a8 a9 a10 a11 a12 : Option Value} {t : List (Option Value)} {x : Nat} (hd : decode (mB M) pc = .ok (.aload 13, 2)) (hq : pc + 2 = q) (k : Z M Po kc ks n σ q (a0 :: a1 :: a2 :: a3 :: a4 :: a5 :: a6 :: a7 :: a8 :: a9 :: a10 :: a11 :: a12 :: some (.ref x) :: t) (.ref x :: st)) : Z M Po kc ks n σ pc (a0 :: a1 :: a2 :: a3 :: a4 :: a5 :: a6 :: a7 :: a8 :: a9 :: a10 :: a11 :: a12 :: some (.ref x) :: t) st := z_aload (i := 13) hd rfl hq k
theorem z_ast13 {a0 a1 a2 a3 a4 a5 a6 a7 a8 a9 a10 a11 a12 : Option Value} {o : Option Value} {t : List (Option Value)} {x : Nat} (hd : decode (mB M) pc = .ok (.astore 13, 2)) (hq : pc + 2 = q) (hk : zn2 a12 = true) (k : Z M Po kc ks n σ q (a0 :: a1 :: a2 :: a3 :: a4 :: a5 :: a6 :: a7 :: a8 :: a9 :: a10 :: a11 :: a12 :: some (.ref x) :: t) st) : Z M Po kc ks n σ pc (a0 :: a1 :: a2 :: a3 :: a4 :: a5 :: a6 :: a7 :: a8 :: a9 :: a10 :: a11 :: a12 :: o :: t) (.ref x :: st) := z_astore (i := 13) hd (by simp only [List.length_cons]; omega) hk hq k
theorem zn_iinc13 {a0 a1 a2 a3 a4 a5 a6 a7 a8 a9 a10 a11 a12 : Option Value} {t : List (Option Value)} {x d : Nat} (hd : decode (mB M) pc = .ok (.iinc 13 (d : Int), 3)) (hq : pc + 3 = q) (hk : zn2 a12 = true) (k : Z M Po kc ks n σ q (a0 :: a1 :: a2 :: a3 :: a4 :: a5 :: a6 :: a7 :: a8 :: a9 :: a10 :: a11 :: a12 :: some (.int (nI (x + d))) :: t) st) : Z M Po kc ks n σ pc (a0 :: a1 :: a2 :: a3 :: a4 :: a5 :: a6 :: a7 :: a8 :: a9 :: a10 :: a11 :: a12 :: some (.int (nI x)) :: t) st := z_iinc (i := 13) hd rfl (show nI x + Int32.ofInt (d : Int) = nI (x + d) from nI_add x d) (by simp only [List.length_cons]; omega) hk hq k
theorem z_ild14 {a0 a1 a2 a3 a4 a5 a6 a7 a8 a9 a10 a11 a12 a13 : Option Value} {t : List (Option Value)} {x : Int32} (hd : decode (mB M) pc = .ok (.iload 14, 2)) (hq : pc + 2 = q) (k : Z M Po kc ks n σ q (a0 :: a1 :: a2 :: a3 :: a4 :: a5 :: a6 :: a7 :: a8 :: a9 :: a10 :: a11 :: a12 :: a13 :: some (.int x) :: t) (.int x :: st)) : Z M Po kc ks n σ pc (a0 :: a1 :: a2 :: a3 :: a4 :: a5 :: a6 :: a7 :: a8 :: a9 :: a10 :: a11 :: a12 :: a13 :: some (.int x) :: t) st := z_iload (i := 14) hd rfl hq k
theorem z_ist14 {a0 a1 a2 a3 a4 a5 a6 a7 a8 a9 a10 a11 a12 a13 : Option Value} {o : Option Value} {t : List (Option Value)} {x : Int32} (hd : decode (mB M) pc = .ok (.istore 14, 2)) (hq : pc + 2 = q) (hk : zn2 a13 = true) (k : Z M Po kc ks n σ q (a0 :: a1 :: a2 :: a3 :: a4 :: a5 :: a6 :: a7 :: a8 :: a9 :: a10 :: a11 :: a12 :: a13 :: some (.int x) :: t) st) : Z M Po kc ks n σ pc (a0 :: a1 :: a2 :: a3 :: a4 :: a5 :: a6 :: a7 :: a8 :: a9 :: a10 :: a11 :: a12 :: a13 :: o :: t) (.int x :: st) := z_istore (i := 14) hd (by simp only [List.length_cons]; omega) hk hq k
theorem z_lld14 {a0 a1 a2 a3 a4 a5 a6 a7 a8 a9 a10 a11 a12 a13 : Option Value} {t : List (Option Value)} {x : Int64} (hd : decode (mB M) pc = .ok (.lload 14, 2)) (hq : pc + 2 = q) (k : Z M Po kc ks n σ q (a0 :: a1 :: a2 :: a3 :: a4 :: a5 :: a6 :: a7 :: a8 :: a9 :: a10 :: a11 :: a12 :: a13 :: some (.long x) :: t) (.long x :: st)) : Z M Po kc ks n σ pc (a0 :: a1 :: a2 :: a3 :: a4 :: a5 :: a6 :: a7 :: a8 :: a9 :: a10 :: a11 :: a12 :: a13 :: some (.long x) :: t) st := z_lload (i := 14) hd rfl hq k
theorem z_lst14 {a0 a1 a2 a3 a4 a5 a6 a7 a8 a9 a10 a11 a12 a13 : Option Value} {o o2 : Option Value} {t : List (Option Value)} {x : Int64} (hd : decode (mB M) pc = .ok (.lstore 14, 2)) (hq : pc + 2 = q) (hk : zn2 a13 = true) (k : Z M Po kc ks n σ q (a0 :: a1 :: a2 :: a3 :: a4 :: a5 :: a6 :: a7 :: a8 :: a9 :: a10 :: a11 :: a12 :: a13 :: some (.long x) :: none :: t) st) : Z M Po kc ks n σ pc (a0 :: a1 :: a2 :: a3 :: a4 :: a5 :: a6 :: a7 :: a8 :: a9 :: a10 :: a11 :: a12 :: a13 :: o :: o2 :: t) (.long x :: st) := z_lstore (i := 14) hd (by simp only [List.length_cons]; omega) hk hq k
theorem z_ald14 {a0 a1 a2 a3 a4 a5 a6 a7 a8 a9 a10 a11 a12 a13 : Option Value} {t : List (Option Value)} {x : Nat} (hd : decode (mB M) pc = .ok (.aload 14, 2)) (hq : pc + 2 = q) (k : Z M Po kc ks n σ q (a0 :: a1 :: a2 :: a3 :: a4 :: a5 :: a6 :: a7 :: a8 :: a9 :: a10 :: a11 :: a12 :: a13 :: some (.ref x) :: t) (.ref x :: st)) : Z M Po kc ks n σ pc (a0 :: a1 :: a2 :: a3 :: a4 :: a5 :: a6 :: a7 :: a8 :: a9 :: a10 :: a11 :: a12 :: a13 :: some (.ref x) :: t) st := z_aload (i := 14) hd rfl hq k
theorem z_ast14 {a0 a1 a2 a3 a4 a5 a6 a7 a8 a9 a10 a11 a12 a13 : Option Value} {o : Option Value} {t : List (Option Value)} {x : Nat} (hd : decode (mB M) pc = .ok (.astore 14, 2)) (hq : pc + 2 = q) (hk : zn2 a13 = true) (k : Z M Po kc ks n σ q (a0 :: a1 :: a2 :: a3 :: a4 :: a5 :: a6 :: a7 :: a8 :: a9 :: a10 :: a11 :: a12 :: a13 :: some (.ref x) :: t) st) : Z M Po kc ks n σ pc (a0 :: a1 :: a2 :: a3 :: a4 :: a5 :: a6 :: a7 :: a8 :: a9 :: a10 :: a11 :: a12 :: a13 :: o :: t) (.ref x :: st) := z_astore (i := 14) hd (by simp only [List.length_cons]; omega) hk hq k
theorem zn_iinc14 {a0 a1 a2 a3 a4 a5 a6 a7 a8 a9 a10 a11 a12 a13 : Option Value} {t : List (Option Value)} {x d : Nat} (hd : decode (mB M) pc = .ok (.iinc 14 (d : Int), 3)) (hq : pc + 3 = q) (hk : zn2 a13 = true) (k : Z M Po kc ks n σ q (a0 :: a1 :: a2 :: a3 :: a4 :: a5 :: a6 :: a7 :: a8 :: a9 :: a10 :: a11 :: a12 :: a13 :: some (.int (nI (x + d))) :: t) st) : Z M Po kc ks n σ pc (a0 :: a1 :: a2 :: a3 :: a4 :: a5 :: a6 :: a7 :: a8 :: a9 :: a10 :: a11 :: a12 :: a13 :: some (.int (nI x)) :: t) st := z_iinc (i := 14) hd rfl (show nI x + Int32.ofInt (d : Int) = nI (x + d) from nI_add x d) (by simp only [List.length_cons]; omega) hk hq k
theorem z_ild15 {a0 a1 a2 a3 a4 a5 a6 a7 a8 a9 a10 a11 a12 a13 a14 : Option Value} {t : List (Option Value)} {x : Int32} (hd : decode (mB M) pc = .ok (.iload 15, 2)) (hq : pc + 2 = q) (k : Z M Po kc ks n σ q (a0 :: a1 :: a2 :: a3 :: a4 :: a5 :: a6 :: a7 :: a8 :: a9 :: a10 :: a11 :: a12 :: a13 :: a14 :: some (.int x) :: t) (.int x :: st)) : Z M Po kc ks n σ pc (a0 :: a1 :: a2 :: a3 :: a4 :: a5 :: a6 :: a7 :: a8 :: a9 :: a10 :: a11 :: a12 :: a13 :: a14 :: some (.int x) :: t) st := z_iload (i := 15) hd rfl hq k
theorem z_ist15 {a0 a1 a2 a3 a4 a5 a6 a7 a8 a9 a10 a11 a12 a13 a14 : Option Value} {o : Option Value} {t : List (Option Value)} {x : Int32} (hd : decode (mB M) pc = .ok (.istore 15, 2)) (hq : pc + 2 = q) (hk : zn2 a14 = true) (k : Z M Po kc ks n σ q (a0 :: a1 :: a2 :: a3 :: a4 :: a5 :: a6 :: a7 :: a8 :: a9 :: a10 :: a11 :: a12 :: a13 :: a14 :: some (.int x) :: t) st) : Z M Po kc ks n σ pc (a0 :: a1 :: a2 :: a3 :: a4 :: a5 :: a6 :: a7 :: a8 :: a9 :: a10 :: a11 :: a12 :: a13 :: a14 :: o :: t) (.int x :: st) := z_istore (i := 15) hd (by simp only [List.length_cons]; omega) hk hq k
theorem z_lld15 {a0 a1 a2 a3 a4 a5 a6 a7 a8 a9 a10 a11 a12 a13 a14 : Option Value} {t : List (Option Value)} {x : Int64} (hd : decode (mB M) pc = .ok (.lload 15, 2)) (hq : pc + 2 = q) (k : Z M Po kc ks n σ q (a0 :: a1 :: a2 :: a3 :: a4 :: a5 :: a6 :: a7 :: a8 :: a9 :: a10 :: a11 :: a12 :: a13 :: a14 :: some (.long x) :: t) (.long x :: st)) : Z M Po kc ks n σ pc (a0 :: a1 :: a2 :: a3 :: a4 :: a5 :: a6 :: a7 :: a8 :: a9 :: a10 :: a11 :: a12 :: a13 :: a14 :: some (.long x) :: t) st := z_lload (i := 15) hd rfl hq k
theorem z_lst15 {a0 a1 a2 a3 a4 a5 a6 a7 a8 a9 a10 a11 a12 a13 a14 : Option Value} {o o2 : Option Value} {t : List (Option Value)} {x : Int64} (hd : decode (mB M) pc = .ok (.lstore 15, 2)) (hq : pc + 2 = q) (hk : zn2 a14 = true) (k : Z M Po kc ks n σ q (a0 :: a1 :: a2 :: a3 :: a4 :: a5 :: a6 :: a7 :: a8 :: a9 :: a10 :: a11 :: a12 :: a13 :: a14 :: some (.long x) :: none :: t) st) : Z M Po kc ks n σ pc (a0 :: a1 :: a2 :: a3 :: a4 :: a5 :: a6 :: a7 :: a8 :: a9 :: a10 :: a11 :: a12 :: a13 :: a14 :: o :: o2 :: t) (.long x :: st) := z_lstore (i := 15) hd (by simp only [List.length_cons]; omega) hk hq k
theorem z_ald15 {a0 a1 a2 a3 a4 a5 a6 a7 a8 a9 a10 a11 a12 a13 a14 : Option Value} {t : List (Option Value)} {x : Nat} (hd : decode (mB M) pc = .ok (.aload 15, 2)) (hq : pc + 2 = q) (k : Z M Po kc ks n σ q (a0 :: a1 :: a2 :: a3 :: a4 :: a5 :: a6 :: a7 :: a8 :: a9 :: a10 :: a11 :: a12 :: a13 :: a14 :: some (.ref x) :: t) (.ref x :: st)) : Z M Po kc ks n σ pc (a0 :: a1 :: a2 :: a3 :: a4 :: a5 :: a6 :: a7 :: a8 :: a9 :: a10 :: a11 :: a12 :: a13 :: a14 :: some (.ref x) :: t) st := z_aload (i := 15) hd rfl hq k
theorem z_ast15 {a0 a1 a2 a3 a4 a5 a6 a7 a8 a9 a10 a11 a12 a13 a14 : Option Value} {o : Option Value} {t : List (Option Value)} {x : Nat} (hd : decode (mB M) pc = .ok (.astore 15, 2)) (hq : pc + 2 = q) (hk : zn2 a14 = true) (k : Z M Po kc ks n σ q (a0 :: a1 :: a2 :: a3 :: a4 :: a5 :: a6 :: a7 :: a8 :: a9 :: a10 :: a11 :: a12 :: a13 :: a14 :: some (.ref x) :: t) st) : Z M Po kc ks n σ pc (a0 :: a1 :: a2 :: a3 :: a4 :: a5 :: a6 :: a7 :: a8 :: a9 :: a10 :: a11 :: a12 :: a13 :: a14 :: o :: t) (.ref x :: st) := z_astore (i := 15) hd (by simp only [List.length_cons]; omega) hk hq k
theorem zn_iinc15 {a0 a1 a2 a3 a4 a5 a6 a7 a8 a9 a10 a11 a12 a13 a14 : Option Value} {t : List (Option Value)} {x d : Nat} (hd : decode (mB M) pc = .ok (.iinc 15 (d : Int), 3)) (hq : pc + 3 = q) (hk : zn2 a14 = true) (k : Z M Po kc ks n σ q (a0 :: a1 :: a2 :: a3 :: a4 :: a5 :: a6 :: a7 :: a8 :: a9 :: a10 :: a11 :: a12 :: a13 :: a14 :: some (.int (nI (x + d))) :: t) st) : Z M Po kc ks n σ pc (a0 :: a1 :: a2 :: a3 :: a4 :: a5 :: a6 :: a7 :: a8 :: a9 :: a10 :: a11 :: a12 :: a13 :: a14 :: some (.int (nI x)) :: t) st := z_iinc (i := 15) hd rfl (show nI x + Int32.ofInt (d : Int) = nI (x + d) from nI_add x d) (by simp only [List.length_cons]; omega) hk hq k
theorem z_ild16 {a0 a1 a2 a3 a4 a5 a6 a7 a8 a9 a10 a11 a12 a13 a14 a15 : Option Value} {t : List (Option Value)} {x : Int32} (hd : decode (mB M) pc = .ok (.iload 16, 2)) (hq : pc + 2 = q) (k : Z M Po kc ks n σ q (a0 :: a1 :: a2 :: a3 :: a4 :: a5 :: a6 :: a7 :: a8 :: a9 :: a10 :: a11 :: a12 :: a13 :: a14 :: a15 :: some (.int x) :: t) (.int x :: st)) : Z M Po kc ks n σ pc (a0 :: a1 :: a2 :: a3 :: a4 :: a5 :: a6 :: a7 :: a8 :: a9 :: a10 :: a11 :: a12 :: a13 :: a14 :: a15 :: some (.int x) :: t) st := z_iload (i := 16) hd rfl hq k
theorem z_ist16 {a0 a1 a2 a3 a4 a5 a6 a7 a8 a9 a10 a11 a12 a13 a14 a15 : Option Value} {o : Option Value} {t : List (Option Value)} {x : Int32} (hd : decode (mB M) pc = .ok (.istore 16, 2)) (hq : pc + 2 = q) (hk : zn2 a15 = true) (k : Z M Po kc ks n σ q (a0 :: a1 :: a2 :: a3 :: a4 :: a5 :: a6 :: a7 :: a8 :: a9 :: a10 :: a11 :: a12 :: a13 :: a14 :: a15 :: some (.int x) :: t) st) : Z M Po kc ks n σ pc (a0 :: a1 :: a2 :: a3 :: a4 :: a5 :: a6 :: a7 :: a8 :: a9 :: a10 :: a11 :: a12 :: a13 :: a14 :: a15 :: o :: t) (.int x :: st) := z_istore (i := 16) hd (by simp only [List.length_cons]; omega) hk hq k
theorem z_lld16 {a0 a1 a2 a3 a4 a5 a6 a7 a8 a9 a10 a11 a12 a13 a14 a15 : Option Value} {t : List (Option Value)} {x : Int64} (hd : decode (mB M) pc = .ok (.lload 16, 2)) (hq : pc + 2 = q) (k : Z M Po kc ks n σ q (a0 :: a1 :: a2 :: a3 :: a4 :: a5 :: a6 :: a7 :: a8 :: a9 :: a10 :: a11 :: a12 :: a13 :: a14 :: a15 :: some (.long x) :: t) (.long x :: st)) : Z M Po kc ks n σ pc (a0 :: a1 :: a2 :: a3 :: a4 :: a5 :: a6 :: a7 :: a8 :: a9 :: a10 :: a11 :: a12 :: a13 :: a14 :: a15 :: some (.long x) :: t) st := z_lload (i := 16) hd rfl hq k
theorem z_lst16 {a0 a1 a2 a3 a4 a5 a6 a7 a8 a9 a10 a11 a12 a13 a14 a15 : Option Value} {o o2 : Option Value} {t : List (Option Value)} {x : Int64} (hd : decode (mB M) pc = .ok (.lstore 16, 2)) (hq : pc + 2 = q) (hk : zn2 a15 = true) (k : Z M Po kc ks n σ q (a0 :: a1 :: a2 :: a3 :: a4 :: a5 :: a6 :: a7 :: a8 :: a9 :: a10 :: a11 :: a12 :: a13 :: a14 :: a15 :: some (.long x) :: none :: t) st) : Z M Po kc ks n σ pc (a0 :: a1 :: a2 :: a3 :: a4 :: a5 :: a6 :: a7 :: a8 :: a9 :: a10 :: a11 :: a12 :: a13 :: a14 :: a15 :: o :: o2 :: t) (.long x :: st) := z_lstore (i := 16) hd (by simp only [List.length_cons]; omega) hk hq k
theorem z_ald16 {a0 a1 a2 a3 a4 a5 a6 a7 a8 a9 a10 a11 a12 a13 a14 a15 : Option Value} {t : List (Option Value)} {x : Nat} (hd : decode (mB M) pc = .ok (.aload 16, 2)) (hq : pc + 2 = q) (k : Z M Po kc ks n σ q (a0 :: a1 :: a2 :: a3 :: a4 :: a5 :: a6 :: a7 :: a8 :: a9 :: a10 :: a11 :: a12 :: a13 :: a14 :: a15 :: some (.ref x) :: t) (.ref x :: st)) : Z M Po kc ks n σ pc (a0 :: a1 :: a2 :: a3 :: a4 :: a5 :: a6 :: a7 :: a8 :: a9 :: a10 :: a11 :: a12 :: a13 :: a14 :: a15 :: some (.ref x) :: t) st := z_aload (i := 16) hd rfl hq k
theorem z_ast16 {a0 a1 a2 a3 a4 a5 a6 a7 a8 a9 a10 a11 a12 a13 a14 a15 : Option Value} {o : Option Value} {t : List (Option Value)} {x : Nat} (hd : decode (mB M) pc = .ok (.astore 16, 2)) (hq : pc + 2 = q) (hk : zn2 a15 = true) (k : Z M Po kc ks n σ q (a0 :: a1 :: a2 :: a3 :: a4 :: a5 :: a6 :: a7 :: a8 :: a9 :: a10 :: a11 :: a12 :: a13 :: a14 :: a15 :: some (.ref x) :: t) st) : Z M Po kc ks n σ pc (a0 :: a1 :: a2 :: a3 :: a4 :: a5 :: a6 :: a7 :: a8 :: a9 :: a10 :: a11 :: a12 :: a13 :: a14 :: a15 :: o :: t) (.ref x :: st) := z_astore (i := 16) hd (by simp only [List.length_cons]; omega) hk hq k
theorem zn_iinc16 {a0 a1 a2 a3 a4 a5 a6 a7 a8 a9 a10 a11 a12 a13 a14 a15 : Option Value} {t : List (Option Value)} {x d : Nat} (hd : decode (mB M) pc = .ok (.iinc 16 (d : Int), 3)) (hq : pc + 3 = q) (hk : zn2 a15 = true) (k : Z M Po kc ks n σ q (a0 :: a1 :: a2 :: a3 :: a4 :: a5 :: a6 :: a7 :: a8 :: a9 :: a10 :: a11 :: a12 :: a13 :: a14 :: a15 :: some (.int (nI (x + d))) :: t) st) : Z M Po kc ks n σ pc (a0 :: a1 :: a2 :: a3 :: a4 :: a5 :: a6 :: a7 :: a8 :: a9 :: a10 :: a11 :: a12 :: a13 :: a14 :: a15 :: some (.int (nI x)) :: t) st := z_iinc (i := 16) hd rfl (show nI x + Int32.ofInt (d : Int) = nI (x + d) from nI_add x d) (by simp only [List.length_cons]; omega) hk hq k
theorem z_ild17 {a0 a1 a2 a3 a4 a5 a6 a7 a8 a9 a10 a11 a12 a13 a14 a15 a16 : Option Value} {t : List (Option Value)} {x : Int32} (hd : decode (mB M) pc = .ok (.iload 17, 2)) (hq : pc + 2 = q) (k : Z M Po kc ks n σ q (a0 :: a1 :: a2 :: a3 :: a4 :: a5 :: a6 :: a7 :: a8 :: a9 :: a10 :: a11 :: a12 :: a13 :: a14 :: a15 :: a16 :: some (.int x) :: t) (.int x :: st)) : Z M Po kc ks n σ pc (a0 :: a1 :: a2 :: a3 :: a4 :: a5 :: a6 :: a7 :: a8 :: a9 :: a10 :: a11 :: a12 :: a13 :: a14 :: a15 :: a16 :: some (.int x) :: t) st := z_iload (i := 17) hd rfl hq k
theorem z_ist17 {a0 a1 a2 a3 a4 a5 a6 a7 a8 a9 a10 a11 a12 a13 a14 a15 a16 : Option Value} {o : Option Value} {t : List (Option Value)} {x : Int32} (hd : decode (mB M) pc = .ok (.istore 17, 2)) (hq : pc + 2 = q) (hk : zn2 a16 = true) (k : Z M Po kc ks n σ q (a0 :: a1 :: a2 :: a3 :: a4 :: a5 :: a6 :: a7 :: a8 :: a9 :: a10 :: a11 :: a12 :: a13 :: a14 :: a15 :: a16 :: some (.int x) :: t) st) : Z M Po kc ks n σ pc (a0 :: a1 :: a2 :: a3 :: a4 :: a5 :: a6 :: a7 :: a8 :: a9 :: a10 :: a11 :: a12 :: a13 :: a14 :: a15 :: a16 :: o :: t) (.int x :: st) := z_istore (i := 17) hd (by simp only [List.length_cons]; omega) hk hq k
theorem z_lld17 {a0 a1 a2 a3 a4 a5 a6 a7 a8 a9 a10 a11 a12 a13 a14 a15 a16 : Option Value} {t : List (Option Value)} {x : Int64} (hd : decode (mB M) pc = .ok (.lload 17, 2)) (hq : pc + 2 = q) (k : Z M Po kc ks n σ q (a0 :: a1 :: a2 :: a3 :: a4 :: a5 :: a6 :: a7 :: a8 :: a9 :: a10 :: a11 :: a12 :: a13 :: a14 :: a15 :: a16 :: some (.long x) :: t) (.long x :: st)) : Z M Po kc ks n σ pc (a0 :: a1 :: a2 :: a3 :: a4 :: a5 :: a6 :: a7 :: a8 :: a9 :: a10 :: a11 :: a12 :: a13 :: a14 :: a15 :: a16 :: some (.long x) :: t) st := z_lload (i := 17) hd rfl hq k
theorem z_lst17 {a0 a1 a2 a3 a4 a5 a6 a7 a8 a9 a10 a11 a12 a13 a14 a15 a16 : Option Value} {o o2 : Option Value} {t : List (Option Value)} {x : Int64} (hd : decode (mB M) pc = .ok (.lstore 17, 2)) (hq : pc + 2 = q) (hk : zn2 a16 = true) (k : Z M Po kc ks n σ q (a0 :: a1 :: a2 :: a3 :: a4 :: a5 :: a6 :: a7 :: a8 :: a9 :: a10 :: a11 :: a12 :: a13 :: a14 :: a15 :: a16 :: some (.long x) :: none :: t) st) : Z M Po kc ks n σ pc (a0 :: a1 :: a2 :: a3 :: a4 :: a5 :: a6 :: a7 :: a8 :: a9 :: a10 :: a11 :: a12 :: a13 :: a14 :: a15 :: a16 :: o :: o2 :: t) (.long x :: st) := z_lstore (i := 17) hd (by simp only [List.length_cons]; omega) hk hq k
theorem z_ald17 {a0 a1 a2 a3 a4 a5 a6 a7 a8 a9 a10 a11 a12 a13 a14 a15 a16 : Option Value} {t : List (Option Value)} {x : Nat} (hd : decode (mB M) pc = .ok (.aload 17, 2)) (hq : pc + 2 = q) (k : Z M Po kc ks n σ q (a0 :: a1 :: a2 :: a3 :: a4 :: a5 :: a6 :: a7 :: a8 :: a9 :: a10 :: a11 :: a12 :: a13 :: a14 :: a15 :: a16 :: some (.ref x) :: t) (.ref x :: st)) : Z M Po kc ks n σ pc (a0 :: a1 :: a2 :: a3 :: a4 :: a5 :: a6 :: a7 :: a8 :: a9 :: a10 :: a11 :: a12 :: a13 :: a14 :: a15 :: a16 :: some (.ref x) :: t) st := z_aload (i := 17) hd rfl hq k
theorem z_ast17 {a0 a1 a2 a3 a4 a5 a6 a7 a8 a9 a10 a11 a12 a13 a14 a15 a16 : Option Value} {o : Option Value} {t : List (Option Value)} {x : Nat} (hd : decode (mB M) pc = .ok (.astore 17, 2)) (hq : pc + 2 = q) (hk : zn2 a16 = true) (k : Z M Po kc ks n σ q (a0 :: a1 :: a2 :: a3 :: a4 :: a5 :: a6 :: a7 :: a8 :: a9 :: a10 :: a11 :: a12 :: a13 :: a14 :: a15 :: a16 :: some (.ref x) :: t) st) : Z M Po kc ks n σ pc (a0 :: a1 :: a2 :: a3 :: a4 :: a5 :: a6 :: a7 :: a8 :: a9 :: a10 :: a11 :: a12 :: a13 :: a14 :: a15 :: a16 :: o :: t) (.ref x :: st) := z_astore (i := 17) hd (by simp only [List.length_cons]; omega) hk hq k
theorem zn_iinc17 {a0 a1 a2 a3 a4 a5 a6 a7 a8 a9 a10 a11 a12 a13 a14 a15 a16 : Option Value} {t : List (Option Value)} {x d : Nat} (hd : decode (mB M) pc = .ok (.iinc 17 (d : Int), 3)) (hq : pc + 3 = q) (hk : zn2 a16 = true) (k : Z M Po kc ks n σ q (a0 :: a1 :: a2 :: a3 :: a4 :: a5 :: a6 :: a7 :: a8 :: a9 :: a10 :: a11 :: a12 :: a13 :: a14 :: a15 :: a16 :: some (.int (nI (x + d))) :: t) st) : Z M Po kc ks n σ pc (a0 :: a1 :: a2 :: a3 :: a4 :: a5 :: a6 :: a7 :: a8 :: a9 :: a10 :: a11 :: a12 :: a13 :: a14 :: a15 :: a16 :: some (.int (nI x)) :: t) st := z_iinc (i := 17) hd rfl (show nI x + Int32.ofInt (d : Int) = nI (x + d) from nI_add x d) (by simp only [List.length_cons]; omega) hk hq k
end ZR
end
section
section ZW
variable {M : zMI} {Po : Option Value → Nat → zWd → Prop} {kc ks n pc q : Nat} {σ : zWd} {lv : List (Option Value)} {st : List Value}

theorem zw_N {b : Nat} {G : Nat → ClassId} {i N : Nat} {g : Nat → Nat} (hs : σ i = zN N g) (hi : i < n) : (zw b G n σ)[i]? = some (b + i, .inl (G 1, N, .inr (.inl fun j => lN (g j)))) := by rw [zw_at hi, hs, ze_N]
theorem zw_I {b : Nat} {G : Nat → ClassId} {i N : Nat} {f : Nat → Int32} (hs : σ i = zI N f) (hi : i < n) : (zw b G n σ)[i]? = some (b + i, .inl (G 0, N, .inl f)) := by rw [zw_at hi, hs, ze_I]
theorem zw_R {b : Nat} {G : Nat → ClassId} {i N : Nat} {f : Nat → Option Nat} (hs : σ i = zR N f) (hi : i < n) : (zw b G n σ)[i]? = some (b + i, .inl (G 2, N, .inr (.inr (.inr (.inr (fun j => (f j).map (b + ·))))))) := by rw [zw_at hi, hs, ze_R]
theorem zw_O {b : Nat} {G : Nat → ClassId} {i c : Nat} {fs : List Value} (hs : σ i = zO c fs) (hi : i < n) : (zw b G n σ)[i]? = some (b + i, .inr (c, fs.map (zv b))) := by rw [zw_at hi, hs, ze_O]
theorem z_laload {i j N : Nat} {g : Nat → Nat} (hd : decode (mB M) pc = .ok (.laload, 1)) (hq : pc + 1 = q) (hs : σ i = zN N g) (hi : i < n) (hj : j < N) (hN : N < 2 ^ 31) (k : Z M Po kc ks n σ q lv (.long (lN (g j)) :: st)) : Z M Po kc ks n σ pc lv (.int (nI j) :: .ref i :: st) := by
  subst hq; intro p l e s m args below meth c b G D hC H locs ls hz hP hS hl
  refine va_lald hC.1 hC.2.1 hC.k hP i 1 (zw_N hs hi) rfl (vp_in_nI hj hN) hd ?_
  rw [nI_clamp (by omega)]
  exact k p l e s m args below meth c b G D hC H locs ls hz hP hS hl
theorem z_iaload {i j N : Nat} {f : Nat → Int32} (hd : decode (mB M) pc = .ok (.iaload, 1)) (hq : pc + 1 = q) (hs : σ i = zI N f) (hi : i < n) (hj : j < N) (hN : N < 2 ^ 31) (k : Z M Po kc ks n σ q lv (.int (f j) :: st)) : Z M Po kc ks n σ pc lv (.int (nI j) :: .ref i :: st) := by
  subst hq; intro p l e s m args below meth c b G D hC H locs ls hz hP hS hl
  refine va_iald hC.1 hC.2.1 hC.k hP i 0 (zw_I hs hi) rfl (vp_in_nI hj hN) hd ?_
  rw [nI_clamp (by omega)]
  exact k p l e s m args below meth c b G D hC H locs ls hz hP hS hl
theorem z_aaload {i j N a : Nat} {f : Nat → Option Nat} (hd : decode (mB M) pc = .ok (.aaload, 1)) (hq : pc + 1 = q) (hs : σ i = zR N f) (hi : i < n) (hj : j < N) (hN : N < 2 ^ 31) (ha : f j = some a) (k : Z M Po kc ks n σ q lv (.ref a :: st)) : Z M Po kc ks n σ pc lv (.int (nI j) :: .ref i :: st) := by
  subst hq; intro p l e s m args below meth c b G D hC H locs ls hz hP hS hl
  refine va_aldq hC.1 hC.2.1 hC.k hP i 2 (zw_R hs hi) rfl (vp_in_nI hj hN) hd ?_
  rw [nI_clamp (by omega), ha]
  exact k p l e s m args below meth c b G D hC H locs ls hz hP hS hl
theorem z_lastore {i j N x : Nat} {g : Nat → Nat} (hd : decode (mB M) pc = .ok (.lastore, 1)) (hq : pc + 1 = q) (hs : σ i = zN N g) (hi : i < n) (hj : j < N) (hN : N < 2 ^ 31) (k : Z M Po kc ks n (va_up σ i (zN N (va_up g j x))) q lv st) : Z M Po kc ks n σ pc lv (.long (lN x) :: .int (nI j) :: .ref i :: st) := by
  subst hq; intro p l e s m args below meth c b G D hC H locs ls hz hP hS hl
  have ha := zw_N (b := b) (G := G) hs hi
  have hin : vp_in (nI j) N := vp_in_nI hj hN
  refine W.last hC.1 hC.2.1 (hP i _ ha) ((hC.k.2 1 _ rfl).1 N (fun j => .long (lN (g j)))) (fun q => by cases q) (by show ¬ (nI j < 0 ∨ (arrV _ _ _).slots.size ≤ _); rw [arrV_size]; exact hin) rfl rfl hd fun H1 e1 z oq => ?_
  have hP1 : va_P D zCl (zw b G n (va_up σ i (zN N (va_up g j x)))) H1 := by
    rw [← zw_set, ze_N]
    refine hP.set zw_D ha ?_ oq
    show H1[b + i]? = some (vp_cell _ _)
    rw [e1, vp_cell_l, vp_cell_l, arrV_store, nI_clamp (by omega)]
    congr 2
    funext t
    by_cases ht : t = j
    · subst ht; simp [updV, va_up]
    · simp [updV, va_up, ht]
  exact k p l e s m args below meth c b G D hC H1 _ ls (z.trans hz) hP1 (hS.put z oq (Nat.le_add_right b i)) hl
theorem z_iastore {i j N : Nat} {x : Int32} {f : Nat → Int32} (hd : decode (mB M) pc = .ok (.iastore, 1)) (hq : pc + 1 = q) (hs : σ i = zI N f) (hi : i < n) (hj : j < N) (hN : N < 2 ^ 31) (k : Z M Po kc ks n (va_up σ i (zI N (va_up f j x))) q lv st) : Z M Po kc ks n σ pc lv (.int x :: .int (nI j) :: .ref i :: st) := by
  subst hq; intro p l e s m args below meth c b G D hC H locs ls hz hP hS hl
  have ha := zw_I (b := b) (G := G) hs hi
  have hin : vp_in (nI j) N := vp_in_nI hj hN
  refine W.iast hC.1 hC.2.1 (hP i _ ha) ((hC.k.2 0 _ rfl).1 N (fun j => .int (f j))) (fun q => by cases q) (by show ¬ (nI j < 0 ∨ (arrV _ _ _).slots.size ≤ _); rw [arrV_size]; exact hin) rfl rfl hd fun H1 e1 z oq => ?_
  have hP1 : va_P D zCl (zw b G n (va_up σ i (zI N (va_up f j x)))) H1 := by
    rw [← zw_set, ze_I]
    refine hP.set zw_D ha ?_ oq
    show H1[b + i]? = some (vp_cell _ _)
    rw [e1, vp_cell_i, vp_cell_i, arrV_store, nI_clamp (by omega)]
    congr 2
    funext t
    by_cases ht : t = j
    · subst ht; simp [updV, va_up]
    · simp [updV, va_up, ht]
  exact k p l e s m args below meth c b G D hC H1 _ ls (z.trans hz) hP1 (hS.put z oq (Nat.le_add_right b i)) hl
theorem z_aastore {i j N a ci : Nat} {fs : List Value} {r : vw_C} {f : Nat → Option Nat} (hd : decode (mB M) pc = .ok (.aastore, 1)) (hq : pc + 1 = q) (hs : σ i = zR N f) (hi : i < n) (hj : j < N) (hN : N < 2 ^ 31) (hv : σ a = zO ci fs) (han : a < n) (hc : zCl[ci]? = some r) (hr : r.1 = "RecurrentSeries$Series") (k : Z M Po kc ks n (va_up σ i (zR N (va_up f j (some a)))) q lv st) : Z M Po kc ks n σ pc lv (.ref a :: .int (nI j) :: .ref i :: st) := by
  subst hq; intro p l e s m args below meth c b G D hC H locs ls hz hP hS hl
  have ha := zw_R (b := b) (G := G) hs hi
  have hK := hC.k
  obtain ⟨r', hr', cellV, g1, g2, g3, -⟩ := hP a _ (zw_O (b := b) (G := G) hv han)
  have hcls := (hK.1 ci r hc).2
  obtain ⟨kA, comp, k1, k2, k3, -⟩ := (hK.2 2 _ rfl).2
  rw [hr] at hcls
  have hcomp : comp = D.1 ci := Option.some.inj (k3.symm.trans hcls.1)
  subst hcomp
  obtain ⟨kC, hkC, -⟩ := hcls.2
  have h0 : ¬ nI j < 0 := nI_pos (by omega)
  refine W.aast hC.1 hC.2.1 (hP i _ ha) (fun q h => by cases h) (fun h => by cases h) k1 k2 rfl hkC ⟨h0, by show _ < (arrV _ _ _).slots.size; rw [arrV_size, nI_clamp (by omega)]; exact hj⟩ g1 (fun q h => by rw [g3] at h; cases h) (by rw [g2]; exact hkC) (by rw [g2]; exact va_assign hcls) rfl rfl hd fun H1 e1 z oq => ?_
  have hP1 : va_P D zCl (zw b G n (va_up σ i (zR N (va_up f j (some a))))) H1 := by
    rw [← zw_set, ze_R]
    refine hP.set zw_D ha ?_ oq
    show H1[b + i]? = some (vp_cell _ _)
    rw [e1, vp_cell_q, vp_cell_q, arrV_store, nI_clamp (by omega)]
    congr 2
    funext t
    by_cases ht : t = j
    · subst ht; simp [updV, va_up, va_rf]
    · simp [updV, va_up, ht]
  exact k p l e s m args below meth c b G D hC H1 _ ls (z.trans hz) hP1 (hS.put z oq (Nat.le_add_right b i)) hl
/-- what the tables say of a field that is read, written, or written once -/
def zFG (own : String) (idx ci fi : Nat) : Prop := ∃ (C : String) (T : u_T) (N : Nat), zCl[ci]? = some (C, T, N) ∧ fi < N ∧ (∀ w ∈ u_ws C T N, w ∈ TB) ∧ (Cond.fieldLink own idx (T fi).1 (T fi).2.1 (T fi).2.2.1 ∈ TB ∨ ∃ host : String, Cond.fieldLinkNest own idx (T fi).1 (T fi).2.1 (T fi).2.2.1 host ∈ NB)
def zFT (ci : Nat) : Prop := ∃ (C : String) (T : u_T) (N : Nat) (ty : Nat → FieldType), zCl[ci]? = some (C, T, N) ∧ (∀ k, k < N → parseFieldDescriptor (T k).2.2.1 = some (ty k)) ∧ (∀ a, a < N → ∀ b, b < N → a ≠ b → (T a).2.1 ≠ (T b).2.1)
def zFk (ci fi : Nat) (fin : Bool) (own : String) (ty : FieldType) : Prop := ∀ (C : String) (T : u_T) (N : Nat), zCl[ci]? = some (C, T, N) → (T fi).2.2.2 = fin ∧ (fin = true → (T fi).1 = own) ∧ parseFieldDescriptor (T fi).2.2.1 = some ty
theorem z_get {idx ci i : Nat} {fs : List Value} {v : Value} (fi : Nat) (hd : decode (mB M) pc = .ok (.getfield idx, 3)) (hq : pc + 3 = q) (hF : zFG (mY M).cls idx ci fi) (hs : σ i = zO ci fs) (hi : i < n) (hv : fs[fi]? = some v) (k : Z M Po kc ks n σ q lv (v :: st)) : Z M Po kc ks n σ pc lv (.ref i :: st) := by
  subst hq; intro p l e s m args below meth c b G D hC H locs ls hz hP hS hl
  obtain ⟨C, T, N, hc, hfi, hws, hlk⟩ := hF
  have hv' : (fs.map (zv b))[fi]? = some (zv b v) := by rw [List.getElem?_map, hv]; rfl
  have hts : ∀ w ∈ TB, w.before args s = true := fun w h => hC.tb h
  rcases hlk with hlk | ⟨host, hlk⟩
  · exact va_get (D := D) (C := C) (T := T) (N := N) hC.1 hC.2.1 hts hws hC.2.2.2.1 hC.k hP i (zw_O hs hi) hc fi hfi (hC.tb hlk) (fun _ h => h) hv' hd (k p l e s m args below meth c b G D hC H locs ls hz hP hS hl)
  · exact va_getN (D := D) (C := C) (T := T) (N := N) hC.1 hC.2.1 hts hws hC.2.2.2.1 hC.k hP i (zw_O hs hi) hc fi hfi (va_Nw.use rfl (hC.nb hlk)) (fun _ h => h) hv' hd (k p l e s m args below meth c b G D hC H locs ls hz hP hS hl)
theorem z_put {idx ci i : Nat} {fs : List Value} {v : Value} {ty : FieldType} (fi : Nat) (hd : decode (mB M) pc = .ok (.putfield idx, 3)) (hq : pc + 3 = q) (hF : zFG (mY M).cls idx ci fi) (hT : zFT ci) (hk : zFk ci fi false "" ty) (hs : σ i = zO ci fs) (hi : i < n) (hn : ∀ b, narrow ty (zv b v) = zv b v) (hfit : ∀ b, fits ty (zv b v) = true) (hlen : fi < fs.length) (k : Z M Po kc ks n (va_up σ i (zO ci (fs.set fi v))) q lv st) : Z M Po kc ks n σ pc lv (v :: .ref i :: st) := by
  subst hq; intro p l e s m args below meth c b G D hC H locs ls hz hP hS hl
  obtain ⟨C, T, N, hc, hfi, hws, hlk⟩ := hF
  obtain ⟨C', T', N', ty0, hc', hty, hnm⟩ := hT
  obtain ⟨rfl, rfl, rfl⟩ : C = C' ∧ T = T' ∧ N = N' := by
    have := Option.some.inj (hc.symm.trans hc')
    simp only [Prod.mk.injEq] at this
    exact this
  obtain ⟨hfin, -, hpt⟩ := hk C T N hc
  have he := zw_O (b := b) (G := G) hs hi
  have hK := hC.k
  have hts : ∀ w ∈ TB, w.before args s = true := fun w h => hC.tb h
  have hap := va_apart (own := (mY M).cls) hts hws ty0 hty hnm hK hc
  obtain ⟨r, h1, cell, q1, q2, q3, q4⟩ := hP i _ he
  have hr : r = (C, T, N) := Option.some.inj (h1.symm.trans hc)
  subst hr
  obtain ⟨hSl, hfc, kC, hkC, hkind⟩ := hK.1 ci _ hc
  obtain ⟨cf, kf, fj, f, hif, hsl⟩ := hSl fi hfi
  have hlay := hts _ (hws _ (u_in_lay hfi))
  unfold u_lay at hlay
  rw [if_neg (by rw [hfin]; decide)] at hlay
  have hst := (u_facts hfc hkC (u_lays hts hws hfi) hif).1
  have h6 := u_store hfc hkC hkind hlay hif hpt (hn b) (hfit b)
  have fin : ∀ H1 : Heap, H1[b + i]? = some (cell.setSlot f.slot (zv b v)) → H1.size = H.size → (∀ q, q ≠ b + i → H1[q]? = H[q]?) → W p l e (mR M) s m args below meth c H1 (locs ++ [⟨b + i, f.slot⟩]) kc ks (MQ below (zQc b G D Po) args s (mR M).cells (mR M).slots (fun q => b ≤ q)) (F0 m (pc + 3) ls (st.map (zv b))) := by
    intro H1 e1 z oq
    rw [hsl] at e1
    have hP1 : va_P D zCl (zw b G n (va_up σ i (zO ci (fs.set fi v)))) H1 := by
      rw [← zw_set, ze_O]
      refine hP.set zw_D he ?_ oq
      refine ⟨_, hc, ?_⟩
      rw [List.map_set]
      exact t_OB.to (V := updV (vp_V (fs.map (zv b))) fi (zv b v)) ⟨_, e1, q2, q3, t_set q4 hap hfi (zv b v)⟩ (fun j _ => vp_updV_set (by rw [List.length_map]; exact hlen) (zv b v) j)
    exact k p l e s m args below meth c b G D hC H1 _ ls (z.trans hz) hP1 (hS.put z oq (Nat.le_add_right b i)) hl
  rcases hlk with hlk | ⟨host, hlk⟩
  · exact W.putK hC.1 hC.2.1 (f := f) ⟨hC.2.2.2.1, hC.tb hlk, ⟨_, _, _, hif⟩, hst⟩ (by rw [q2]; exact h6) q1 q3 (by rw [hsl]; exact k2_hasslot (q4 fi hfi)) rfl rfl hd fin
  · exact va_WputK hC.1 hC.2.1 (f := f) hC.2.2.2.1 (va_Nw.use rfl (hC.nb hlk)) hif hst (by rw [q2]; exact h6) q1 q3 (by rw [hsl]; exact k2_hasslot (q4 fi hfi)) rfl rfl hd fin
theorem z_putF {idx ci i : Nat} {fs : List Value} {v : Value} {ty : FieldType} (fi : Nat) (hd : decode (mB M) pc = .ok (.putfield idx, 3)) (hq : pc + 3 = q) (hF : zFG (mY M).cls idx ci fi) (hT : zFT ci) (hk : zFk ci fi true (mY M).cls ty) (hy : (mY M).name = "<init>") (hnl : ∀ (C : String) (T : u_T) (N : Nat), zCl[ci]? = some (C, T, N) → Cond.fieldLink (mY M).cls idx (T fi).1 (T fi).2.1 (T fi).2.2.1 ∈ TB) (hs : σ i = zO ci fs) (hi : i < n) (hn : ∀ b, narrow ty (zv b v) = zv b v) (hfit : ∀ b, fits ty (zv b v) = true) (hlen : fi < fs.length) (k : Z M Po kc ks n (va_up σ i (zO ci (fs.set fi v))) q lv st) : Z M Po kc ks n σ pc lv (v :: .ref i :: st) := by
  subst hq; intro p l e s m args below meth c b G D hC H locs ls hz hP hS hl
  obtain ⟨C, T, N, hc, hfi, hws, -⟩ := hF
  obtain ⟨C', T', N', ty0, hc', hty, hnm⟩ := hT
  obtain ⟨rfl, rfl, rfl⟩ : C = C' ∧ T = T' ∧ N = N' := by
    have := Option.some.inj (hc.symm.trans hc')
    simp only [Prod.mk.injEq] at this
    exact this
  obtain ⟨hfin, hdecl, hpt⟩ := hk C T N hc
  have hdecl := hdecl rfl
  have hlk := hnl C T N hc
  have he := zw_O (b := b) (G := G) hs hi
  have hK := hC.k
  have hts : ∀ w ∈ TB, w.before args s = true := fun w h => hC.tb h
  have hap := va_apart (own := (mY M).cls) hts hws ty0 hty hnm hK hc
  obtain ⟨r, h1, cell, q1, q2, q3, q4⟩ := hP i _ he
  have hr : r = (C, T, N) := Option.some.inj (h1.symm.trans hc)
  subst hr
  obtain ⟨hSl, hfc, kC, hkC, hkind⟩ := hK.1 ci _ hc
  obtain ⟨cf, kf, fj, f, hif, hsl⟩ := hSl fi hfi
  have hlay := hts _ (hws _ (u_in_lay hfi))
  unfold u_lay at hlay
  rw [if_pos hfin] at hlay
  have hst := (u_facts hfc hkC (u_lays hts hws hfi) hif).1
  have hcf : m.cls = cf := by
    obtain ⟨_, _, c', _, _, _, -, -, hf', -, -, -, hown2, -⟩ := Cond.laysFinal_spec hlay
    have e1 : c' = cf := by have := hif.symm.trans hf'; simp at this; exact this.1.symm
    rw [hdecl] at hown2
    rw [← e1]; exact Option.some.inj (hC.2.2.2.1.symm.trans hown2)
  have h6 := u_fits hfc hkC hkind (Or.inr hlay) hif hpt (hn b) (hfit b)
  refine W.putFinK hC.1 hC.2.1 hC.2.2.2.1 (hC.tb hlk) hif hst hcf (hC.2.2.2.2.2.2.2.2.2.2 hy) (by rw [q2]; exact h6) q1 q3 (by rw [hsl]; exact k2_hasslot (q4 fi hfi)) rfl rfl hd fun H1 e1 z oq => ?_
  rw [hsl] at e1
  have hP1 : va_P D zCl (zw b G n (va_up σ i (zO ci (fs.set fi v)))) H1 := by
    rw [← zw_set, ze_O]
    refine hP.set zw_D he ?_ oq
    refine ⟨_, hc, ?_⟩
    rw [List.map_set]
    exact t_OB.to (V := updV (vp_V (fs.map (zv b))) fi (zv b v)) ⟨_, e1, q2, q3, t_set q4 hap hfi (zv b v)⟩ (fun j _ => vp_updV_set (by rw [List.length_map]; exact hlen) (zv b v) j)
  exact k p l e s m args below meth c b G D hC H1 _ ls (z.trans hz) hP1 (hS.put z oq (Nat.le_add_right b i)) hl
/-- new cells -/
theorem zP_push {b : Nat} {G : Nat → ClassId} {D : va_G} {H H1 : Heap} {e : va_E} (hz : H.size = b + n) (hP : va_P D zCl (zw b G n σ) H) (o1 : ∀ q, q < H.size → H1[q]? = H[q]?) (he : va_at D zCl (b + n, ze b G e) H1) : va_P D zCl (zw b G (n + 1) (va_up σ n e)) H1 := by
  rw [← zw_push]
  refine va_P.app (hP.kept (fun k x hx => o1 x.1 ((hP k x hx).lt))) (fun k x hx => ?_)
  have hk : k < 1 := (List.getElem?_eq_some_iff.mp hx).1
  rw [show k = 0 by omega] at hx
  cases hx
  exact he
theorem zS_push {b : Nat} {s : State} {H H1 : Heap} {locs : List Loc} (hS : va_S (fun q => b ≤ q) s.heap H locs) (z : H1.size = H.size + 1) (o1 : ∀ q, q < H.size → H1[q]? = H[q]?) : va_S (fun q => b ≤ q) s.heap H1 locs :=
  ⟨Nat.le_trans hS.1 (by omega), fun x h1 h2 => (o1 x (Nat.lt_of_lt_of_le h1 hS.1)).trans (hS.2.1 x h1 h2), hS.2.2⟩
theorem z_newl {N : Nat} {a : ArrayType} (hd : decode (mB M) pc = .ok (.newarray a, 2)) (ha : newarray.typeOf a = .long) (hq : pc + 2 = q) (hw : Cond.arrayClass .long ∈ TB) (hN : N < 67108864) (hc : kc + 1 ≤ (mR M).cells) (hs : ks + N ≤ (mR M).slots) (k : Z M Po (kc + 1) (ks + N) (n + 1) (va_up σ n (zN N (fun _ => 0))) q lv (.ref n :: st)) : Z M Po kc ks n σ pc lv (.int (nI N) :: st) := by
  subst hq; intro p l e s m args below meth c b G D hC H locs ls hz hP hS hl
  refine va_newaK (N := N) hC.1 hC.2.1 (by rw [ha]; exact hC.tb hw) rfl hd rfl (nI_pos (by omega)) (nI_clamp (by omega)) (by rw [ha]; show N * 8 ≤ _; omega) hc hs rfl fun H1 cA e1 z1 o1 hAr hNm => ?_
  rw [ha] at e1 hNm
  have hG : cA = G 1 := by
    have h1 : s.vm.findClass ("[" ++ FieldType.long.toString) = some (G 1) := (hC.k.2 1 _ rfl).2
    exact Option.some.inj (hNm.symm.trans h1)
  subst hG
  have hP1 := zP_push (H1 := H1) (e := zN N (fun _ => 0)) hz hP o1 (by rw [ze_N, ← hz]; exact e1)
  have := k p l e s m args below meth c b G D hC H1 locs ls (by rw [z1, hz, Nat.add_assoc]) hP1 (zS_push hS z1 o1) hl
  rw [hz]
  exact this
theorem z_newi {N : Nat} {a : ArrayType} (hd : decode (mB M) pc = .ok (.newarray a, 2)) (ha : newarray.typeOf a = .int) (hq : pc + 2 = q) (hw : Cond.arrayClass .int ∈ TB) (hN : N < 67108864) (hc : kc + 1 ≤ (mR M).cells) (hs : ks + N ≤ (mR M).slots) (k : Z M Po (kc + 1) (ks + N) (n + 1) (va_up σ n (zI N (fun _ => 0))) q lv (.ref n :: st)) : Z M Po kc ks n σ pc lv (.int (nI N) :: st) := by
  subst hq; intro p l e s m args below meth c b G D hC H locs ls hz hP hS hl
  refine va_newaK (N := N) hC.1 hC.2.1 (by rw [ha]; exact hC.tb hw) rfl hd rfl (nI_pos (by omega)) (nI_clamp (by omega)) (by rw [ha]; show N * 4 ≤ _; omega) hc hs rfl fun H1 cA e1 z1 o1 hAr hNm => ?_
  rw [ha] at e1 hNm
  have hG : cA = G 0 := by
    have h1 : s.vm.findClass ("[" ++ FieldType.int.toString) = some (G 0) := (hC.k.2 0 _ rfl).2
    exact Option.some.inj (hNm.symm.trans h1)
  subst hG
  have hP1 := zP_push (H1 := H1) (e := zI N (fun _ => 0)) hz hP o1 (by rw [ze_I, ← hz]; exact e1)
  have := k p l e s m args below meth c b G D hC H1 locs ls (by rw [z1, hz, Nat.add_assoc]) hP1 (zS_push hS z1 o1) hl
  rw [hz]
  exact this
theorem z_newr {N idx : Nat} (hd : decode (mB M) pc = .ok (.anewarray idx, 3)) (hq : pc + 3 = q) (hcl : Cond.classLink (mY M).cls idx "RecurrentSeries$Series" ∈ TB) (hov : Cond.arrayOver (.object "RecurrentSeries$Series") ∈ TB) (hN : N < 67108864) (hc : kc + 1 ≤ (mR M).cells) (hs : ks + N ≤ (mR M).slots) (k : Z M Po (kc + 1) (ks + N) (n + 1) (va_up σ n (zR N (fun _ => none))) q lv (.ref n :: st)) : Z M Po kc ks n σ pc lv (.int (nI N) :: st) := by
  subst hq; intro p l e s m args below meth c b G D hC H locs ls hz hP hS hl
  have hNc : (nI N).toNatClampNeg = N := nI_clamp (by omega)
  refine W.anew hC.1 hC.2.1 hC.2.2.2.1 (hC.tb hcl) (hC.tb hov) rfl hd rfl (nI_pos (by omega)) (by rw [hNc]; omega) hc (by rw [hNc]; exact hs) fun cA kA comp f1 f2 f3 f4 => ?_
  rw [hNc]
  generalize hH1 : H.push ({ cls := cA, slots := Array.replicate N .null, vm := .none } : Cell) = H1
  have z1 : H1.size = H.size + 1 := by rw [← hH1, Array.size_push]
  have e1 : H1[H.size]? = some (arrV cA N (fun _ => .null)) := by rw [← hH1, Array.getElem?_push_size, ← arrV_new]
  have o1 : ∀ q : Nat, q < H.size → H1[q]? = H[q]? := fun q hq => by rw [← hH1, Array.getElem?_push, if_neg (Nat.ne_of_lt hq)]
  have hG : cA = G 2 := by
    obtain ⟨_, _, -, -, -, h1⟩ := (hC.k.2 2 _ rfl).2
    exact Option.some.inj (f1.symm.trans h1)
  subst hG
  have hP1 := zP_push (H1 := H1) (e := zR N (fun _ => none)) hz hP o1 (by rw [ze_R, ← hz]; exact e1)
  have := k p l e s m args below meth c b G D hC H1 locs ls (by rw [z1, hz, Nat.add_assoc]) hP1 (zS_push hS z1 o1) hl
  rw [hz]
  exact this
def zNw (own : String) (idx ci N : Nat) (fs : List Value) : Prop := ∃ (C : String) (T : u_T) (ty : Nat → FieldType), zCl[ci]? = some (C, T, N) ∧ (∀ w ∈ u_ws C T N, w ∈ TB) ∧ (∀ k, k < N → parseFieldDescriptor (T k).2.2.1 = some (ty k)) ∧ Cond.classLink own idx C ∈ TB ∧ Cond.instantiable C N ∈ TB ∧ Cond.initialized C ∈ TB ∧ ∀ b j, j < N → defaultValue (ty j) = vp_V (fs.map (zv b)) j
theorem z_new {idx N ci : Nat} {fs : List Value} (hd : decode (mB M) pc = .ok (.new idx, 3)) (hq : pc + 3 = q) (hF : zNw (mY M).cls idx ci N fs) (hc : kc + 1 ≤ (mR M).cells) (hs : ks + N ≤ (mR M).slots) (k : Z M Po (kc + 1) (ks + N) (n + 1) (va_up σ n (zO ci fs)) q lv (.ref n :: st)) : Z M Po kc ks n σ pc lv st := by
  subst hq; intro p l e s m args below meth c b G D hC H locs ls hz hP hS hl
  obtain ⟨C, T, ty, hcl, hws, hty, h1, h2, h3, hfs⟩ := hF
  have hKn := hC.k.1 ci _ hcl
  have hts : ∀ w ∈ TB, w.before args s = true := fun w h => hC.tb h
  refine W.newcK hC.1 hC.2.1 hC.2.2.2.1 (hC.tb h1) (hC.tb h2) (hC.tb h3) rfl hd hc hs hKn.2.1 rfl fun H1 kC hkC e1 z1 o1 => ?_
  have hP1 := zP_push (H1 := H1) (e := zO ci fs) hz hP o1 (by rw [ze_O, ← hz]; exact ⟨_, hcl, (u_born ty hts hws hKn hkC e1 hty).to (hfs b)⟩)
  have := k p l e s m args below meth c b G D hC H1 locs ls (by rw [z1, hz, Nat.add_assoc]) hP1 (zS_push hS z1 o1) hl
  rw [hz]
  exact this
/-- returns -/
theorem zQ_of {b : Nat} {G : Nat → ClassId} {D : va_G} {s : State} {args : Array Value} {H : Heap} {locs : List Loc} {r : Option Value} (h : Po r n σ) (hz : H.size = b + n) (hP : va_P D zCl (zw b G n σ) H) (hS : va_S (fun q => b ≤ q) s.heap H locs) (t : State) (ht : t.heap = H) : zQc b G D Po args s (.returned (r.map (zv b))) t :=
  ⟨⟨r, n, σ, rfl, h, by rw [ht]; exact hz, by rw [ht]; exact hP⟩, hS.F ht⟩
theorem z_iret {v : Int32} (hd : decode (mB M) pc = .ok (.ireturn, 1)) (hT : mT M = some .int) (hc : kc ≤ (mR M).cells) (hs : ks ≤ (mR M).slots) (h : Po (some (.int v)) n σ) : Z M Po kc ks n σ pc lv [.int v] := by
  intro p l e s m args below meth c b G D hC H locs ls hz hP hS hl
  exact W.widen hc hs (W.iret hC.1 hC.2.1 (hC.2.2.2.2.2.2.1.trans hT) (fun t ht _ => zQ_of h hz hP hS t ht) hS.2.2 hd hC.2.2.2.2.2.2.2.1)
theorem z_zret {v : Int32} {ty : FieldType} (hd : decode (mB M) pc = .ok (.ireturn, 1)) (hT : mT M = some ty) (hn : narrow ty (.int v) = .int v) (hc : kc ≤ (mR M).cells) (hs : ks ≤ (mR M).slots) (h : Po (some (.int v)) n σ) : Z M Po kc ks n σ pc lv [.int v] := by
  intro p l e s m args below meth c b G D hC H locs ls hz hP hS hl
  exact W.widen hc hs (W.zret hC.1 hC.2.1 (hC.2.2.2.2.2.2.1.trans hT) hn (fun t ht _ => zQ_of h hz hP hS t ht) hS.2.2 hd hC.2.2.2.2.2.2.2.1)
theorem z_lret {v : Int64} (hd : decode (mB M) pc = .ok (.lreturn, 1)) (hT : mT M = some .long) (hc : kc ≤ (mR M).cells) (hs : ks ≤ (mR M).slots) (h : Po (some (.long v)) n σ) : Z M Po kc ks n σ pc lv [.long v] := by
  intro p l e s m args below meth c b G D hC H locs ls hz hP hS hl
  exact W.widen hc hs (W.lret hC.1 hC.2.1 (hC.2.2.2.2.2.2.1.trans hT) (fun t ht _ => zQ_of h hz hP hS t ht) hS.2.2 hd hC.2.2.2.2.2.2.2.1)
theorem z_vret (hd : decode (mB M) pc = .ok (.return_, 1)) (hT : mT M = none) (hc : kc ≤ (mR M).cells) (hs : ks ≤ (mR M).slots) (h : Po none n σ) : Z M Po kc ks n σ pc lv [] := by
  intro p l e s m args below meth c b G D hC H locs ls hz hP hS hl
  exact W.widen hc hs (W.vret hC.1 hC.2.1 (hC.2.2.2.2.2.2.1.trans hT) (fun t ht _ => zQ_of h hz hP hS t ht) hS.2.2 hd hC.2.2.2.2.2.2.2.1)
/-- calls -/
theorem z_after {p : Program} {l : Launch} {e : Env} {R : Room} {s : State} {m : MethodId} {args : Array Value} {below : List Frame} {meth : Method} {c : Code} {H : Heap} {locs : List Loc} {cells slots mc ms : Nat} {Q : State → Prop} {b : Nat} {G : Nat → ClassId} {D : va_G} {Po' : Option Value → Nat → zWd → Prop} {ls : Array Slot} {st0 rest : List Value} {a : Array Value}
    (hr : va_Run p l e R s m args below meth c H locs cells slots mc ms (F0 m pc ls st0) rest (zQc b G D Po' a) (fun q => b ≤ q)) (hS : va_S (fun q => b ≤ q) s.heap H locs)
    (kk : ∀ (r : Option Value) (n' : Nat) (σ' : zWd), Po' r n' σ' → ∀ (H1 : Heap) (locs1 : List Loc), H1.size = b + n' → va_P D zCl (zw b G n' σ') H1 → va_S (fun q => b ≤ q) s.heap H1 locs1 → W p l e R s m args below meth c H1 locs1 (cells + mc) (slots + ms) Q (F0 m (pc + 3) ls ((r.map (zv b)).toList ++ rest))) : W p l e R s m args below meth c H locs cells slots Q (F0 m pc ls st0) := by
  intro T hT X
  obtain ⟨v, st₀, t, T', L, h0, X', hL, e1, e2, ⟨⟨r, n', σ', hv, hp, hz, hP⟩, hF⟩, st⟩ := hr T hT X
  cases hv
  obtain ⟨hF1, hF2⟩ := hF
  rw [h0] at hF1 hF2
  obtain ⟨t2, a1, b1⟩ := kk r n' σ' hp T'.heap (locs ++ L) (by rw [e1]; exact hz) (by rw [e1]; exact hP)
    ⟨Nat.le_trans hS.1 (by rw [e1]; exact hF1), fun q h1 h2 => by rw [e1, hF2 q (Nat.lt_of_lt_of_le h1 hS.1) h2]; exact hS.2.1 q h1 h2, fun q hq => by
      rcases List.mem_append.mp hq with h | h
      · exact hS.2.2 q h
      · exact hL q h⟩ T' rfl X'
  exact ⟨t2, st t2 a1, b1⟩
theorem zPc_blind {b : Nat} {G : Nat → ClassId} {D : va_G} {avs : List Value} : FrameBlind (zPc b G D n σ avs) := by
  intro a U g mk h
  obtain ⟨h0, hz, hP, hK, hN⟩ := h
  exact ⟨h0, hz, hP, va_K.moved (u := U) (U := U.calling g mk a) (Vm.Alike.refl U.vm) hK, NB_same (s := U) (U := U.calling g mk a) rfl hN⟩
theorem zPc_pre {b : Nat} {G : Nat → ClassId} {D : va_G} {avs : List Value} {p : Program} {s : State} {m : MethodId} {args : Array Value} {meth : Method} {c : Code} {H : Heap} (hC : zCx M b G D p s m args meth c) (hz : H.size = b + n) (hP : va_P D zCl (zw b G n σ) H) (U : State) (hU : U.heap = H) (hW : s.WarmedH U.vm) : zPc b G D n σ avs (avs.map (zv b)).toArray U :=
  ⟨rfl, by rw [hU]; exact hz, by rw [hU]; exact hP, va_K.moved hW.alike hC.k, NB_warm hW hC.2.2.2.2.2.1⟩
def zCk (M' : zMI) (k : Nat) : Prop := Cond.code (mY M') (mB M') (mL M') (mT M') ∈ TB ∧ Cond.initialized (mY M').cls ∈ TB ∧ (mY M').cls ≠ "java/lang/invoke/MethodHandle" ∧ (mY M').cls ≠ "java/lang/invoke/VarHandle" ∧ (parseMethodDescriptor (mY M').desc).map (fun d => d.parameters.length) = some k
def zLk (own : String) (idx : Nat) (y : MethodName) : Prop := Cond.methodLink own idx y ∈ TB ∨ ∃ host : String, Cond.methodLinkNest own idx y host ∈ NB
def zFit (M M' : zMI) : Prop := (mR M').frames + 1 ≤ (mR M).frames ∧ 8 + (mL M' + 11) + (mR M').locals ≤ (mR M).locals
theorem z_cat {b : Nat} {rest : List Value} {m : MethodId} {pc : Nat} {ls : Array Slot} {r : List Value} (h : (rest.map fun v => v.category).sum ≤ 8) : 2 * (F0 m pc ls r).monitorRoom + ((rest.map (zv b)).map fun v => v.category).sum ≤ 8 := by
  refine lv_room ?_
  rw [List.map_map]
  have : ((fun v : Value => v.category) ∘ zv b) = fun v => v.category := by funext v; exact zv_cat b v
  rw [this]
  exact h
theorem z_callS {M' : zMI} {idx : Nat} {As rest : List Value} {Po' : Option Value → Nat → zWd → Prop} (hd : decode (mB M) pc = .ok (.invokestatic idx, 3)) (hq : pc + 3 = q) (hM : Ct M' As n σ Po') (hk : zCk M' As.length) (hl0 : zLk (mY M).cls idx (mY M')) (hst : Cond.static (mY M') ∈ TB) (hR : zFit M M') (hcat : (rest.map fun v => v.category).sum ≤ 8) (hc : kc + (mR M').cells ≤ (mR M).cells) (hs : ks + (mR M').slots ≤ (mR M).slots)
    (k : ∀ (r : Option Value) (n' : Nat) (σ' : zWd), Po' r n' σ' → Z M Po (kc + (mR M').cells) (ks + (mR M').slots) n' σ' q lv (r.toList ++ rest)) : Z M Po kc ks n σ pc lv (As.reverse ++ rest) := by
  subst hq; intro p l e s m args below meth c b G D hC H locs ls hz hP hS hl
  have hts : ∀ w ∈ mW M, w.before args s = true := hC.2.2.2.2.1
  have hpre : PreS s H (zPc b G D n σ As) (As.map (zv b)) := ⟨zPc_blind, zPc_pre hC hz hP⟩
  have hstk : (As.reverse ++ rest).map (zv b) = (As.map (zv b)).reverse ++ rest.map (zv b) := by rw [List.map_append, List.map_reverse]
  have hrun : va_Run p l e (mR M) s m args below meth c H locs kc ks (mR M').cells (mR M').slots (F0 m pc ls ((As.reverse ++ rest).map (zv b))) (rest.map (zv b)) (zQc b G D Po' (As.map (zv b)).toArray) (fun q => b ≤ q) := by
    rcases hl0 with hl0 | ⟨host, hl0⟩
    · exact va_runS (n := As.length) ⟨hC.1, hC.2.1, hC.2.2.1, hC.2.2.2.1, hts⟩ (hM l b G D) ⟨callB_of As.length hts (mW_good hk.1) rfl rfl rfl (hC.tb hk.2.1) (hC.tb hl0) hk.2.2 hR, hC.tb hst⟩ hpre rfl (List.length_map _) hl.1 hstk (z_cat hcat) hd ⟨hc, hs⟩
    · exact va_runSN (n := As.length) ⟨hC.1, hC.2.1, hC.2.2.1, hC.2.2.2.1, hts⟩ (hM l b G D) ⟨va_cnB As.length hts (mW_good hk.1) rfl rfl rfl (hC.nb hl0) (hC.tb hk.2.1) hk.2.2 hR, hC.tb hst, trivial⟩ hpre rfl (List.length_map _) hl.1 hstk (z_cat hcat) hd ⟨hc, hs⟩
  refine z_after hrun hS (fun r n' σ' hp H1 locs1 hz1 hP1 hS1 => ?_)
  have := k r n' σ' hp p l e s m args below meth c b G D hC H1 locs1 ls hz1 hP1 hS1 hl
  rw [List.map_append] at this
  cases r <;> exact this
theorem z_callV {M' : zMI} {idx i ci : Nat} {fs As rest : List Value} {Po' : Option Value → Nat → zWd → Prop} {vc : vw_C} (hd : decode (mB M) pc = .ok (.invokevirtual idx, 3)) (hq : pc + 3 = q) (hM : Ct M' (.ref i :: As) n σ Po') (hs0 : σ i = zO ci fs) (hi : i < n) (hvc : zCl[ci]? = some vc) (hk : zCk M' As.length) (hl0 : zLk (mY M).cls idx (mY M')) (hst : Cond.instanceMethod (mY M') ∈ TB) (hsel : Cond.selects vc.1 (mY M') (mY M') ∈ TB) (hR : zFit M M') (hcat : (rest.map fun v => v.category).sum ≤ 8) (hc : kc + (mR M').cells ≤ (mR M).cells) (hs : ks + (mR M').slots ≤ (mR M).slots)
    (k : ∀ (r : Option Value) (n' : Nat) (σ' : zWd), Po' r n' σ' → Z M Po (kc + (mR M').cells) (ks + (mR M').slots) n' σ' q lv (r.toList ++ rest)) : Z M Po kc ks n σ pc lv (As.reverse ++ .ref i :: rest) := by
  subst hq; intro p l e s m args below meth c b G D hC H locs ls hz hP hS hl
  have hts : ∀ w ∈ mW M, w.before args s = true := hC.2.2.2.2.1
  have hpre : PreV s H vc.1 (b + i) (zPc b G D n σ (.ref i :: As)) (As.map (zv b)) := ⟨zPc_blind, va_recv hC.k hP hvc (zw_O hs0 hi), zPc_pre hC hz hP⟩
  have hstk : (As.reverse ++ .ref i :: rest).map (zv b) = (As.map (zv b)).reverse ++ .ref (b + i) :: rest.map (zv b) := by rw [List.map_append, List.map_reverse]; rfl
  have hrun : va_Run p l e (mR M) s m args below meth c H locs kc ks (mR M').cells (mR M').slots (F0 m pc ls ((As.reverse ++ .ref i :: rest).map (zv b))) (rest.map (zv b)) (zQc b G D Po' (Value.ref (b + i) :: As.map (zv b)).toArray) (fun q => b ≤ q) := by
    rcases hl0 with hl0 | ⟨host, hl0⟩
    · exact va_runV (n := As.length) ⟨hC.1, hC.2.1, hC.2.2.1, hC.2.2.2.1, hts⟩ (hM l b G D) ⟨callB_of As.length hts (mW_good hk.1) rfl rfl rfl (hC.tb hk.2.1) (hC.tb hl0) hk.2.2 hR, hC.tb hst, hC.tb hsel⟩ hpre rfl (List.length_map _) hl.1 hstk (z_cat hcat) hd ⟨hc, hs⟩
    · exact va_runVN (n := As.length) ⟨hC.1, hC.2.1, hC.2.2.1, hC.2.2.2.1, hts⟩ (hM l b G D) ⟨va_cnB As.length hts (mW_good hk.1) rfl rfl rfl (hC.nb hl0) (hC.tb hk.2.1) hk.2.2 hR, hC.tb hst, hC.tb hsel⟩ hpre rfl (List.length_map _) hl.1 hstk (z_cat hcat) hd ⟨hc, hs⟩
  refine z_after hrun hS (fun r n' σ' hp H1 locs1 hz1 hP1 hS1 => ?_)
  have := k r n' σ' hp p l e s m args below meth c b G D hC H1 locs1 ls hz1 hP1 hS1 hl
  rw [List.map_append] at this
  cases r <;> exact this
theorem z_callI {M' : zMI} {idx i : Nat} {As rest : List Value} {Po' : Option Value → Nat → zWd → Prop} (hd : decode (mB M) pc = .ok (.invokespecial idx, 3)) (hq : pc + 3 = q) (hM : Ct M' (.ref i :: As) n σ Po') (hT : mT M' = none) (hy : (mY M').name = "<init>") (hk : zCk M' As.length) (hl0 : zLk (mY M).cls idx (mY M')) (hst : Cond.instanceMethod (mY M') ∈ TB) (hR : zFit M M') (hcat : (rest.map fun v => v.category).sum ≤ 8) (hc : kc + (mR M').cells ≤ (mR M).cells) (hs : ks + (mR M').slots ≤ (mR M).slots)
    (k : ∀ (r : Option Value) (n' : Nat) (σ' : zWd), Po' r n' σ' → Z M Po (kc + (mR M').cells) (ks + (mR M').slots) n' σ' q lv (r.toList ++ rest)) : Z M Po kc ks n σ pc lv (As.reverse ++ .ref i :: rest) := by
  subst hq; intro p l e s m args below meth c b G D hC H locs ls hz hP hS hl
  have hts : ∀ w ∈ mW M, w.before args s = true := hC.2.2.2.2.1
  have hpre : PreS s H (zPc b G D n σ (.ref i :: As)) (.ref (b + i) :: As.map (zv b)) := ⟨zPc_blind, zPc_pre (avs := .ref i :: As) hC hz hP⟩
  have hstk : (As.reverse ++ .ref i :: rest).map (zv b) = (As.map (zv b)).reverse ++ .ref (b + i) :: rest.map (zv b) := by rw [List.map_append, List.map_reverse]; rfl
  have hrun : va_Run p l e (mR M) s m args below meth c H locs kc ks (mR M').cells (mR M').slots (F0 m pc ls ((As.reverse ++ .ref i :: rest).map (zv b))) (rest.map (zv b)) (zQc b G D Po' (Value.ref (b + i) :: As.map (zv b)).toArray) (fun q => b ≤ q) := by
    rcases hl0 with hl0 | ⟨host, hl0⟩
    · exact va_runI (n := As.length) ⟨hC.1, hC.2.1, hC.2.2.1, hC.2.2.2.1, hts⟩ (hM l b G D) ⟨hT ▸ callB_of As.length hts (mW_good hk.1) rfl rfl rfl (hC.tb hk.2.1) (hC.tb hl0) hk.2.2 hR, hy, hC.tb hst⟩ hpre rfl (List.length_map _) hl.1 hstk (z_cat hcat) hd ⟨hc, hs⟩
    · exact va_runIN (n := As.length) ⟨hC.1, hC.2.1, hC.2.2.1, hC.2.2.2.1, hts⟩ (hM l b G D) ⟨hT ▸ va_cnB As.length hts (mW_good hk.1) rfl rfl rfl (hC.nb hl0) (hC.tb hk.2.1) hk.2.2 hR, hy, hC.tb hst⟩ hpre rfl (List.length_map _) hl.1 hstk (z_cat hcat) hd ⟨hc, hs⟩
  refine z_after hrun hS (fun r n' σ' hp H1 locs1 hz1 hP1 hS1 => ?_)
  have := k r n' σ' hp p l e s m args below meth c b G D hC H1 locs1 ls hz1 hP1 hS1 hl
  rw [List.map_append] at this
  cases r <;> exact this
theorem z_objInit {idx i : Nat} {rest : List Value} (hd : decode (mB M) pc = .ok (.invokespecial idx, 3)) (hq : pc + 3 = q) (h1 : Cond.methodLink (mY M).cls idx Lib.objectInit ∈ TB) (h2 : Cond.instanceMethod Lib.objectInit ∈ TB) (h3 : Cond.code Lib.objectInit ⟨#[0xb1]⟩ 1 none ∈ TB) (hf : 1 ≤ (mR M).frames) (hlo : 20 ≤ (mR M).locals) (hcat : (rest.map fun v => v.category).sum ≤ 8) (k : Z M Po kc ks n σ q lv rest) : Z M Po kc ks n σ pc lv (.ref i :: rest) := by
  subst hq; intro p l e s m args below meth c b G D hC H locs ls hz hP hS hl
  refine W.objInit hC.1 hC.2.1 hC.2.2.2.1 (hC.tb h1) (hC.tb h2) (hC.tb h3) rfl (by rw [hC.2.2.1]; exact hl.1) rfl hd hf ?_ (k p l e s m args below meth c b G D hC H locs ls hz hP hS hl)
  have := z_cat (b := b) (m := m) (pc := pc) (ls := ls) (r := (Value.ref i :: rest).map (zv b)) hcat
  omega

end ZW
end
