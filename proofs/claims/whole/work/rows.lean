section
-- ===== PART A: goes FIRST, ahead of the names: the tables' words, and 'selects' of the private methods out of them =====
/-- a private method of a class that the tables say can be made, by its rows of tables_1 -/
def lw_okq (q : MethodName × Nat) : Prop := (q.1.cls ≠ "java/lang/invoke/MethodHandle" ∧ q.1.cls ≠ "java/lang/invoke/VarHandle") ∧ Cond.instantiable q.1.cls q.2 ∈ tables_1 ∧ Cond.privateMethod q.1 ∈ tables_1 ∧ Cond.instanceMethod q.1 ∈ tables_1
theorem lw_p0 : lw_okq (⟨"RecurrentSeries", "numberFor", "(I)I"⟩, 9) := ⟨⟨by decide +kernel, by decide +kernel⟩, List.mem_of_getElem? (i := 10) (by decide +kernel), List.mem_of_getElem? (i := 141) (by decide +kernel), List.mem_of_getElem? (i := 142) (by decide +kernel)⟩
theorem lw_p1 : lw_okq (⟨"RecurrentSeries", "othersFit", "(I)Z"⟩, 9) := ⟨⟨by decide +kernel, by decide +kernel⟩, List.mem_of_getElem? (i := 10) (by decide +kernel), List.mem_of_getElem? (i := 145) (by decide +kernel), List.mem_of_getElem? (i := 146) (by decide +kernel)⟩
theorem lw_p2 : lw_okq (⟨"RecurrentSeries", "enlist", "(I)I"⟩, 9) := ⟨⟨by decide +kernel, by decide +kernel⟩, List.mem_of_getElem? (i := 10) (by decide +kernel), List.mem_of_getElem? (i := 155) (by decide +kernel), List.mem_of_getElem? (i := 156) (by decide +kernel)⟩
theorem lw_p3 : lw_okq (⟨"RecurrentSeries$Finder", "mend", "(JII)V"⟩, 3) := ⟨⟨by decide +kernel, by decide +kernel⟩, List.mem_of_getElem? (i := 20) (by decide +kernel), List.mem_of_getElem? (i := 178) (by decide +kernel), List.mem_of_getElem? (i := 179) (by decide +kernel)⟩
theorem lw_p4 : lw_okq (⟨"RecurrentSeries$Finder", "keepUnmended", "()V"⟩, 3) := ⟨⟨by decide +kernel, by decide +kernel⟩, List.mem_of_getElem? (i := 20) (by decide +kernel), List.mem_of_getElem? (i := 185) (by decide +kernel), List.mem_of_getElem? (i := 186) (by decide +kernel)⟩
theorem lw_p5 : lw_okq (⟨"RecurrentSeries", "isListed", "(I)Z"⟩, 9) := ⟨⟨by decide +kernel, by decide +kernel⟩, List.mem_of_getElem? (i := 10) (by decide +kernel), List.mem_of_getElem? (i := 198) (by decide +kernel), List.mem_of_getElem? (i := 199) (by decide +kernel)⟩
theorem lw_p6 : lw_okq (⟨"RecurrentSeries$Seeker", "load", "(LRecurrentSeries$Series;)V"⟩, 5) := ⟨⟨by decide +kernel, by decide +kernel⟩, List.mem_of_getElem? (i := 37) (by decide +kernel), List.mem_of_getElem? (i := 261) (by decide +kernel), List.mem_of_getElem? (i := 262) (by decide +kernel)⟩
theorem lw_p7 : lw_okq (⟨"RecurrentSeries$Seeker", "halve", "(II)V"⟩, 5) := ⟨⟨by decide +kernel, by decide +kernel⟩, List.mem_of_getElem? (i := 37) (by decide +kernel), List.mem_of_getElem? (i := 267) (by decide +kernel), List.mem_of_getElem? (i := 268) (by decide +kernel)⟩
theorem lw_p8 : lw_okq (⟨"RecurrentSeries$Seeker", "timesMirrored", "([JII)J"⟩, 5) := ⟨⟨by decide +kernel, by decide +kernel⟩, List.mem_of_getElem? (i := 37) (by decide +kernel), List.mem_of_getElem? (i := 271) (by decide +kernel), List.mem_of_getElem? (i := 272) (by decide +kernel)⟩
theorem lw_p9 : lw_okq (⟨"RecurrentSeriesModel", "settle", "(I)I"⟩, 13) := ⟨⟨by decide +kernel, by decide +kernel⟩, List.mem_of_getElem? (i := 304) (by decide +kernel), List.mem_of_getElem? (i := 367) (by decide +kernel), List.mem_of_getElem? (i := 368) (by decide +kernel)⟩
theorem lw_p10 : lw_okq (⟨"RecurrentSeriesModel", "ask", "(IIII)V"⟩, 13) := ⟨⟨by decide +kernel, by decide +kernel⟩, List.mem_of_getElem? (i := 304) (by decide +kernel), List.mem_of_getElem? (i := 371) (by decide +kernel), List.mem_of_getElem? (i := 372) (by decide +kernel)⟩
theorem lw_p11 : lw_okq (⟨"RecurrentSeriesModel", "solve", "(II)Z"⟩, 13) := ⟨⟨by decide +kernel, by decide +kernel⟩, List.mem_of_getElem? (i := 304) (by decide +kernel), List.mem_of_getElem? (i := 375) (by decide +kernel), List.mem_of_getElem? (i := 376) (by decide +kernel)⟩
theorem lw_p12 : lw_okq (⟨"RecurrentSeriesModel", "swapRows", "(III)V"⟩, 13) := ⟨⟨by decide +kernel, by decide +kernel⟩, List.mem_of_getElem? (i := 304) (by decide +kernel), List.mem_of_getElem? (i := 379) (by decide +kernel), List.mem_of_getElem? (i := 380) (by decide +kernel)⟩
theorem lw_p13 : lw_okq (⟨"RecurrentSeriesModel", "clean", "(IIII)V"⟩, 13) := ⟨⟨by decide +kernel, by decide +kernel⟩, List.mem_of_getElem? (i := 304) (by decide +kernel), List.mem_of_getElem? (i := 383) (by decide +kernel), List.mem_of_getElem? (i := 384) (by decide +kernel)⟩
theorem lw_p14 : lw_okq (⟨"RecurrentSeriesModel", "orderOf", "(I)I"⟩, 13) := ⟨⟨by decide +kernel, by decide +kernel⟩, List.mem_of_getElem? (i := 304) (by decide +kernel), List.mem_of_getElem? (i := 395) (by decide +kernel), List.mem_of_getElem? (i := 396) (by decide +kernel)⟩
theorem lw_p15 : lw_okq (⟨"RecurrentSeriesModel", "isIn", "(I)Z"⟩, 13) := ⟨⟨by decide +kernel, by decide +kernel⟩, List.mem_of_getElem? (i := 304) (by decide +kernel), List.mem_of_getElem? (i := 399) (by decide +kernel), List.mem_of_getElem? (i := 400) (by decide +kernel)⟩
def lw_privs_1 : List (MethodName × Nat) := [(⟨"RecurrentSeries", "numberFor", "(I)I"⟩, 9), (⟨"RecurrentSeries", "othersFit", "(I)Z"⟩, 9), (⟨"RecurrentSeries", "enlist", "(I)I"⟩, 9), (⟨"RecurrentSeries$Finder", "mend", "(JII)V"⟩, 3), (⟨"RecurrentSeries$Finder", "keepUnmended", "()V"⟩, 3), (⟨"RecurrentSeries", "isListed", "(I)Z"⟩, 9), (⟨"RecurrentSeries$Seeker", "load", "(LRecurrentSeries$Series;)V"⟩, 5), (⟨"RecurrentSeries$Seeker", "halve", "(II)V"⟩, 5), (⟨"RecurrentSeries$Seeker", "timesMirrored", "([JII)J"⟩, 5), (⟨"RecurrentSeriesModel", "settle", "(I)I"⟩, 13), (⟨"RecurrentSeriesModel", "ask", "(IIII)V"⟩, 13), (⟨"RecurrentSeriesModel", "solve", "(II)Z"⟩, 13), (⟨"RecurrentSeriesModel", "swapRows", "(III)V"⟩, 13), (⟨"RecurrentSeriesModel", "clean", "(IIII)V"⟩, 13), (⟨"RecurrentSeriesModel", "orderOf", "(I)I"⟩, 13), (⟨"RecurrentSeriesModel", "isIn", "(I)Z"⟩, 13)]
theorem lw_r1 : ∀ q ∈ lw_privs_1, lw_okq q := List.forall_mem_cons.mpr ⟨lw_p0, List.forall_mem_cons.mpr ⟨lw_p1, List.forall_mem_cons.mpr ⟨lw_p2, List.forall_mem_cons.mpr ⟨lw_p3, List.forall_mem_cons.mpr ⟨lw_p4, List.forall_mem_cons.mpr ⟨lw_p5, List.forall_mem_cons.mpr ⟨lw_p6, List.forall_mem_cons.mpr ⟨lw_p7, List.forall_mem_cons.mpr ⟨lw_p8, List.forall_mem_cons.mpr ⟨lw_p9, List.forall_mem_cons.mpr ⟨lw_p10, List.forall_mem_cons.mpr ⟨lw_p11, List.forall_mem_cons.mpr ⟨lw_p12, List.forall_mem_cons.mpr ⟨lw_p13, List.forall_mem_cons.mpr ⟨lw_p14, List.forall_mem_cons.mpr ⟨lw_p15, fun _ h => absurd h List.not_mem_nil⟩⟩⟩⟩⟩⟩⟩⟩⟩⟩⟩⟩⟩⟩⟩⟩
theorem lw_p16 : lw_okq (⟨"RecurrentSeriesModel", "refusal", "(ZI)I"⟩, 13) := ⟨⟨by decide +kernel, by decide +kernel⟩, List.mem_of_getElem? (i := 304) (by decide +kernel), List.mem_of_getElem? (i := 403) (by decide +kernel), List.mem_of_getElem? (i := 404) (by decide +kernel)⟩
theorem lw_p17 : lw_okq (⟨"RecurrentSeriesModel", "expand", "(III)V"⟩, 13) := ⟨⟨by decide +kernel, by decide +kernel⟩, List.mem_of_getElem? (i := 304) (by decide +kernel), List.mem_of_getElem? (i := 407) (by decide +kernel), List.mem_of_getElem? (i := 408) (by decide +kernel)⟩
theorem lw_p18 : lw_okq (⟨"RecurrentSeriesModel", "makeStep", "(II)V"⟩, 13) := ⟨⟨by decide +kernel, by decide +kernel⟩, List.mem_of_getElem? (i := 304) (by decide +kernel), List.mem_of_getElem? (i := 464) (by decide +kernel), List.mem_of_getElem? (i := 465) (by decide +kernel)⟩
theorem lw_p19 : lw_okq (⟨"RecurrentSeriesModel", "applyStep", "(I)V"⟩, 13) := ⟨⟨by decide +kernel, by decide +kernel⟩, List.mem_of_getElem? (i := 304) (by decide +kernel), List.mem_of_getElem? (i := 468) (by decide +kernel), List.mem_of_getElem? (i := 469) (by decide +kernel)⟩
theorem lw_p20 : lw_okq (⟨"RecurrentSeriesModel", "squareStep", "(I)V"⟩, 13) := ⟨⟨by decide +kernel, by decide +kernel⟩, List.mem_of_getElem? (i := 304) (by decide +kernel), List.mem_of_getElem? (i := 472) (by decide +kernel), List.mem_of_getElem? (i := 473) (by decide +kernel)⟩
def lw_privs_2 : List (MethodName × Nat) := [(⟨"RecurrentSeriesModel", "refusal", "(ZI)I"⟩, 13), (⟨"RecurrentSeriesModel", "expand", "(III)V"⟩, 13), (⟨"RecurrentSeriesModel", "makeStep", "(II)V"⟩, 13), (⟨"RecurrentSeriesModel", "applyStep", "(I)V"⟩, 13), (⟨"RecurrentSeriesModel", "squareStep", "(I)V"⟩, 13)]
theorem lw_r2 : ∀ q ∈ lw_privs_2, lw_okq q := List.forall_mem_cons.mpr ⟨lw_p16, List.forall_mem_cons.mpr ⟨lw_p17, List.forall_mem_cons.mpr ⟨lw_p18, List.forall_mem_cons.mpr ⟨lw_p19, List.forall_mem_cons.mpr ⟨lw_p20, fun _ h => absurd h List.not_mem_nil⟩⟩⟩⟩⟩
def lw_privs : List (MethodName × Nat) := lw_privs_1 ++ (lw_privs_2)
def lw_tbl : List Cond := k2_sels lw_privs ++ tables_1
theorem lw_privs_ok : ∀ q ∈ lw_privs, lw_okq q := by
  show ∀ q ∈ lw_privs_1 ++ (lw_privs_2), lw_okq q
  exact List.forall_mem_append.mpr ⟨lw_r1, lw_r2⟩
end
section
/-! Names: classes with their fields in the order of the slots, methods with their code, types and rooms -/
def zT_rs : u_T := fun k => match k with
  | 0 => ("RecurrentSeries", "list", "[LRecurrentSeries$Series;", true)
  | 1 => ("RecurrentSeries", "row", "[J", true)
  | 2 => ("RecurrentSeries", "made", "[J", true)
  | 3 => ("RecurrentSeries", "walk", "[J", true)
  | 4 => ("RecurrentSeries", "finder", "LRecurrentSeries$Finder;", true)
  | 5 => ("RecurrentSeries", "seeker", "LRecurrentSeries$Seeker;", true)
  | 6 => ("RecurrentSeries", "divider", "LRecurrentSeries$Divider;", true)
  | 7 => ("RecurrentSeries", "listed", "I", false)
  | _ => ("RecurrentSeries", "given", "I", false)
def zY_rs : Nat → FieldType := fun k => match k with
  | 0 => .array (.object "RecurrentSeries$Series")
  | 1 => .array .long
  | 2 => .array .long
  | 3 => .array .long
  | 4 => .object "RecurrentSeries$Finder"
  | 5 => .object "RecurrentSeries$Seeker"
  | 6 => .object "RecurrentSeries$Divider"
  | 7 => .int
  | _ => .int
theorem zY_rs_ok : ∀ k, k < 9 → parseFieldDescriptor (zT_rs k).2.2.1 = some (zY_rs k) := by decide +kernel
theorem zT_rs_nm : ∀ a, a < 9 → ∀ b, b < 9 → a ≠ b → (zT_rs a).2.1 ≠ (zT_rs b).2.1 := by decide +kernel
def zT_se : u_T := fun k => match k with
  | 0 => ("RecurrentSeries$Series", "order", "I", false)
  | 1 => ("RecurrentSeries$Series", "coefficients", "[J", true)
  | _ => ("RecurrentSeries$Series", "terms", "[J", true)
def zY_se : Nat → FieldType := fun k => match k with
  | 0 => .int
  | 1 => .array .long
  | _ => .array .long
theorem zY_se_ok : ∀ k, k < 3 → parseFieldDescriptor (zT_se k).2.2.1 = some (zY_se k) := by decide +kernel
theorem zT_se_nm : ∀ a, a < 3 → ∀ b, b < 3 → a ≠ b → (zT_se a).2.1 ≠ (zT_se b).2.1 := by decide +kernel
def zT_fi : u_T := fun k => match k with
  | 0 => ("RecurrentSeries$Finder", "now", "[J", false)
  | 1 => ("RecurrentSeries$Finder", "before", "[J", false)
  | _ => ("RecurrentSeries$Finder", "spare", "[J", false)
def zY_fi : Nat → FieldType := fun k => match k with
  | 0 => .array .long
  | 1 => .array .long
  | _ => .array .long
theorem zY_fi_ok : ∀ k, k < 3 → parseFieldDescriptor (zT_fi k).2.2.1 = some (zY_fi k) := by decide +kernel
theorem zT_fi_nm : ∀ a, a < 3 → ∀ b, b < 3 → a ≠ b → (zT_fi a).2.1 ≠ (zT_fi b).2.1 := by decide +kernel
def zT_sk : u_T := fun k => match k with
  | 0 => ("RecurrentSeries$Seeker", "top", "[J", false)
  | 1 => ("RecurrentSeries$Seeker", "bottom", "[J", false)
  | 2 => ("RecurrentSeries$Seeker", "nextTop", "[J", false)
  | 3 => ("RecurrentSeries$Seeker", "nextBottom", "[J", false)
  | _ => ("RecurrentSeries$Seeker", "mirrored", "[J", true)
def zY_sk : Nat → FieldType := fun k => match k with
  | 0 => .array .long
  | 1 => .array .long
  | 2 => .array .long
  | 3 => .array .long
  | _ => .array .long
theorem zY_sk_ok : ∀ k, k < 5 → parseFieldDescriptor (zT_sk k).2.2.1 = some (zY_sk k) := by decide +kernel
theorem zT_sk_nm : ∀ a, a < 5 → ∀ b, b < 5 → a ≠ b → (zT_sk a).2.1 ≠ (zT_sk b).2.1 := by decide +kernel
def zT_dv : u_T := fun k => match k with
  | 0 => ("RecurrentSeries$Divider", "first", "[J", true)
  | _ => ("RecurrentSeries$Divider", "second", "[J", true)
def zY_dv : Nat → FieldType := fun k => match k with
  | 0 => .array .long
  | _ => .array .long
theorem zY_dv_ok : ∀ k, k < 2 → parseFieldDescriptor (zT_dv k).2.2.1 = some (zY_dv k) := by decide +kernel
theorem zT_dv_nm : ∀ a, a < 2 → ∀ b, b < 2 → a ≠ b → (zT_dv a).2.1 ≠ (zT_dv b).2.1 := by decide +kernel
def zT_mo : u_T := fun k => match k with
  | 0 => ("RecurrentSeriesModel", "size", "I", false)
  | 1 => ("RecurrentSeriesModel", "given", "I", false)
  | 2 => ("RecurrentSeriesModel", "row", "[J", true)
  | 3 => ("RecurrentSeriesModel", "orders", "[I", true)
  | 4 => ("RecurrentSeriesModel", "coefs", "[J", true)
  | 5 => ("RecurrentSeriesModel", "firsts", "[J", true)
  | 6 => ("RecurrentSeriesModel", "t", "[J", true)
  | 7 => ("RecurrentSeriesModel", "grid", "[J", true)
  | 8 => ("RecurrentSeriesModel", "pivot", "[I", true)
  | 9 => ("RecurrentSeriesModel", "step", "[J", true)
  | 10 => ("RecurrentSeriesModel", "square", "[J", true)
  | 11 => ("RecurrentSeriesModel", "vector", "[J", true)
  | _ => ("RecurrentSeriesModel", "moved", "[J", true)
def zY_mo : Nat → FieldType := fun k => match k with
  | 0 => .int
  | 1 => .int
  | 2 => .array .long
  | 3 => .array .int
  | 4 => .array .long
  | 5 => .array .long
  | 6 => .array .long
  | 7 => .array .long
  | 8 => .array .int
  | 9 => .array .long
  | 10 => .array .long
  | 11 => .array .long
  | _ => .array .long
theorem zY_mo_ok : ∀ k, k < 13 → parseFieldDescriptor (zT_mo k).2.2.1 = some (zY_mo k) := by decide +kernel
theorem zT_mo_nm : ∀ a, a < 13 → ∀ b, b < 13 → a ≠ b → (zT_mo a).2.1 ≠ (zT_mo b).2.1 := by decide +kernel
abbrev zCl : List vw_C := [("RecurrentSeries", zT_rs, 9), ("RecurrentSeries$Series", zT_se, 3), ("RecurrentSeries$Finder", zT_fi, 3), ("RecurrentSeries$Seeker", zT_sk, 5), ("RecurrentSeries$Divider", zT_dv, 2), ("RecurrentSeriesModel", zT_mo, 13)]
abbrev zMI : Type := MethodName × ByteArray × Nat × Option FieldType × Room
abbrev m_rs_init : zMI := (⟨"RecurrentSeries", "<init>", "()V"⟩, prog_1_method_1_code, 2, none, { frames := 2, cells := 77, slots := 5514, locals := 40 })
abbrev m_rs_give : zMI := (⟨"RecurrentSeries", "give", "(I)Z"⟩, prog_1_method_2_code, 2, some FieldType.boolean, { frames := 1, cells := 0, slots := 0, locals := 22 })
abbrev m_rs_clear : zMI := (⟨"RecurrentSeries", "clear", "()I"⟩, prog_1_method_3_code, 2, some FieldType.int, { frames := 0, cells := 0, slots := 0, locals := 0 })
abbrev m_rs_leaf : zMI := (⟨"RecurrentSeries", "leaf", "(I)I"⟩, prog_1_method_4_code, 4, some FieldType.int, { frames := 4, cells := 0, slots := 0, locals := 107 })
abbrev m_rs_combine : zMI := (⟨"RecurrentSeries", "combine", "(IIII)I"⟩, prog_1_method_5_code, 14, some FieldType.int, { frames := 4, cells := 0, slots := 0, locals := 107 })
abbrev m_rs_product : zMI := (⟨"RecurrentSeries", "product", "(II)I"⟩, prog_1_method_6_code, 11, some FieldType.int, { frames := 4, cells := 0, slots := 0, locals := 107 })
abbrev m_rs_pairwise : zMI := (⟨"RecurrentSeries", "pairwise", "(II)I"⟩, prog_1_method_7_code, 8, some FieldType.int, { frames := 4, cells := 0, slots := 0, locals := 107 })
abbrev m_rs_derivative : zMI := (⟨"RecurrentSeries", "derivative", "(I)I"⟩, prog_1_method_8_code, 6, some FieldType.int, { frames := 4, cells := 0, slots := 0, locals := 107 })
abbrev m_rs_tail : zMI := (⟨"RecurrentSeries", "tail", "(I)I"⟩, prog_1_method_9_code, 6, some FieldType.int, { frames := 4, cells := 0, slots := 0, locals := 107 })
abbrev m_rs_delay : zMI := (⟨"RecurrentSeries", "delay", "(I)I"⟩, prog_1_method_10_code, 6, some FieldType.int, { frames := 4, cells := 0, slots := 0, locals := 107 })
abbrev m_rs_sums : zMI := (⟨"RecurrentSeries", "sums", "(I)I"⟩, prog_1_method_11_code, 8, some FieldType.int, { frames := 4, cells := 0, slots := 0, locals := 107 })
abbrev m_rs_section : zMI := (⟨"RecurrentSeries", "section", "(III)I"⟩, prog_1_method_12_code, 8, some FieldType.int, { frames := 4, cells := 0, slots := 0, locals := 107 })
abbrev m_rs_spread : zMI := (⟨"RecurrentSeries", "spread", "(II)I"⟩, prog_1_method_13_code, 7, some FieldType.int, { frames := 4, cells := 0, slots := 0, locals := 107 })
abbrev m_rs_forget : zMI := (⟨"RecurrentSeries", "forget", "()Z"⟩, prog_1_method_14_code, 1, some FieldType.boolean, { frames := 0, cells := 0, slots := 0, locals := 0 })
abbrev m_rs_count : zMI := (⟨"RecurrentSeries", "count", "()I"⟩, prog_1_method_15_code, 1, some FieldType.int, { frames := 0, cells := 0, slots := 0, locals := 0 })
abbrev m_rs_order : zMI := (⟨"RecurrentSeries", "order", "(I)I"⟩, prog_1_method_16_code, 2, some FieldType.int, { frames := 1, cells := 0, slots := 0, locals := 21 })
abbrev m_rs_coefficient : zMI := (⟨"RecurrentSeries", "coefficient", "(II)I"⟩, prog_1_method_17_code, 3, some FieldType.int, { frames := 1, cells := 0, slots := 0, locals := 21 })
abbrev m_rs_term : zMI := (⟨"RecurrentSeries", "term", "(IJ)I"⟩, prog_1_method_18_code, 4, some FieldType.int, { frames := 4, cells := 0, slots := 0, locals := 99 })
abbrev m_rs_differ : zMI := (⟨"RecurrentSeries", "differ", "(II)I"⟩, prog_1_method_19_code, 6, some FieldType.int, { frames := 1, cells := 0, slots := 0, locals := 21 })
abbrev m_rs_obeys : zMI := (⟨"RecurrentSeries", "obeys", "(I)Z"⟩, prog_1_method_20_code, 4, some FieldType.boolean, { frames := 2, cells := 0, slots := 0, locals := 51 })
abbrev m_rs_shared : zMI := (⟨"RecurrentSeries", "shared", "(II)I"⟩, prog_1_method_21_code, 5, some FieldType.int, { frames := 4, cells := 0, slots := 0, locals := 109 })
abbrev m_rs_isListed : zMI := (⟨"RecurrentSeries", "isListed", "(I)Z"⟩, prog_1_method_22_code, 2, some FieldType.boolean, { frames := 0, cells := 0, slots := 0, locals := 0 })
abbrev m_rs_numberFor : zMI := (⟨"RecurrentSeries", "numberFor", "(I)I"⟩, prog_1_method_23_code, 2, some FieldType.int, { frames := 0, cells := 0, slots := 0, locals := 0 })
abbrev m_rs_othersFit : zMI := (⟨"RecurrentSeries", "othersFit", "(I)Z"⟩, prog_1_method_24_code, 3, some FieldType.boolean, { frames := 2, cells := 0, slots := 0, locals := 51 })
abbrev m_rs_enlist : zMI := (⟨"RecurrentSeries", "enlist", "(I)I"⟩, prog_1_method_25_code, 4, some FieldType.int, { frames := 3, cells := 0, slots := 0, locals := 84 })
abbrev m_mo_init : zMI := (⟨"RecurrentSeriesModel", "<init>", "()V"⟩, prog_8_method_1_code, 1, none, { frames := 1, cells := 11, slots := 7020, locals := 20 })
abbrev m_mo_number : zMI := (⟨"RecurrentSeriesModel", "number", "(I)J"⟩, prog_8_method_2_code, 3, some FieldType.long, { frames := 0, cells := 0, slots := 0, locals := 0 })
abbrev m_mo_inverse : zMI := (⟨"RecurrentSeriesModel", "inverse", "(J)J"⟩, prog_8_method_3_code, 8, some FieldType.long, { frames := 0, cells := 0, slots := 0, locals := 0 })
abbrev m_mo_isIn : zMI := (⟨"RecurrentSeriesModel", "isIn", "(I)Z"⟩, prog_8_method_4_code, 2, some FieldType.boolean, { frames := 0, cells := 0, slots := 0, locals := 0 })
abbrev m_mo_expand : zMI := (⟨"RecurrentSeriesModel", "expand", "(III)V"⟩, prog_8_method_5_code, 9, none, { frames := 0, cells := 0, slots := 0, locals := 0 })
abbrev m_mo_ask : zMI := (⟨"RecurrentSeriesModel", "ask", "(IIII)V"⟩, prog_8_method_6_code, 8, none, { frames := 0, cells := 0, slots := 0, locals := 0 })
abbrev m_mo_swapRows : zMI := (⟨"RecurrentSeriesModel", "swapRows", "(III)V"⟩, prog_8_method_7_code, 7, none, { frames := 0, cells := 0, slots := 0, locals := 0 })
abbrev m_mo_clean : zMI := (⟨"RecurrentSeriesModel", "clean", "(IIII)V"⟩, prog_8_method_8_code, 13, none, { frames := 1, cells := 0, slots := 0, locals := 27 })
abbrev m_mo_solve : zMI := (⟨"RecurrentSeriesModel", "solve", "(II)Z"⟩, prog_8_method_9_code, 6, some FieldType.boolean, { frames := 2, cells := 0, slots := 0, locals := 59 })
abbrev m_mo_settle : zMI := (⟨"RecurrentSeriesModel", "settle", "(I)I"⟩, prog_8_method_10_code, 4, some FieldType.int, { frames := 3, cells := 0, slots := 0, locals := 84 })
abbrev m_mo_give : zMI := (⟨"RecurrentSeriesModel", "give", "(I)Z"⟩, prog_8_method_11_code, 2, some FieldType.boolean, { frames := 1, cells := 0, slots := 0, locals := 22 })
abbrev m_mo_clear : zMI := (⟨"RecurrentSeriesModel", "clear", "()I"⟩, prog_8_method_12_code, 2, some FieldType.int, { frames := 0, cells := 0, slots := 0, locals := 0 })
abbrev m_mo_leaf : zMI := (⟨"RecurrentSeriesModel", "leaf", "(I)I"⟩, prog_8_method_13_code, 6, some FieldType.int, { frames := 4, cells := 0, slots := 0, locals := 107 })
abbrev m_mo_refusal : zMI := (⟨"RecurrentSeriesModel", "refusal", "(ZI)I"⟩, prog_8_method_14_code, 3, some FieldType.int, { frames := 0, cells := 0, slots := 0, locals := 0 })
abbrev m_mo_orderOf : zMI := (⟨"RecurrentSeriesModel", "orderOf", "(I)I"⟩, prog_8_method_15_code, 2, some FieldType.int, { frames := 1, cells := 0, slots := 0, locals := 21 })
abbrev m_mo_combine : zMI := (⟨"RecurrentSeriesModel", "combine", "(IIII)I"⟩, prog_8_method_16_code, 12, some FieldType.int, { frames := 4, cells := 0, slots := 0, locals := 107 })
abbrev m_mo_product : zMI := (⟨"RecurrentSeriesModel", "product", "(II)I"⟩, prog_8_method_17_code, 9, some FieldType.int, { frames := 4, cells := 0, slots := 0, locals := 107 })
abbrev m_mo_pairwise : zMI := (⟨"RecurrentSeriesModel", "pairwise", "(II)I"⟩, prog_8_method_18_code, 6, some FieldType.int, { frames := 4, cells := 0, slots := 0, locals := 107 })
abbrev m_mo_derivative : zMI := (⟨"RecurrentSeriesModel", "derivative", "(I)I"⟩, prog_8_method_19_code, 5, some FieldType.int, { frames := 4, cells := 0, slots := 0, locals := 107 })
abbrev m_mo_tail : zMI := (⟨"RecurrentSeriesModel", "tail", "(I)I"⟩, prog_8_method_20_code, 2, some FieldType.int, { frames := 5, cells := 0, slots := 0, locals := 133 })
abbrev m_mo_delay : zMI := (⟨"RecurrentSeriesModel", "delay", "(I)I"⟩, prog_8_method_21_code, 5, some FieldType.int, { frames := 4, cells := 0, slots := 0, locals := 107 })
abbrev m_mo_sums : zMI := (⟨"RecurrentSeriesModel", "sums", "(I)I"⟩, prog_8_method_22_code, 7, some FieldType.int, { frames := 4, cells := 0, slots := 0, locals := 107 })
abbrev m_mo_section : zMI := (⟨"RecurrentSeriesModel", "section", "(III)I"⟩, prog_8_method_23_code, 7, some FieldType.int, { frames := 4, cells := 0, slots := 0, locals := 107 })
abbrev m_mo_spread : zMI := (⟨"RecurrentSeriesModel", "spread", "(II)I"⟩, prog_8_method_24_code, 7, some FieldType.int, { frames := 4, cells := 0, slots := 0, locals := 107 })
abbrev m_mo_forget : zMI := (⟨"RecurrentSeriesModel", "forget", "()Z"⟩, prog_8_method_25_code, 1, some FieldType.boolean, { frames := 0, cells := 0, slots := 0, locals := 0 })
abbrev m_mo_count : zMI := (⟨"RecurrentSeriesModel", "count", "()I"⟩, prog_8_method_26_code, 1, some FieldType.int, { frames := 0, cells := 0, slots := 0, locals := 0 })
abbrev m_mo_order : zMI := (⟨"RecurrentSeriesModel", "order", "(I)I"⟩, prog_8_method_27_code, 2, some FieldType.int, { frames := 1, cells := 0, slots := 0, locals := 21 })
abbrev m_mo_coefficient : zMI := (⟨"RecurrentSeriesModel", "coefficient", "(II)I"⟩, prog_8_method_28_code, 3, some FieldType.int, { frames := 2, cells := 0, slots := 0, locals := 42 })
abbrev m_mo_makeStep : zMI := (⟨"RecurrentSeriesModel", "makeStep", "(II)V"⟩, prog_8_method_29_code, 5, none, { frames := 0, cells := 0, slots := 0, locals := 0 })
abbrev m_mo_applyStep : zMI := (⟨"RecurrentSeriesModel", "applyStep", "(I)V"⟩, prog_8_method_30_code, 6, none, { frames := 0, cells := 0, slots := 0, locals := 0 })
abbrev m_mo_squareStep : zMI := (⟨"RecurrentSeriesModel", "squareStep", "(I)V"⟩, prog_8_method_31_code, 7, none, { frames := 0, cells := 0, slots := 0, locals := 0 })
abbrev m_mo_term : zMI := (⟨"RecurrentSeriesModel", "term", "(IJ)I"⟩, prog_8_method_32_code, 7, some FieldType.int, { frames := 1, cells := 0, slots := 0, locals := 26 })
abbrev m_mo_differ : zMI := (⟨"RecurrentSeriesModel", "differ", "(II)I"⟩, prog_8_method_33_code, 5, some FieldType.int, { frames := 1, cells := 0, slots := 0, locals := 28 })
abbrev m_mo_obeys : zMI := (⟨"RecurrentSeriesModel", "obeys", "(I)Z"⟩, prog_8_method_34_code, 6, some FieldType.boolean, { frames := 1, cells := 0, slots := 0, locals := 28 })
abbrev m_mo_shared : zMI := (⟨"RecurrentSeriesModel", "shared", "(II)I"⟩, prog_8_method_35_code, 6, some FieldType.int, { frames := 3, cells := 0, slots := 0, locals := 84 })
abbrev m_dv_init : zMI := (⟨"RecurrentSeries$Divider", "<init>", "()V"⟩, prog_2_method_1_code, 1, none, { frames := 1, cells := 2, slots := 98, locals := 20 })
abbrev m_dv_commonDegree : zMI := (⟨"RecurrentSeries$Divider", "commonDegree", "(LRecurrentSeries$Series;LRecurrentSeries$Series;)I"⟩, prog_2_method_2_code, 10, some FieldType.int, { frames := 3, cells := 0, slots := 0, locals := 80 })
abbrev m_dv_load : zMI := (⟨"RecurrentSeries$Divider", "load", "([JLRecurrentSeries$Series;)V"⟩, prog_2_method_3_code, 3, none, { frames := 1, cells := 0, slots := 0, locals := 23 })
abbrev m_dv_reduce : zMI := (⟨"RecurrentSeries$Divider", "reduce", "([JI[JI)I"⟩, prog_2_method_4_code, 11, some FieldType.int, { frames := 2, cells := 0, slots := 0, locals := 50 })
abbrev m_fi_init : zMI := (⟨"RecurrentSeries$Finder", "<init>", "()V"⟩, prog_3_method_1_code, 1, none, { frames := 1, cells := 3, slots := 144, locals := 20 })
abbrev m_fi_find : zMI := (⟨"RecurrentSeries$Finder", "find", "([JILRecurrentSeries$Series;)V"⟩, prog_3_method_2_code, 14, none, { frames := 2, cells := 0, slots := 0, locals := 51 })
abbrev m_fi_mend : zMI := (⟨"RecurrentSeries$Finder", "mend", "(JII)V"⟩, prog_3_method_3_code, 6, none, { frames := 1, cells := 0, slots := 0, locals := 23 })
abbrev m_fi_keepUnmended : zMI := (⟨"RecurrentSeries$Finder", "keepUnmended", "()V"⟩, prog_3_method_4_code, 2, none, { frames := 0, cells := 0, slots := 0, locals := 0 })
abbrev m_fi_erase : zMI := (⟨"RecurrentSeries$Finder", "erase", "([J)V"⟩, prog_3_method_5_code, 2, none, { frames := 0, cells := 0, slots := 0, locals := 0 })
abbrev m_nu_of : zMI := (⟨"RecurrentSeries$Numbers", "of", "(I)J"⟩, prog_4_method_2_code, 3, some FieldType.long, { frames := 0, cells := 0, slots := 0, locals := 0 })
abbrev m_nu_plus : zMI := (⟨"RecurrentSeries$Numbers", "plus", "(JJ)J"⟩, prog_4_method_3_code, 4, some FieldType.long, { frames := 0, cells := 0, slots := 0, locals := 0 })
abbrev m_nu_minus : zMI := (⟨"RecurrentSeries$Numbers", "minus", "(JJ)J"⟩, prog_4_method_4_code, 4, some FieldType.long, { frames := 0, cells := 0, slots := 0, locals := 0 })
abbrev m_nu_times : zMI := (⟨"RecurrentSeries$Numbers", "times", "(JJ)J"⟩, prog_4_method_5_code, 4, some FieldType.long, { frames := 0, cells := 0, slots := 0, locals := 0 })
abbrev m_nu_plusTimes : zMI := (⟨"RecurrentSeries$Numbers", "plusTimes", "(JJJ)J"⟩, prog_4_method_6_code, 6, some FieldType.long, { frames := 0, cells := 0, slots := 0, locals := 0 })
abbrev m_nu_inverse : zMI := (⟨"RecurrentSeries$Numbers", "inverse", "(J)J"⟩, prog_4_method_7_code, 8, some FieldType.long, { frames := 1, cells := 0, slots := 0, locals := 23 })
abbrev m_nu_foretold : zMI := (⟨"RecurrentSeries$Numbers", "foretold", "([JI[JI)J"⟩, prog_4_method_8_code, 7, some FieldType.long, { frames := 1, cells := 0, slots := 0, locals := 25 })
abbrev m_sk_init : zMI := (⟨"RecurrentSeries$Seeker", "<init>", "()V"⟩, prog_5_method_1_code, 1, none, { frames := 1, cells := 5, slots := 245, locals := 20 })
abbrev m_sk_seek : zMI := (⟨"RecurrentSeries$Seeker", "seek", "(LRecurrentSeries$Series;J)J"⟩, prog_5_method_2_code, 5, some FieldType.long, { frames := 3, cells := 0, slots := 0, locals := 75 })
abbrev m_sk_load : zMI := (⟨"RecurrentSeries$Seeker", "load", "(LRecurrentSeries$Series;)V"⟩, prog_5_method_3_code, 5, none, { frames := 2, cells := 0, slots := 0, locals := 51 })
abbrev m_sk_halve : zMI := (⟨"RecurrentSeries$Seeker", "halve", "(II)V"⟩, prog_5_method_4_code, 4, none, { frames := 2, cells := 0, slots := 0, locals := 51 })
abbrev m_sk_timesMirrored : zMI := (⟨"RecurrentSeries$Seeker", "timesMirrored", "([JII)J"⟩, prog_5_method_5_code, 7, some FieldType.long, { frames := 1, cells := 0, slots := 0, locals := 25 })
abbrev m_se_init : zMI := (⟨"RecurrentSeries$Series", "<init>", "()V"⟩, prog_6_method_1_code, 1, none, { frames := 1, cells := 2, slots := 136, locals := 20 })
abbrev m_se_writeTerms : zMI := (⟨"RecurrentSeries$Series", "writeTerms", "([JI)V"⟩, prog_6_method_2_code, 4, none, { frames := 2, cells := 0, slots := 0, locals := 51 })
abbrev m_ma_max : zMI := (⟨"java/lang/Math", "max", "(II)I"⟩, prog_9_method_65_code, 2, some FieldType.int, { frames := 0, cells := 0, slots := 0, locals := 0 })
end
section
/-! The walk's own judgement. A method is named by a tuple (its name, code, locals, type, room); the words of every method are the same, TB; the world is a function from places to cells: place i lies at address b + i, an array class is named by a number (0: ints, 1: longs, 2: Series). Z M Po kc ks n σ pc lv st: from pc, with locals lv, stack st and the world σ of n cells, the method comes to its end with Po. Ct M avs n σ Po: its contract. -/

abbrev zWd : Type := Nat → va_E
abbrev mY (M : zMI) : MethodName := M.1
abbrev mB (M : zMI) : ByteArray := M.2.1
abbrev mL (M : zMI) : Nat := M.2.2.1
abbrev mT (M : zMI) : Option FieldType := M.2.2.2.1
abbrev mR (M : zMI) : Room := M.2.2.2.2
def TB : List Cond := lw_tbl.filter goodWord
def zIsNest : Cond → Bool
  | .fieldLinkNest .. => true
  | .methodLinkNest .. => true
  | .arrayOver (.object _) => true
  | _ => false
def NB : List Cond := tables_1.filter zIsNest
def mW (M : zMI) : List Cond := .code (mY M) (mB M) (mL M) (mT M) :: TB
theorem mW_tb {M : zMI} {w : Cond} (h : w ∈ TB) : w ∈ mW M := List.mem_cons_of_mem _ h
theorem TB_in {w : Cond} (h : w ∈ lw_tbl) (hg : goodWord w = true) : w ∈ TB := List.mem_filter.mpr ⟨h, hg⟩
theorem NB_in {w : Cond} (h : w ∈ tables_1) (hg : zIsNest w = true) : w ∈ NB := List.mem_filter.mpr ⟨h, hg⟩
theorem mW_good {M M' : zMI} (h : Cond.code (mY M') (mB M') (mL M') (mT M') ∈ TB) : GoodIn (mW M) (mW M') := by
  intro w hw
  have hT : w ∈ TB := by
    rcases List.mem_cons.mp hw with rfl | hw
    · exact h
    · exact hw
  exact ⟨mW_tb hT, good_of_word (List.mem_filter.mp hT).2⟩
theorem NB_warm {s U : State} (hW : s.WarmedH U.vm) (h : ∀ w ∈ NB, va_Nw w s) : ∀ w ∈ NB, va_Nw w U := by
  intro w hw
  have h1 := h w hw
  have h2 := (List.mem_filter.mp hw).2
  cases w with
  | fieldLinkNest => exact va_Nw.warmF hW h1
  | methodLinkNest => exact va_Nw.warmM hW h1
  | arrayOver t => cases t <;> first | exact va_AO.moved hW.alike h1 | cases h2
  | _ => cases h2
theorem NB_same {s U : State} (hW : s.vm = U.vm) (h : ∀ w ∈ NB, va_Nw w s) : ∀ w ∈ NB, va_Nw w U := by
  intro w hw
  have h1 := h w hw
  have h2 := (List.mem_filter.mp hw).2
  cases w with
  | fieldLinkNest => exact va_Nw.same rfl hW h1
  | methodLinkNest => exact va_Nw.same rfl hW h1
  | arrayOver t => cases t <;> first | exact va_AO.moved (by rw [hW]; exact Vm.Alike.refl _) h1 | cases h2
  | _ => cases h2
/-- values and cells of the world as they lie in the heap -/
def zv (b : Nat) : Value → Value
  | .ref i => .ref (b + i)
  | v => v
theorem zv_cat (b : Nat) (v : Value) : (zv b v).category = v.category := by cases v <;> rfl
def ze (b : Nat) (G : Nat → ClassId) : va_E → va_E
  | .inl (t, n, .inr (.inr (.inr (.inr f)))) => .inl (G t, n, .inr (.inr (.inr (.inr (fun j => (f j).map (b + ·))))))
  | .inl (t, a) => .inl (G t, a)
  | .inr (c, fs) => .inr (c, fs.map (zv b))
def zN (N : Nat) (g : Nat → Nat) : va_E := .inl (1, N, .inr (.inl fun j => lN (g j)))
def zI (N : Nat) (f : Nat → Int32) : va_E := .inl (0, N, .inl f)
def zR (N : Nat) (f : Nat → Option Nat) : va_E := .inl (2, N, .inr (.inr (.inr (.inr f))))
def zO (c : Nat) (fs : List Value) : va_E := .inr (c, fs)
theorem ze_N (b : Nat) (G : Nat → ClassId) (N : Nat) (g : Nat → Nat) : ze b G (zN N g) = .inl (G 1, N, .inr (.inl fun j => lN (g j))) := rfl
theorem ze_I (b : Nat) (G : Nat → ClassId) (N : Nat) (f : Nat → Int32) : ze b G (zI N f) = .inl (G 0, N, .inl f) := rfl
theorem ze_R (b : Nat) (G : Nat → ClassId) (N : Nat) (f : Nat → Option Nat) : ze b G (zR N f) = .inl (G 2, N, .inr (.inr (.inr (.inr (fun j => (f j).map (b + ·)))))) := rfl
theorem ze_O (b : Nat) (G : Nat → ClassId) (c : Nat) (fs : List Value) : ze b G (zO c fs) = .inr (c, fs.map (zv b)) := rfl
def zw (b : Nat) (G : Nat → ClassId) (n : Nat) (σ : zWd) : va_W := (List.range n).map (fun i => (b + i, ze b G (σ i)))
theorem zw_at {b : Nat} {G : Nat → ClassId} {n : Nat} {σ : zWd} {i : Nat} (h : i < n) : (zw b G n σ)[i]? = some (b + i, ze b G (σ i)) := by
  simp [zw, h]
theorem zw_of {b : Nat} {G : Nat → ClassId} {n : Nat} {σ : zWd} {i : Nat} {q : Nat × va_E} (h : (zw b G n σ)[i]? = some q) : i < n ∧ q = (b + i, ze b G (σ i)) := by
  have hl : i < n := by
    have := (List.getElem?_eq_some_iff.mp h).1
    simpa [zw] using this
  rw [zw_at hl] at h
  exact ⟨hl, (Option.some.inj h).symm⟩
theorem zw_set {b : Nat} {G : Nat → ClassId} {n : Nat} {σ : zWd} {i : Nat} {e : va_E} : (zw b G n σ).set i (b + i, ze b G e) = zw b G n (va_up σ i e) := by
  apply List.ext_getElem?
  intro j
  by_cases hj : j < n
  · rw [zw_at hj, List.getElem?_set]
    have hl : (zw b G n σ).length = n := by simp [zw]
    by_cases hij : i = j
    · subst hij
      rw [if_pos rfl, if_pos (by rw [hl]; exact hj)]
      simp [va_up]
    · rw [if_neg hij, zw_at hj]
      have : ¬ j = i := fun z => hij z.symm
      simp [va_up, this]
  · rw [List.getElem?_eq_none (by simp [zw]; omega), List.getElem?_eq_none (by simp [zw]; omega)]
theorem zw_push {b : Nat} {G : Nat → ClassId} {n : Nat} {σ : zWd} {e : va_E} : zw b G n σ ++ [(b + n, ze b G e)] = zw b G (n + 1) (va_up σ n e) := by
  apply List.ext_getElem?
  intro j
  have hl : (zw b G n σ).length = n := by simp [zw]
  by_cases hj : j < n
  · rw [List.getElem?_append_left (by rw [hl]; exact hj), zw_at hj, zw_at (by omega)]
    have : ¬ j = n := by omega
    simp [va_up, this]
  · by_cases hjn : j = n
    · subst hjn
      rw [List.getElem?_append_right (by omega), zw_at (by omega), hl, Nat.sub_self]
      simp [va_up]
    · rw [List.getElem?_eq_none (by simp [zw]; omega), List.getElem?_eq_none (by simp [zw]; omega)]
theorem zw_D {b : Nat} {G : Nat → ClassId} {n : Nat} {σ : zWd} : va_D (fun q => b ≤ q) (zw b G n σ) := by
  refine ⟨fun i j p q hi hj h => ?_, fun k q hk => ?_⟩
  · obtain ⟨-, rfl⟩ := zw_of hi
    obtain ⟨-, rfl⟩ := zw_of hj
    have : b + i = b + j := h
    omega
  · obtain ⟨-, rfl⟩ := zw_of hk
    exact Nat.le_add_right b k
theorem zw_P {b : Nat} {G : Nat → ClassId} {D : va_G} {cl : List vw_C} {n : Nat} {σ : zWd} {H : Heap} (h : va_P D cl (zw b G n σ) H) {i : Nat} (hi : i < n) : va_at D cl (b + i, ze b G (σ i)) H := h i _ (zw_at hi)
def zt (G : Nat → ClassId) : List (ClassId × FieldType) := [(G 0, .int), (G 1, .long), (G 2, .object "RecurrentSeries$Series")]
/-- locals -/
def zn2 : Option Value → Bool
  | some v => v.category != 2
  | none => true
def zkb : List (Option Value) → Nat → Bool
  | _, 0 => true
  | lv, i + 1 => match lv[i]? with
    | some o => zn2 o
    | none => true
def zl (b : Nat) (ls : Array Slot) (nL : Nat) (lv : List (Option Value)) : Prop := ls.size = nL ∧ lv_wf ls ∧ lv.length ≤ nL ∧ ∀ (i : Nat) (v : Value), lv[i]? = some (some v) → ls[i]? = some (.val (zv b v))
def zp (b : Nat) (lv : List (Option Value)) : List (Nat × Value) := (List.range lv.length).filterMap (fun i => (lv[i]?.join).map (fun v => (i, zv b v)))
theorem zp_in {b : Nat} {lv : List (Option Value)} {j : Nat} {x : Value} : (j, x) ∈ zp b lv ↔ ∃ v, lv[j]? = some (some v) ∧ x = zv b v := by
  constructor
  · intro h
    obtain ⟨i, hi, he⟩ := List.mem_filterMap.mp h
    cases hv : lv[i]? with
    | none => rw [hv] at he; cases he
    | some o =>
      cases o with
      | none => rw [hv] at he; cases he
      | some v =>
        rw [hv] at he
        cases he
        exact ⟨v, hv, rfl⟩
  · rintro ⟨v, hv, rfl⟩
    refine List.mem_filterMap.mpr ⟨j, List.mem_range.mpr ?_, by rw [hv]; rfl⟩
    exact (List.getElem?_eq_some_iff.mp hv).1
theorem zl_has {b : Nat} {ls : Array Slot} {nL : Nat} {lv : List (Option Value)} (h : zl b ls nL lv) : lv_has ls nL (zp b lv) := by
  refine ⟨h.1, h.2.1, fun q hq => ?_⟩
  obtain ⟨v, hv, hx⟩ := zp_in.mp (show (q.1, q.2) ∈ zp b lv from hq)
  rw [hx]
  exact h.2.2.2 _ _ hv
theorem zkb_use {lv : List (Option Value)} {i j : Nat} {v : Value} (h : zkb lv i = true) (hj : j + 1 = i) (hv : lv[j]? = some (some v)) : v.category ≠ 2 := by
  subst hj
  simp only [zkb, hv, zn2] at h
  simpa using h
theorem zl_set1 {b : Nat} {ls ls' : Array Slot} {nL i : Nat} {lv : List (Option Value)} {x : Value} (h : zl b ls nL lv) (hi : i < lv.length) (hk : zkb lv i = true)
    (h' : lv_has ls' nL ((i, zv b x) :: (zp b lv).filter (fun q => !(q.1 == i) && !(q.1 + 1 == i && q.2.category == 2)))) : zl b ls' nL (lv.set i (some x)) := by
  refine ⟨h'.1, h'.2.1, by rw [List.length_set]; exact h.2.2.1, fun j v hj => ?_⟩
  by_cases hji : i = j
  · subst hji
    rw [List.getElem?_set_self hi] at hj
    cases hj
    exact h'.2.2 (i, zv b x) List.mem_cons_self
  · rw [List.getElem?_set_ne hji] at hj
    refine h'.2.2 (j, zv b v) (List.mem_cons_of_mem _ (List.mem_filter.mpr ⟨zp_in.mpr ⟨v, hj, rfl⟩, ?_⟩))
    have h1 : ¬ j = i := fun z => hji z.symm
    simp only [Bool.and_eq_true, Bool.not_eq_true', beq_eq_false_iff_ne, ne_eq, Bool.and_eq_false_iff, zv_cat]
    refine ⟨h1, ?_⟩
    by_cases h2 : j + 1 = i
    · exact Or.inr (zkb_use hk h2 hj)
    · exact Or.inl h2
theorem zl_set2 {b : Nat} {ls ls' : Array Slot} {nL i : Nat} {lv : List (Option Value)} {x : Value} (h : zl b ls nL lv) (hi : i + 1 < lv.length) (hk : zkb lv i = true)
    (h' : lv_has ls' nL ((i, zv b x) :: (zp b lv).filter (fun q => !(q.1 == i) && (!(q.1 == i + 1) && !(q.1 + 1 == i && q.2.category == 2))))) : zl b ls' nL ((lv.set i (some x)).set (i + 1) none) := by
  refine ⟨h'.1, h'.2.1, by rw [List.length_set, List.length_set]; exact h.2.2.1, fun j v hj => ?_⟩
  by_cases hj1 : i + 1 = j
  · subst hj1
    rw [List.getElem?_set_self (by rw [List.length_set]; exact hi)] at hj
    cases hj
  · rw [List.getElem?_set_ne hj1] at hj
    by_cases hji : i = j
    · subst hji
      rw [List.getElem?_set_self (by omega)] at hj
      cases hj
      exact h'.2.2 (i, zv b x) List.mem_cons_self
    · rw [List.getElem?_set_ne hji] at hj
      refine h'.2.2 (j, zv b v) (List.mem_cons_of_mem _ (List.mem_filter.mpr ⟨zp_in.mpr ⟨v, hj, rfl⟩, ?_⟩))
      have h1 : ¬ j = i := fun z => hji z.symm
      have h3 : ¬ j = i + 1 := fun z => hj1 z.symm
      simp only [Bool.and_eq_true, Bool.not_eq_true', beq_eq_false_iff_ne, ne_eq, Bool.and_eq_false_iff, zv_cat]
      refine ⟨h1, h3, ?_⟩
      by_cases h2 : j + 1 = i
      · exact Or.inr (zkb_use hk h2 hj)
      · exact Or.inl h2
def zE : List Value → List (Option Value)
  | [] => []
  | v :: vs => if v.category = 2 then some v :: none :: zE vs else some v :: zE vs
theorem zE_in {b : Nat} : ∀ (avs : List Value) (o i : Nat) (v : Value), (zE avs)[i]? = some (some v) → (o + i, zv b v) ∈ lv_args o (avs.map (zv b))
  | [], o, i, v, h => by simp [zE] at h
  | a :: avs, o, i, v, h => by
    simp only [List.map_cons, lv_args, zv_cat]
    by_cases hc : a.category = 2
    · rw [zE, if_pos hc] at h
      rw [if_pos hc]
      match i, h with
      | 0, h =>
        cases h
        exact List.mem_cons_self
      | 1, h => cases h
      | i + 2, h =>
        have h1 : (zE avs)[i]? = some (some v) := h
        have h2 := zE_in (b := b) avs (o + 2) i v h1
        rw [show o + (i + 2) = o + 2 + i by omega]
        exact List.mem_cons_of_mem _ h2
    · rw [zE, if_neg hc] at h
      rw [if_neg hc]
      match i, h with
      | 0, h =>
        cases h
        exact List.mem_cons_self
      | i + 1, h =>
        have h1 : (zE avs)[i]? = some (some v) := h
        have h2 := zE_in (b := b) avs (o + 1) i v h1
        rw [show o + (i + 1) = o + 1 + i by omega]
        exact List.mem_cons_of_mem _ h2
theorem zE_len {b : Nat} : ∀ (avs : List Value), (lg_sl (avs.map (zv b))).length = (zE avs).length
  | [] => rfl
  | a :: avs => by
    have ih := zE_len (b := b) avs
    simp only [lg_sl, List.map_cons, List.flatMap_cons, List.length_append] at ih ⊢
    rw [ih, zv_cat]
    by_cases hc : a.category = 2
    · rw [zE, if_pos hc, if_pos hc]
      simp only [List.length_cons, List.length_nil]
      omega
    · rw [zE, if_neg hc, if_neg hc]
      simp only [List.length_cons, List.length_nil]
      omega
/-- the judgement -/
def zCx (M : zMI) (b : Nat) (G : Nat → ClassId) (D : va_G) (p : Program) (s : State) (m : MethodId) (args : Array Value) (meth : Method) (c : Code) : Prop :=
  p.tables.exec = Jvm.exec ∧ c.code = mB M ∧ c.maxLocals = mL M ∧ s.vm.findClass (mY M).cls = some m.cls ∧ (∀ w ∈ mW M, w.before args s = true) ∧ (∀ w ∈ NB, va_Nw w s) ∧ meth.sig.returnType = mT M ∧ meth.locks = false ∧ va_K D zCl (zt G) s ∧ b ≤ s.heap.size ∧ ((mY M).name = "<init>" → meth.name = "<init>")
theorem zCx.tb {M : zMI} {b : Nat} {G : Nat → ClassId} {D : va_G} {p : Program} {s : State} {m : MethodId} {args : Array Value} {meth : Method} {c : Code} (h : zCx M b G D p s m args meth c) {w : Cond} (hw : w ∈ TB) : w.before args s = true := h.2.2.2.2.1 w (mW_tb hw)
theorem zCx.nb {M : zMI} {b : Nat} {G : Nat → ClassId} {D : va_G} {p : Program} {s : State} {m : MethodId} {args : Array Value} {meth : Method} {c : Code} (h : zCx M b G D p s m args meth c) {w : Cond} (hw : w ∈ NB) : va_Nw w s := h.2.2.2.2.2.1 w hw
theorem zCx.k {M : zMI} {b : Nat} {G : Nat → ClassId} {D : va_G} {p : Program} {s : State} {m : MethodId} {args : Array Value} {meth : Method} {c : Code} (h : zCx M b G D p s m args meth c) : va_K D zCl (zt G) s := h.2.2.2.2.2.2.2.2.1
def zQc (b : Nat) (G : Nat → ClassId) (D : va_G) (Po : Option Value → Nat → zWd → Prop) : Array Value → State → Outcome → State → Prop := fun _ st oc t =>
  (∃ (r : Option Value) (n' : Nat) (σ' : zWd), oc = .returned (r.map (zv b)) ∧ Po r n' σ' ∧ t.heap.size = b + n' ∧ va_P D zCl (zw b G n' σ') t.heap) ∧ va_F (fun q => b ≤ q) st t
def zPc (b : Nat) (G : Nat → ClassId) (D : va_G) (n : Nat) (σ : zWd) (avs : List Value) : Array Value → State → Prop :=
  va_Pc (avs.map (zv b)) (fun U => U.heap.size = b + n ∧ va_P D zCl (zw b G n σ) U.heap ∧ va_K D zCl (zt G) U ∧ ∀ w ∈ NB, va_Nw w U)
def Z (M : zMI) (Po : Option Value → Nat → zWd → Prop) (kc ks n : Nat) (σ : zWd) (pc : Nat) (lv : List (Option Value)) (st : List Value) : Prop :=
  ∀ (p : Program) (l : Launch) (e : Env) (s : State) (m : MethodId) (args : Array Value) (below : List Frame) (meth : Method) (c : Code) (b : Nat) (G : Nat → ClassId) (D : va_G), zCx M b G D p s m args meth c →
  ∀ (H : Heap) (locs : List Loc) (ls : Array Slot), H.size = b + n → va_P D zCl (zw b G n σ) H → va_S (fun q => b ≤ q) s.heap H locs → zl b ls (mL M) lv →
    W p l e (mR M) s m args below meth c H locs kc ks (MQ below (zQc b G D Po) args s (mR M).cells (mR M).slots (fun q => b ≤ q)) (F0 m pc ls (st.map (zv b)))
def Ct (M : zMI) (avs : List Value) (n : Nat) (σ : zWd) (Po : Option Value → Nat → zWd → Prop) : Prop :=
  ∀ (l : Launch) (b : Nat) (G : Nat → ClassId) (D : va_G), Met l (mY M) (mW M) (mR M) (zPc b G D n σ avs) (zQc b G D Po) (mR M).cells (mR M).slots (fun q => b ≤ q)
theorem Ct.of {M : zMI} {avs : List Value} {n : Nat} {σ : zWd} {Po : Option Value → Nat → zWd → Prop} {lv : List (Option Value)} (k : Nat) (hy : plainName (mY M).cls = true) (he : zE avs ++ List.replicate k none = lv) (hl : lv.length ≤ mL M) (body : Z M Po 0 0 n σ 0 lv []) : Ct M avs n σ Po := by
  intro l b G D
  refine Met.ofW (cc := mB M) (maxL := mL M) (ret := mT M) hy rfl ?_
  intro p e s m args below meth c s₁ B hml hv
  obtain ⟨rfl, hsz, hP, hK, hN⟩ := hv
  have hcx : zCx M b G D p s m (avs.map (zv b)).toArray meth c := ⟨B.exec, B.bytes, hml, findClass_of_methodNamed B.named, atoms_spec (ws := mW M) B.pre, hN, B.returns, B.notSynchronized, hK, by omega, fun h => ((name_of_methodNamed B.named B.method).1).trans h⟩
  have hlen : (lg_sl (avs.map (zv b))).length ≤ mL M := by
    rw [zE_len]
    rw [← he, List.length_append] at hl
    omega
  have hh := lv_entry (avs.map (zv b)) hlen
  rw [lg_entry_eq]
  refine body p l e s m _ below meth c b G D hcx s.heap [] _ hsz hP va_S.rf ⟨hh.1, hh.2.1, hl, fun i v hi => ?_⟩
  rw [← he] at hi
  have hi2 : (zE avs)[i]? = some (some v) := by
    by_cases hz : i < (zE avs).length
    · rwa [List.getElem?_append_left hz] at hi
    · rw [List.getElem?_append_right (by omega)] at hi
      have := List.eq_of_mem_replicate (List.mem_of_getElem? hi)
      cases this
  have h3 := hh.2.2 _ (zE_in (b := b) avs 0 i v hi2)
  simpa using h3
theorem Ct.weaken {M : zMI} {avs : List Value} {n : Nat} {σ : zWd} {Po Po' : Option Value → Nat → zWd → Prop} (h : Ct M avs n σ Po) (hp : ∀ r n' σ', Po r n' σ' → Po' r n' σ') : Ct M avs n σ Po' := by
  intro l b G D p e h1 h2 h3 s m args below h4 h5 h6 h7
  obtain ⟨k, o, g1, g2, g3, ⟨⟨⟨r, n', σ', e1, e2, e3⟩, hF⟩, hL⟩⟩ := h l b G D p e h1 h2 h3 s m args below h4 h5 h6 h7
  exact ⟨k, o, g1, g2, g3, ⟨⟨⟨r, n', σ', e1, hp _ _ _ e2, e3⟩, hF⟩, hL⟩⟩

section ZR
variable {M : zMI} {Po : Option Value → Nat → zWd → Prop} {kc ks n pc q : Nat} {σ : zWd} {lv : List (Option Value)} {st : List Value}
theorem Z.eq {st' : List Value} (h : st = st') (k : Z M Po kc ks n σ pc lv st') : Z M Po kc ks n σ pc lv st := h ▸ k
theorem Z.eqw {σ' : zWd} (h : σ = σ') (k : Z M Po kc ks n σ' pc lv st) : Z M Po kc ks n σ pc lv st := h ▸ k
theorem Z.widen {kc' ks' : Nat} (h1 : kc ≤ kc') (h2 : ks ≤ ks') (k : Z M Po kc' ks' n σ pc lv st) : Z M Po kc ks n σ pc lv st := by
  intro p l e s m args below meth c b G D hC H locs ls hz hP hS hl
  exact W.widen h1 h2 (k p l e s m args below meth c b G D hC H locs ls hz hP hS hl)
theorem z_iadd {x y : Int32} (hd : decode (mB M) pc = .ok (.iadd, 1)) (hq : pc + 1 = q)  (k : Z M Po kc ks n σ q lv (.int (x + y) :: st)) : Z M Po kc ks n σ pc lv (.int y :: .int x :: st) := by
  subst hq; intro p l e s m args below meth c b G D hC H locs ls hz hP hS hl
  exact lv_iadd hC.1 hC.2.1 hd (k p l e s m args below meth c b G D hC H locs ls hz hP hS hl)
theorem z_isub {x y : Int32} (hd : decode (mB M) pc = .ok (.isub, 1)) (hq : pc + 1 = q)  (k : Z M Po kc ks n σ q lv (.int (x - y) :: st)) : Z M Po kc ks n σ pc lv (.int y :: .int x :: st) := by
  subst hq; intro p l e s m args below meth c b G D hC H locs ls hz hP hS hl
  exact lv_isub hC.1 hC.2.1 hd (k p l e s m args below meth c b G D hC H locs ls hz hP hS hl)
theorem z_imul {x y : Int32} (hd : decode (mB M) pc = .ok (.imul, 1)) (hq : pc + 1 = q)  (k : Z M Po kc ks n σ q lv (.int (x * y) :: st)) : Z M Po kc ks n σ pc lv (.int y :: .int x :: st) := by
  subst hq; intro p l e s m args below meth c b G D hC H locs ls hz hP hS hl
  exact lv_imul hC.1 hC.2.1 hd (k p l e s m args below meth c b G D hC H locs ls hz hP hS hl)
theorem z_iand {x y : Int32} (hd : decode (mB M) pc = .ok (.iand, 1)) (hq : pc + 1 = q)  (k : Z M Po kc ks n σ q lv (.int (x &&& y) :: st)) : Z M Po kc ks n σ pc lv (.int y :: .int x :: st) := by
  subst hq; intro p l e s m args below meth c b G D hC H locs ls hz hP hS hl
  exact lv_iand hC.1 hC.2.1 hd (k p l e s m args below meth c b G D hC H locs ls hz hP hS hl)
theorem z_ior {x y : Int32} (hd : decode (mB M) pc = .ok (.ior, 1)) (hq : pc + 1 = q)  (k : Z M Po kc ks n σ q lv (.int (x ||| y) :: st)) : Z M Po kc ks n σ pc lv (.int y :: .int x :: st) := by
  subst hq; intro p l e s m args below meth c b G D hC H locs ls hz hP hS hl
  exact lv_ior hC.1 hC.2.1 hd (k p l e s m args below meth c b G D hC H locs ls hz hP hS hl)
theorem z_ladd {x y : Int64} (hd : decode (mB M) pc = .ok (.ladd, 1)) (hq : pc + 1 = q)  (k : Z M Po kc ks n σ q lv (.long (x + y) :: st)) : Z M Po kc ks n σ pc lv (.long y :: .long x :: st) := by
  subst hq; intro p l e s m args below meth c b G D hC H locs ls hz hP hS hl
  exact lv_ladd hC.1 hC.2.1 hd (k p l e s m args below meth c b G D hC H locs ls hz hP hS hl)
theorem z_lsub {x y : Int64} (hd : decode (mB M) pc = .ok (.lsub, 1)) (hq : pc + 1 = q)  (k : Z M Po kc ks n σ q lv (.long (x - y) :: st)) : Z M Po kc ks n σ pc lv (.long y :: .long x :: st) := by
  subst hq; intro p l e s m args below meth c b G D hC H locs ls hz hP hS hl
  exact lv_lsub hC.1 hC.2.1 hd (k p l e s m args below meth c b G D hC H locs ls hz hP hS hl)
theorem z_lmul {x y : Int64} (hd : decode (mB M) pc = .ok (.lmul, 1)) (hq : pc + 1 = q)  (k : Z M Po kc ks n σ q lv (.long (x * y) :: st)) : Z M Po kc ks n σ pc lv (.long y :: .long x :: st) := by
  subst hq; intro p l e s m args below meth c b G D hC H locs ls hz hP hS hl
  exact lv_lmul hC.1 hC.2.1 hd (k p l e s m args below meth c b G D hC H locs ls hz hP hS hl)
theorem z_land {x y : Int64} (hd : decode (mB M) pc = .ok (.land, 1)) (hq : pc + 1 = q)  (k : Z M Po kc ks n σ q lv (.long (x &&& y) :: st)) : Z M Po kc ks n σ pc lv (.long y :: .long x :: st) := by
  subst hq; intro p l e s m args below meth c b G D hC H locs ls hz hP hS hl
  exact lv_land hC.1 hC.2.1 hd (k p l e s m args below meth c b G D hC H locs ls hz hP hS hl)
theorem z_lor {x y : Int64} (hd : decode (mB M) pc = .ok (.lor, 1)) (hq : pc + 1 = q)  (k : Z M Po kc ks n σ q lv (.long (x ||| y) :: st)) : Z M Po kc ks n σ pc lv (.long y :: .long x :: st) := by
  subst hq; intro p l e s m args below meth c b G D hC H locs ls hz hP hS hl
  exact lv_lor hC.1 hC.2.1 hd (k p l e s m args below meth c b G D hC H locs ls hz hP hS hl)
theorem z_irem {x y : Int32} (hd : decode (mB M) pc = .ok (.irem, 1)) (hq : pc + 1 = q) (hne : ¬ y = 0) (k : Z M Po kc ks n σ q lv (.int (x - x / y * y) :: st)) : Z M Po kc ks n σ pc lv (.int y :: .int x :: st) := by
  subst hq; intro p l e s m args below meth c b G D hC H locs ls hz hP hS hl
  exact lv_irem hC.1 hC.2.1 hd hne (k p l e s m args below meth c b G D hC H locs ls hz hP hS hl)
theorem z_idiv {x y : Int32} (hd : decode (mB M) pc = .ok (.idiv, 1)) (hq : pc + 1 = q) (hne : ¬ y = 0) (k : Z M Po kc ks n σ q lv (.int (x / y) :: st)) : Z M Po kc ks n σ pc lv (.int y :: .int x :: st) := by
  subst hq; intro p l e s m args below meth c b G D hC H locs ls hz hP hS hl
  exact lv_idiv hC.1 hC.2.1 hd hne (k p l e s m args below meth c b G D hC H locs ls hz hP hS hl)
theorem z_lrem {x y : Int64} (hd : decode (mB M) pc = .ok (.lrem, 1)) (hq : pc + 1 = q) (hne : ¬ y = 0) (k : Z M Po kc ks n σ q lv (.long (x - x / y * y) :: st)) : Z M Po kc ks n σ pc lv (.long y :: .long x :: st) := by
  subst hq; intro p l e s m args below meth c b G D hC H locs ls hz hP hS hl
  exact lv_lrem hC.1 hC.2.1 hd hne (k p l e s m args below meth c b G D hC H locs ls hz hP hS hl)
theorem z_i2l {x : Int32} (hd : decode (mB M) pc = .ok (.i2l, 1)) (hq : pc + 1 = q)  (k : Z M Po kc ks n σ q lv (.long (x.toInt64) :: st)) : Z M Po kc ks n σ pc lv (.int x :: st) := by
  subst hq; intro p l e s m args below meth c b G D hC H locs ls hz hP hS hl
  exact lv_i2l hC.1 hC.2.1 hd rfl (k p l e s m args below meth c b G D hC H locs ls hz hP hS hl)
theorem z_l2i {x : Int64} (hd : decode (mB M) pc = .ok (.l2i, 1)) (hq : pc + 1 = q)  (k : Z M Po kc ks n σ q lv (.int (x.toInt32) :: st)) : Z M Po kc ks n σ pc lv (.long x :: st) := by
  subst hq; intro p l e s m args below meth c b G D hC H locs ls hz hP hS hl
  exact lv_l2i hC.1 hC.2.1 hd rfl (k p l e s m args below meth c b G D hC H locs ls hz hP hS hl)
theorem z_lshr {x : Int64} {y : Int32} (hd : decode (mB M) pc = .ok (.lshr, 1)) (hq : pc + 1 = q)  (k : Z M Po kc ks n σ q lv (.long (x >>> (y.toInt64 &&& 63)) :: st)) : Z M Po kc ks n σ pc lv (.int y :: .long x :: st) := by
  subst hq; intro p l e s m args below meth c b G D hC H locs ls hz hP hS hl
  exact lv_lshr hC.1 hC.2.1 hd rfl (k p l e s m args below meth c b G D hC H locs ls hz hP hS hl)
theorem z_lshl {x : Int64} {y : Int32} (hd : decode (mB M) pc = .ok (.lshl, 1)) (hq : pc + 1 = q)  (k : Z M Po kc ks n σ q lv (.long (x <<< (y.toInt64 &&& 63)) :: st)) : Z M Po kc ks n σ pc lv (.int y :: .long x :: st) := by
  subst hq; intro p l e s m args below meth c b G D hC H locs ls hz hP hS hl
  exact lv_lshl hC.1 hC.2.1 hd rfl (k p l e s m args below meth c b G D hC H locs ls hz hP hS hl)
theorem z_lcmp {x y : Int64} (hd : decode (mB M) pc = .ok (.lcmp, 1)) (hq : pc + 1 = q)  (k : Z M Po kc ks n σ q lv (.int (lg_cmp x y) :: st)) : Z M Po kc ks n σ pc lv (.long y :: .long x :: st) := by
  subst hq; intro p l e s m args below meth c b G D hC H locs ls hz hP hS hl
  exact W.lcmp hC.1 hC.2.1 hd (k p l e s m args below meth c b G D hC H locs ls hz hP hS hl)
theorem z_iconst {i : Int} {v : Int32} (hd : decode (mB M) pc = .ok (.iconst i, 1)) (hq : pc + 1 = q) (hv : Int32.ofInt i = v) (k : Z M Po kc ks n σ q lv (.int v :: st)) : Z M Po kc ks n σ pc lv (st) := by
  subst hq; intro p l e s m args below meth c b G D hC H locs ls hz hP hS hl
  exact lv_iconst hC.1 hC.2.1 hd hv (k p l e s m args below meth c b G D hC H locs ls hz hP hS hl)
theorem z_bipush {i : Int} {v : Int32} (hd : decode (mB M) pc = .ok (.bipush i, 2)) (hq : pc + 2 = q) (hv : (Int8.ofInt i).toInt32 = v) (k : Z M Po kc ks n σ q lv (.int v :: st)) : Z M Po kc ks n σ pc lv (st) := by
  subst hq; intro p l e s m args below meth c b G D hC H locs ls hz hP hS hl
  exact lv_bipush hC.1 hC.2.1 hd hv (k p l e s m args below meth c b G D hC H locs ls hz hP hS hl)
theorem z_sipush {i : Int} {v : Int32} (hd : decode (mB M) pc = .ok (.sipush i, 3)) (hq : pc + 3 = q) (hv : (Int16.ofInt i).toInt32 = v) (k : Z M Po kc ks n σ q lv (.int v :: st)) : Z M Po kc ks n σ pc lv (st) := by
  subst hq; intro p l e s m args below meth c b G D hC H locs ls hz hP hS hl
  exact lv_sipush hC.1 hC.2.1 hd hv (k p l e s m args below meth c b G D hC H locs ls hz hP hS hl)
theorem z_lconst {i : Fin 2} {v : Int64} (hd : decode (mB M) pc = .ok (.lconst i, 1)) (hq : pc + 1 = q) (hv : Int64.ofNat (i : Nat) = v) (k : Z M Po kc ks n σ q lv (.long v :: st)) : Z M Po kc ks n σ pc lv (st) := by
  subst hq; intro p l e s m args below meth c b G D hC H locs ls hz hP hS hl
  exact lv_lconst hC.1 hC.2.1 hd hv (k p l e s m args below meth c b G D hC H locs ls hz hP hS hl)
theorem z_ldc2 {idx : Nat} {v : Int64} (hd : decode (mB M) pc = .ok (.ldc2_w idx, 3)) (hq : pc + 3 = q) (hv : Cond.constantLong (mY M).cls idx v ∈ TB) (k : Z M Po kc ks n σ q lv (.long v :: st)) : Z M Po kc ks n σ pc lv (st) := by
  subst hq; intro p l e s m args below meth c b G D hC H locs ls hz hP hS hl
  exact lv_ldc2 hC.1 hC.2.1 hC.2.2.2.1 (hC.tb hv) hd (k p l e s m args below meth c b G D hC H locs ls hz hP hS hl)
theorem z_ldc {idx : Nat} {v : Int32} (hd : decode (mB M) pc = .ok (.ldc idx, 2)) (hq : pc + 2 = q) (hv : Cond.constant (mY M).cls idx v ∈ TB) (k : Z M Po kc ks n σ q lv (.int v :: st)) : Z M Po kc ks n σ pc lv (st) := by
  subst hq; intro p l e s m args below meth c b G D hC H locs ls hz hP hS hl
  exact lv_ldc hC.1 hC.2.1 hC.2.2.2.1 (hC.tb hv) hd (k p l e s m args below meth c b G D hC H locs ls hz hP hS hl)
theorem z_dup_i {x : Int32} (hd : decode (mB M) pc = .ok (.dup, 1)) (hq : pc + 1 = q)  (k : Z M Po kc ks n σ q lv (.int x :: .int x :: st)) : Z M Po kc ks n σ pc lv (.int x :: st) := by
  subst hq; intro p l e s m args below meth c b G D hC H locs ls hz hP hS hl
  exact lv_dup hC.1 hC.2.1 hd rfl (k p l e s m args below meth c b G D hC H locs ls hz hP hS hl)
theorem z_dup_r {x : Nat} (hd : decode (mB M) pc = .ok (.dup, 1)) (hq : pc + 1 = q)  (k : Z M Po kc ks n σ q lv (.ref x :: .ref x :: st)) : Z M Po kc ks n σ pc lv (.ref x :: st) := by
  subst hq; intro p l e s m args below meth c b G D hC H locs ls hz hP hS hl
  exact lv_dup hC.1 hC.2.1 hd rfl (k p l e s m args below meth c b G D hC H locs ls hz hP hS hl)
theorem z_pop_i {x : Int32} (hd : decode (mB M) pc = .ok (.pop, 1)) (hq : pc + 1 = q)  (k : Z M Po kc ks n σ q lv (st)) : Z M Po kc ks n σ pc lv (.int x :: st) := by
  subst hq; intro p l e s m args below meth c b G D hC H locs ls hz hP hS hl
  exact lv_pop hC.1 hC.2.1 hd rfl (k p l e s m args below meth c b G D hC H locs ls hz hP hS hl)
theorem z_dup2_ir {x : Int32} {y : Nat} (hd : decode (mB M) pc = .ok (.dup2, 1)) (hq : pc + 1 = q)  (k : Z M Po kc ks n σ q lv (.int x :: .ref y :: .int x :: .ref y :: st)) : Z M Po kc ks n σ pc lv (.int x :: .ref y :: st) := by
  subst hq; intro p l e s m args below meth c b G D hC H locs ls hz hP hS hl
  exact lv_dup2_11 hC.1 hC.2.1 hd rfl rfl (k p l e s m args below meth c b G D hC H locs ls hz hP hS hl)
theorem zn_iadd {x y : Nat} (hd : decode (mB M) pc = .ok (.iadd, 1)) (hq : pc + 1 = q)  (k : Z M Po kc ks n σ q lv (.int (nI (x + y)) :: st)) : Z M Po kc ks n σ pc lv (.int (nI y) :: .int (nI x) :: st) := z_iadd hd hq (by rw [nI_add]; exact k)
theorem zn_isub {x y : Nat} (hd : decode (mB M) pc = .ok (.isub, 1)) (hq : pc + 1 = q) (h : y ≤ x) (k : Z M Po kc ks n σ q lv (.int (nI (x - y)) :: st)) : Z M Po kc ks n σ pc lv (.int (nI y) :: .int (nI x) :: st) := z_isub hd hq (by rw [pk_sub h]; exact k)
theorem zn_imul {x y : Nat} (hd : decode (mB M) pc = .ok (.imul, 1)) (hq : pc + 1 = q)  (k : Z M Po kc ks n σ q lv (.int (nI (x * y)) :: st)) : Z M Po kc ks n σ pc lv (.int (nI y) :: .int (nI x) :: st) := z_imul hd hq (by rw [pk_mul]; exact k)
theorem zn_irem {x y : Nat} (hd : decode (mB M) pc = .ok (.irem, 1)) (hq : pc + 1 = q) (hx : x < 2 ^ 31) (h0 : 0 < y) (hy : y < 2 ^ 31) (k : Z M Po kc ks n σ q lv (.int (nI (x % y)) :: st)) : Z M Po kc ks n σ pc lv (.int (nI y) :: .int (nI x) :: st) := z_irem hd hq (nI_ne0 h0 hy) (by rw [pk_rem hx h0 hy]; exact k)
theorem zn_idiv {x y : Nat} (hd : decode (mB M) pc = .ok (.idiv, 1)) (hq : pc + 1 = q) (hx : x < 2 ^ 31) (h0 : 0 < y) (hy : y < 2 ^ 31) (k : Z M Po kc ks n σ q lv (.int (nI (x / y)) :: st)) : Z M Po kc ks n σ pc lv (.int (nI y) :: .int (nI x) :: st) := z_idiv hd hq (nI_ne0 h0 hy) (by rw [pk_div hx h0 hy]; exact k)
theorem zn_ladd {x y : Nat} (hd : decode (mB M) pc = .ok (.ladd, 1)) (hq : pc + 1 = q)  (k : Z M Po kc ks n σ q lv (.long (lN (x + y)) :: st)) : Z M Po kc ks n σ pc lv (.long (lN y) :: .long (lN x) :: st) := z_ladd hd hq (by rw [lN_add]; exact k)
theorem zn_lsub {x y : Nat} (hd : decode (mB M) pc = .ok (.lsub, 1)) (hq : pc + 1 = q) (h : y ≤ x) (k : Z M Po kc ks n σ q lv (.long (lN (x - y)) :: st)) : Z M Po kc ks n σ pc lv (.long (lN y) :: .long (lN x) :: st) := z_lsub hd hq (by rw [lN_sub h]; exact k)
theorem zn_lmul {x y : Nat} (hd : decode (mB M) pc = .ok (.lmul, 1)) (hq : pc + 1 = q)  (k : Z M Po kc ks n σ q lv (.long (lN (x * y)) :: st)) : Z M Po kc ks n σ pc lv (.long (lN y) :: .long (lN x) :: st) := z_lmul hd hq (by rw [lN_mul]; exact k)
theorem z_lne0 {y : Nat} (h0 : 0 < y) (hy : y < 2 ^ 63) : ¬ lN y = 0 := fun h => by have := (pk_lEQ hy (show 0 < 2 ^ 63 by decide)).mp (h.trans (show (0 : Int64) = lN 0 from rfl)); omega
theorem zn_lrem {x y : Nat} (hd : decode (mB M) pc = .ok (.lrem, 1)) (hq : pc + 1 = q) (hx : x < 2 ^ 63) (h0 : 0 < y) (hy : y < 2 ^ 63) (k : Z M Po kc ks n σ q lv (.long (lN (x % y)) :: st)) : Z M Po kc ks n σ pc lv (.long (lN y) :: .long (lN x) :: st) := z_lrem hd hq (z_lne0 h0 hy) (by rw [pk_lRem hx h0 hy]; exact k)
theorem zn_i2l {x : Nat} (hd : decode (mB M) pc = .ok (.i2l, 1)) (hq : pc + 1 = q) (hx : x < 2 ^ 31) (k : Z M Po kc ks n σ q lv (.long (lN x) :: st)) : Z M Po kc ks n σ pc lv (.int (nI x) :: st) := z_i2l hd hq (by rw [nI_l hx]; exact k)
theorem zn_l2i {x : Nat} (hd : decode (mB M) pc = .ok (.l2i, 1)) (hq : pc + 1 = q)  (k : Z M Po kc ks n σ q lv (.int (nI x) :: st)) : Z M Po kc ks n σ pc lv (.long (lN x) :: st) := z_l2i hd hq (by rw [lN_i]; exact k)
theorem z_if_eq {x : Int32} {off : Int} {tgt : Nat} (hd : decode (mB M) pc = .ok (.ifCond .eq off, 3)) (hq : pc + 3 = q) (ht : (pc : Int) + off = (tgt : Int)) (kt : x = 0 → Z M Po kc ks n σ tgt lv st) (kf : ¬ (x = 0) → Z M Po kc ks n σ q lv st) : Z M Po kc ks n σ pc lv (.int x :: st) := by
  subst hq; intro p l e s m args below meth c b G D hC H locs ls hz hP hS hl
  exact lv_if_eq hC.1 hC.2.1 hd ht (fun hh => kt hh p l e s m args below meth c b G D hC H locs ls hz hP hS hl) (fun hh => kf hh p l e s m args below meth c b G D hC H locs ls hz hP hS hl)
theorem z_icmp_eq {x y : Int32} {off : Int} {tgt : Nat} (hd : decode (mB M) pc = .ok (.if_icmp .eq off, 3)) (hq : pc + 3 = q) (ht : (pc : Int) + off = (tgt : Int)) (kt : x = y → Z M Po kc ks n σ tgt lv st) (kf : ¬ (x = y) → Z M Po kc ks n σ q lv st) : Z M Po kc ks n σ pc lv (.int y :: .int x :: st) := by
  subst hq; intro p l e s m args below meth c b G D hC H locs ls hz hP hS hl
  exact lv_icmp_eq hC.1 hC.2.1 hd ht (fun hh => kt hh p l e s m args below meth c b G D hC H locs ls hz hP hS hl) (fun hh => kf hh p l e s m args below meth c b G D hC H locs ls hz hP hS hl)
theorem z_if_ne {x : Int32} {off : Int} {tgt : Nat} (hd : decode (mB M) pc = .ok (.ifCond .ne off, 3)) (hq : pc + 3 = q) (ht : (pc : Int) + off = (tgt : Int)) (kt : ¬ x = 0 → Z M Po kc ks n σ tgt lv st) (kf : x = 0 → Z M Po kc ks n σ q lv st) : Z M Po kc ks n σ pc lv (.int x :: st) := by
  subst hq; intro p l e s m args below meth c b G D hC H locs ls hz hP hS hl
  exact lv_if_ne hC.1 hC.2.1 hd ht (fun hh => kt hh p l e s m args below meth c b G D hC H locs ls hz hP hS hl) (fun hh => kf hh p l e s m args below meth c b G D hC H locs ls hz hP hS hl)
theorem z_icmp_ne {x y : Int32} {off : Int} {tgt : Nat} (hd : decode (mB M) pc = .ok (.if_icmp .ne off, 3)) (hq : pc + 3 = q) (ht : (pc : Int) + off = (tgt : Int)) (kt : ¬ x = y → Z M Po kc ks n σ tgt lv st) (kf : x = y → Z M Po kc ks n σ q lv st) : Z M Po kc ks n σ pc lv (.int y :: .int x :: st) := by
  subst hq; intro p l e s m args below meth c b G D hC H locs ls hz hP hS hl
  exact lv_icmp_ne hC.1 hC.2.1 hd ht (fun hh => kt hh p l e s m args below meth c b G D hC H locs ls hz hP hS hl) (fun hh => kf hh p l e s m args below meth c b G D hC H locs ls hz hP hS hl)
theorem z_if_lt {x : Int32} {off : Int} {tgt : Nat} (hd : decode (mB M) pc = .ok (.ifCond .lt off, 3)) (hq : pc + 3 = q) (ht : (pc : Int) + off = (tgt : Int)) (kt : x < 0 → Z M Po kc ks n σ tgt lv st) (kf : ¬ (x < 0) → Z M Po kc ks n σ q lv st) : Z M Po kc ks n σ pc lv (.int x :: st) := by
  subst hq; intro p l e s m args below meth c b G D hC H locs ls hz hP hS hl
  exact lv_if_lt hC.1 hC.2.1 hd ht (fun hh => kt hh p l e s m args below meth c b G D hC H locs ls hz hP hS hl) (fun hh => kf hh p l e s m args below meth c b G D hC H locs ls hz hP hS hl)
theorem z_icmp_lt {x y : Int32} {off : Int} {tgt : Nat} (hd : decode (mB M) pc = .ok (.if_icmp .lt off, 3)) (hq : pc + 3 = q) (ht : (pc : Int) + off = (tgt : Int)) (kt : x < y → Z M Po kc ks n σ tgt lv st) (kf : ¬ (x < y) → Z M Po kc ks n σ q lv st) : Z M Po kc ks n σ pc lv (.int y :: .int x :: st) := by
  subst hq; intro p l e s m args below meth c b G D hC H locs ls hz hP hS hl
  exact lv_icmp_lt hC.1 hC.2.1 hd ht (fun hh => kt hh p l e s m args below meth c b G D hC H locs ls hz hP hS hl) (fun hh => kf hh p l e s m args below meth c b G D hC H locs ls hz hP hS hl)
theorem z_if_ge {x : Int32} {off : Int} {tgt : Nat} (hd : decode (mB M) pc = .ok (.ifCond .ge off, 3)) (hq : pc + 3 = q) (ht : (pc : Int) + off = (tgt : Int)) (kt : 0 ≤ x → Z M Po kc ks n σ tgt lv st) (kf : ¬ (0 ≤ x) → Z M Po kc ks n σ q lv st) : Z M Po kc ks n σ pc lv (.int x :: st) := by
  subst hq; intro p l e s m args below meth c b G D hC H locs ls hz hP hS hl
  exact lv_if_ge hC.1 hC.2.1 hd ht (fun hh => kt hh p l e s m args below meth c b G D hC H locs ls hz hP hS hl) (fun hh => kf hh p l e s m args below meth c b G D hC H locs ls hz hP hS hl)
theorem z_icmp_ge {x y : Int32} {off : Int} {tgt : Nat} (hd : decode (mB M) pc = .ok (.if_icmp .ge off, 3)) (hq : pc + 3 = q) (ht : (pc : Int) + off = (tgt : Int)) (kt : y ≤ x → Z M Po kc ks n σ tgt lv st) (kf : ¬ (y ≤ x) → Z M Po kc ks n σ q lv st) : Z M Po kc ks n σ pc lv (.int y :: .int x :: st) := by
  subst hq; intro p l e s m args below meth c b G D hC H locs ls hz hP hS hl
  exact lv_icmp_ge hC.1 hC.2.1 hd ht (fun hh => kt hh p l e s m args below meth c b G D hC H locs ls hz hP hS hl) (fun hh => kf hh p l e s m args below meth c b G D hC H locs ls hz hP hS hl)
theorem z_if_gt {x : Int32} {off : Int} {tgt : Nat} (hd : decode (mB M) pc = .ok (.ifCond .gt off, 3)) (hq : pc + 3 = q) (ht : (pc : Int) + off = (tgt : Int)) (kt : 0 < x → Z M Po kc ks n σ tgt lv st) (kf : ¬ (0 < x) → Z M Po kc ks n σ q lv st) : Z M Po kc ks n σ pc lv (.int x :: st) := by
  subst hq; intro p l e s m args below meth c b G D hC H locs ls hz hP hS hl
  exact lv_if_gt hC.1 hC.2.1 hd ht (fun hh => kt hh p l e s m args below meth c b G D hC H locs ls hz hP hS hl) (fun hh => kf hh p l e s m args below meth c b G D hC H locs ls hz hP hS hl)
theorem z_icmp_gt {x y : Int32} {off : Int} {tgt : Nat} (hd : decode (mB M) pc = .ok (.if_icmp .gt off, 3)) (hq : pc + 3 = q) (ht : (pc : Int) + off = (tgt : Int)) (kt : y < x → Z M Po kc ks n σ tgt lv st) (kf : ¬ (y < x) → Z M Po kc ks n σ q lv st) : Z M Po kc ks n σ pc lv (.int y :: .int x :: st) := by
  subst hq; intro p l e s m args below meth c b G D hC H locs ls hz hP hS hl
  exact lv_icmp_gt hC.1 hC.2.1 hd ht (fun hh => kt hh p l e s m args below meth c b G D hC H locs ls hz hP hS hl) (fun hh => kf hh p l e s m args below meth c b G D hC H locs ls hz hP hS hl)
theorem z_if_le {x : Int32} {off : Int} {tgt : Nat} (hd : decode (mB M) pc = .ok (.ifCond .le off, 3)) (hq : pc + 3 = q) (ht : (pc : Int) + off = (tgt : Int)) (kt : x ≤ 0 → Z M Po kc ks n σ tgt lv st) (kf : ¬ (x ≤ 0) → Z M Po kc ks n σ q lv st) : Z M Po kc ks n σ pc lv (.int x :: st) := by
  subst hq; intro p l e s m args below meth c b G D hC H locs ls hz hP hS hl
  exact lv_if_le hC.1 hC.2.1 hd ht (fun hh => kt hh p l e s m args below meth c b G D hC H locs ls hz hP hS hl) (fun hh => kf hh p l e s m args below meth c b G D hC H locs ls hz hP hS hl)
theorem z_icmp_le {x y : Int32} {off : Int} {tgt : Nat} (hd : decode (mB M) pc = .ok (.if_icmp .le off, 3)) (hq : pc + 3 = q) (ht : (pc : Int) + off = (tgt : Int)) (kt : x ≤ y → Z M Po kc ks n σ tgt lv st) (kf : ¬ (x ≤ y) → Z M Po kc ks n σ q lv st) : Z M Po kc ks n σ pc lv (.int y :: .int x :: st) := by
  subst hq; intro p l e s m args below meth c b G D hC H locs ls hz hP hS hl
  exact lv_icmp_le hC.1 hC.2.1 hd ht (fun hh => kt hh p l e s m args below meth c b G D hC H locs ls hz hP hS hl) (fun hh => kf hh p l e s m args below meth c b G D hC H locs ls hz hP hS hl)
theorem zn_icmp_eq {x y : Nat} {off : Int} {tgt : Nat} (hd : decode (mB M) pc = .ok (.if_icmp .eq off, 3)) (hq : pc + 3 = q) (ht : (pc : Int) + off = (tgt : Int)) (hx : x < 2 ^ 31) (hy : y < 2 ^ 31) (kt : x = y → Z M Po kc ks n σ tgt lv st) (kf : ¬ (x = y) → Z M Po kc ks n σ q lv st) : Z M Po kc ks n σ pc lv (.int (nI y) :: .int (nI x) :: st) := z_icmp_eq hd hq ht (fun h => kt ((nI_eq hx hy).mp h)) (fun h => kf (fun g => h ((nI_eq hx hy).mpr g)))
theorem zn_icmp_lt {x y : Nat} {off : Int} {tgt : Nat} (hd : decode (mB M) pc = .ok (.if_icmp .lt off, 3)) (hq : pc + 3 = q) (ht : (pc : Int) + off = (tgt : Int)) (hx : x < 2 ^ 31) (hy : y < 2 ^ 31) (kt : x < y → Z M Po kc ks n σ tgt lv st) (kf : ¬ (x < y) → Z M Po kc ks n σ q lv st) : Z M Po kc ks n σ pc lv (.int (nI y) :: .int (nI x) :: st) := z_icmp_lt hd hq ht (fun h => kt ((nI_ltI hx hy).mp h)) (fun h => kf (fun g => h ((nI_ltI hx hy).mpr g)))
theorem zn_icmp_ge {x y : Nat} {off : Int} {tgt : Nat} (hd : decode (mB M) pc = .ok (.if_icmp .ge off, 3)) (hq : pc + 3 = q) (ht : (pc : Int) + off = (tgt : Int)) (hx : x < 2 ^ 31) (hy : y < 2 ^ 31) (kt : y ≤ x → Z M Po kc ks n σ tgt lv st) (kf : ¬ (y ≤ x) → Z M Po kc ks n σ q lv st) : Z M Po kc ks n σ pc lv (.int (nI y) :: .int (nI x) :: st) := z_icmp_ge hd hq ht (fun h => kt ((nI_leI hy hx).mp h)) (fun h => kf (fun g => h ((nI_leI hy hx).mpr g)))
theorem zn_icmp_gt {x y : Nat} {off : Int} {tgt : Nat} (hd : decode (mB M) pc = .ok (.if_icmp .gt off, 3)) (hq : pc + 3 = q) (ht : (pc : Int) + off = (tgt : Int)) (hx : x < 2 ^ 31) (hy : y < 2 ^ 31) (kt : y < x → Z M Po kc ks n σ tgt lv st) (kf : ¬ (y < x) → Z M Po kc ks n σ q lv st) : Z M Po kc ks n σ pc lv (.int (nI y) :: .int (nI x) :: st) := z_icmp_gt hd hq ht (fun h => kt ((nI_ltI hy hx).mp h)) (fun h => kf (fun g => h ((nI_ltI hy hx).mpr g)))
theorem zn_icmp_le {x y : Nat} {off : Int} {tgt : Nat} (hd : decode (mB M) pc = .ok (.if_icmp .le off, 3)) (hq : pc + 3 = q) (ht : (pc : Int) + off = (tgt : Int)) (hx : x < 2 ^ 31) (hy : y < 2 ^ 31) (kt : x ≤ y → Z M Po kc ks n σ tgt lv st) (kf : ¬ (x ≤ y) → Z M Po kc ks n σ q lv st) : Z M Po kc ks n σ pc lv (.int (nI y) :: .int (nI x) :: st) := z_icmp_le hd hq ht (fun h => kt ((nI_leI hx hy).mp h)) (fun h => kf (fun g => h ((nI_leI hx hy).mpr g)))
theorem zn_icmp_ne {x y : Nat} {off : Int} {tgt : Nat} (hd : decode (mB M) pc = .ok (.if_icmp .ne off, 3)) (hq : pc + 3 = q) (ht : (pc : Int) + off = (tgt : Int)) (hx : x < 2 ^ 31) (hy : y < 2 ^ 31) (kt : ¬ x = y → Z M Po kc ks n σ tgt lv st) (kf : x = y → Z M Po kc ks n σ q lv st) : Z M Po kc ks n σ pc lv (.int (nI y) :: .int (nI x) :: st) := z_icmp_ne hd hq ht (fun h => kt (fun g => h ((nI_eq hx hy).mpr g))) (fun h => kf ((nI_eq hx hy).mp h))
theorem z_lgN {x y : Nat} (hx : x < 2 ^ 63) (hy : y < 2 ^ 63) : lg_cmp (lN x) (lN y) = if y < x then 1 else if x = y then 0 else -1 := by
  unfold lg_cmp
  by_cases h1 : y < x
  · rw [if_pos h1, if_pos ((pk_lLT hy hx).mpr h1)]
  · rw [if_neg h1, if_neg (fun z => h1 ((pk_lLT hy hx).mp z))]
    by_cases h2 : x = y
    · subst h2; simp
    · rw [if_neg h2, if_neg (fun z => h2 ((pk_lEQ hx hy).mp z))]
theorem z_goto {off : Int} {tgt : Nat} (hd : decode (mB M) pc = .ok (.goto off, 3)) (ht : (pc : Int) + off = (tgt : Int)) (k : Z M Po kc ks n σ tgt lv st) : Z M Po kc ks n σ pc lv st := by
  intro p l e s m args below meth c b G D hC H locs ls hz hP hS hl
  exact lv_goto hC.1 hC.2.1 hd ht (k p l e s m args below meth c b G D hC H locs ls hz hP hS hl)
theorem z_iload_n {j : Fin 4} {i : Nat} {x : Int32} (hd : decode (mB M) pc = .ok (.iload_n j, 1)) (hi : (j : Nat) = i) (hv : lv[i]? = some (some (.int x))) (hq : pc + 1 = q) (k : Z M Po kc ks n σ q lv (.int x :: st)) : Z M Po kc ks n σ pc lv st := by
  subst hq; intro p l e s m args below meth c b G D hC H locs ls hz hP hS hl
  exact lv_iload_n hC.1 hC.2.1 hd hi (hl.2.2.2 _ _ hv) (k p l e s m args below meth c b G D hC H locs ls hz hP hS hl)
theorem z_iload {i : Nat} {x : Int32} (hd : decode (mB M) pc = .ok (.iload i, 2)) (hv : lv[i]? = some (some (.int x))) (hq : pc + 2 = q) (k : Z M Po kc ks n σ q lv (.int x :: st)) : Z M Po kc ks n σ pc lv st := by
  subst hq; intro p l e s m args below meth c b G D hC H locs ls hz hP hS hl
  exact lv_iload hC.1 hC.2.1 hd (hl.2.2.2 _ _ hv) (k p l e s m args below meth c b G D hC H locs ls hz hP hS hl)
theorem z_istore_n {j : Fin 4} {i : Nat} {x : Int32} (hd : decode (mB M) pc = .ok (.istore_n j, 1)) (hi : (j : Nat) = i) (hn : i < lv.length) (hk : zkb lv i = true) (hq : pc + 1 = q) (k : Z M Po kc ks n σ q (lv.set i (some (.int x))) st) : Z M Po kc ks n σ pc lv (.int x :: st) := by
  subst hq; intro p l e s m args below meth c b G D hC H locs ls hz hP hS hl
  exact lv_istore_n hC.1 hC.2.1 hd hi (zl_has hl) (Nat.lt_of_lt_of_le hn hl.2.2.1) rfl (fun ls' h' => k p l e s m args below meth c b G D hC H locs ls' hz hP hS (zl_set1 (x := .int x) hl hn hk h'))
theorem z_istore {i : Nat} {x : Int32} (hd : decode (mB M) pc = .ok (.istore i, 2)) (hn : i < lv.length) (hk : zkb lv i = true) (hq : pc + 2 = q) (k : Z M Po kc ks n σ q (lv.set i (some (.int x))) st) : Z M Po kc ks n σ pc lv (.int x :: st) := by
  subst hq; intro p l e s m args below meth c b G D hC H locs ls hz hP hS hl
  exact lv_istore hC.1 hC.2.1 hd (zl_has hl) (Nat.lt_of_lt_of_le hn hl.2.2.1) rfl (fun ls' h' => k p l e s m args below meth c b G D hC H locs ls' hz hP hS (zl_set1 (x := .int x) hl hn hk h'))
theorem z_lload_n {j : Fin 4} {i : Nat} {x : Int64} (hd : decode (mB M) pc = .ok (.lload_n j, 1)) (hi : (j : Nat) = i) (hv : lv[i]? = some (some (.long x))) (hq : pc + 1 = q) (k : Z M Po kc ks n σ q lv (.long x :: st)) : Z M Po kc ks n σ pc lv st := by
  subst hq; intro p l e s m args below meth c b G D hC H locs ls hz hP hS hl
  exact lv_lload_n hC.1 hC.2.1 hd hi (hl.2.2.2 _ _ hv) (k p l e s m args below meth c b G D hC H locs ls hz hP hS hl)
theorem z_lload {i : Nat} {x : Int64} (hd : decode (mB M) pc = .ok (.lload i, 2)) (hv : lv[i]? = some (some (.long x))) (hq : pc + 2 = q) (k : Z M Po kc ks n σ q lv (.long x :: st)) : Z M Po kc ks n σ pc lv st := by
  subst hq; intro p l e s m args below meth c b G D hC H locs ls hz hP hS hl
  exact lv_lload hC.1 hC.2.1 hd (hl.2.2.2 _ _ hv) (k p l e s m args below meth c b G D hC H locs ls hz hP hS hl)
theorem z_lstore_n {j : Fin 4} {i : Nat} {x : Int64} (hd : decode (mB M) pc = .ok (.lstore_n j, 1)) (hi : (j : Nat) = i) (hn : i + 1 < lv.length) (hk : zkb lv i = true) (hq : pc + 1 = q) (k : Z M Po kc ks n σ q ((lv.set i (some (.long x))).set (i + 1) none) st) : Z M Po kc ks n σ pc lv (.long x :: st) := by
  subst hq; intro p l e s m args below meth c b G D hC H locs ls hz hP hS hl
  exact lv_lstore_n hC.1 hC.2.1 hd hi (zl_has hl) (Nat.lt_of_lt_of_le hn hl.2.2.1) rfl (fun ls' h' => k p l e s m args below meth c b G D hC H locs ls' hz hP hS (zl_set2 (x := .long x) hl hn hk h'))
theorem z_lstore {i : Nat} {x : Int64} (hd : decode (mB M) pc = .ok (.lstore i, 2)) (hn : i + 1 < lv.length) (hk : zkb lv i = true) (hq : pc + 2 = q) (k : Z M Po kc ks n σ q ((lv.set i (some (.long x))).set (i + 1) none) st) : Z M Po kc ks n σ pc lv (.long x :: st) := by
  subst hq; intro p l e s m args below meth c b G D hC H locs ls hz hP hS hl
  exact lv_lstore hC.1 hC.2.1 hd (zl_has hl) (Nat.lt_of_lt_of_le hn hl.2.2.1) rfl (fun ls' h' => k p l e s m args below meth c b G D hC H locs ls' hz hP hS (zl_set2 (x := .long x) hl hn hk h'))
theorem z_aload_n {j : Fin 4} {i : Nat} {x : Nat} (hd : decode (mB M) pc = .ok (.aload_n j, 1)) (hi : (j : Nat) = i) (hv : lv[i]? = some (some (.ref x))) (hq : pc + 1 = q) (k : Z M Po kc ks n σ q lv (.ref x :: st)) : Z M Po kc ks n σ pc lv st := by
  subst hq; intro p l e s m args below meth c b G D hC H locs ls hz hP hS hl
  exact lv_aload_n hC.1 hC.2.1 hd hi (hl.2.2.2 _ _ hv) (k p l e s m args below meth c b G D hC H locs ls hz hP hS hl)
theorem z_aload {i : Nat} {x : Nat} (hd : decode (mB M) pc = .ok (.aload i, 2)) (hv : lv[i]? = some (some (.ref x))) (hq : pc + 2 = q) (k : Z M Po kc ks n σ q lv (.ref x :: st)) : Z M Po kc ks n σ pc lv st := by
  subst hq; intro p l e s m args below meth c b G D hC H locs ls hz hP hS hl
  exact lv_aload hC.1 hC.2.1 hd (hl.2.2.2 _ _ hv) (k p l e s m args below meth c b G D hC H locs ls hz hP hS hl)
theorem z_astore_n {j : Fin 4} {i : Nat} {x : Nat} (hd : decode (mB M) pc = .ok (.astore_n j, 1)) (hi : (j : Nat) = i) (hn : i < lv.length) (hk : zkb lv i = true) (hq : pc + 1 = q) (k : Z M Po kc ks n σ q (lv.set i (some (.ref x))) st) : Z M Po kc ks n σ pc lv (.ref x :: st) := by
  subst hq; intro p l e s m args below meth c b G D hC H locs ls hz hP hS hl
  exact lv_astore_n hC.1 hC.2.1 hd hi (zl_has hl) (Nat.lt_of_lt_of_le hn hl.2.2.1) rfl (fun ls' h' => k p l e s m args below meth c b G D hC H locs ls' hz hP hS (zl_set1 (x := .ref x) hl hn hk h'))
theorem z_astore {i : Nat} {x : Nat} (hd : decode (mB M) pc = .ok (.astore i, 2)) (hn : i < lv.length) (hk : zkb lv i = true) (hq : pc + 2 = q) (k : Z M Po kc ks n σ q (lv.set i (some (.ref x))) st) : Z M Po kc ks n σ pc lv (.ref x :: st) := by
  subst hq; intro p l e s m args below meth c b G D hC H locs ls hz hP hS hl
  exact lv_astore hC.1 hC.2.1 hd (zl_has hl) (Nat.lt_of_lt_of_le hn hl.2.2.1) rfl (fun ls' h' => k p l e s m args below meth c b G D hC H locs ls' hz hP hS (zl_set1 (x := .ref x) hl hn hk h'))
theorem z_iinc {i : Nat} {x v : Int32} {d : Int} (hd : decode (mB M) pc = .ok (.iinc i d, 3)) (hv : lv[i]? = some (some (.int x))) (hx : x + Int32.ofInt d = v) (hn : i < lv.length) (hk : zkb lv i = true) (hq : pc + 3 = q) (k : Z M Po kc ks n σ q (lv.set i (some (.int v))) st) : Z M Po kc ks n σ pc lv st := by
  subst hq; intro p l e s m args below meth c b G D hC H locs ls hz hP hS hl
  obtain ⟨j, hj⟩ := List.getElem?_of_mem (zp_in (b := b).mpr ⟨_, hv, rfl⟩)
  exact lv_iinc hC.1 hC.2.1 hd (zl_has hl) hj hx (Nat.lt_of_lt_of_le hn hl.2.2.1) rfl (fun ls' h' => k p l e s m args below meth c b G D hC H locs ls' hz hP hS (zl_set1 (x := .int v) hl hn hk h'))
theorem z_ild0 {t : List (Option Value)} {x : Int32} (hd : decode (mB M) pc = .ok (.iload_n 0, 1)) (hq : pc + 1 = q) (k : Z M Po kc ks n σ q (some (.int x) :: t) (.int x :: st)) : Z M Po kc ks n σ pc (some (.int x) :: t) st := z_iload_n (i := 0) hd rfl rfl hq k
theorem z_ist0 {o : Option Value} {t : List (Option Value)} {x : Int32} (hd : decode (mB M) pc = .ok (.istore_n 0, 1)) (hq : pc + 1 = q) (k : Z M Po kc ks n σ q (some (.int x) :: t) st) : Z M Po kc ks n σ pc (o :: t) (.int x :: st) := z_istore_n (i := 0) hd rfl (by simp only [List.length_cons]; omega) rfl hq k
theorem z_lld0 {t : List (Option Value)} {x : Int64} (hd : decode (mB M) pc = .ok (.lload_n 0, 1)) (hq : pc + 1 = q) (k : Z M Po kc ks n σ q (some (.long x) :: t) (.long x :: st)) : Z M Po kc ks n σ pc (some (.long x) :: t) st := z_lload_n (i := 0) hd rfl rfl hq k
theorem z_lst0 {o o2 : Option Value} {t : List (Option Value)} {x : Int64} (hd : decode (mB M) pc = .ok (.lstore_n 0, 1)) (hq : pc + 1 = q) (k : Z M Po kc ks n σ q (some (.long x) :: none :: t) st) : Z M Po kc ks n σ pc (o :: o2 :: t) (.long x :: st) := z_lstore_n (i := 0) hd rfl (by simp only [List.length_cons]; omega) rfl hq k
theorem z_ald0 {t : List (Option Value)} {x : Nat} (hd : decode (mB M) pc = .ok (.aload_n 0, 1)) (hq : pc + 1 = q) (k : Z M Po kc ks n σ q (some (.ref x) :: t) (.ref x :: st)) : Z M Po kc ks n σ pc (some (.ref x) :: t) st := z_aload_n (i := 0) hd rfl rfl hq k
theorem z_ast0 {o : Option Value} {t : List (Option Value)} {x : Nat} (hd : decode (mB M) pc = .ok (.astore_n 0, 1)) (hq : pc + 1 = q) (k : Z M Po kc ks n σ q (some (.ref x) :: t) st) : Z M Po kc ks n σ pc (o :: t) (.ref x :: st) := z_astore_n (i := 0) hd rfl (by simp only [List.length_cons]; omega) rfl hq k
theorem zn_iinc0 {t : List (Option Value)} {x d : Nat} (hd : decode (mB M) pc = .ok (.iinc 0 (d : Int), 3)) (hq : pc + 3 = q) (k : Z M Po kc ks n σ q (some (.int (nI (x + d))) :: t) st) : Z M Po kc ks n σ pc (some (.int (nI x)) :: t) st := z_iinc (i := 0) hd rfl (show nI x + Int32.ofInt (d : Int) = nI (x + d) from nI_add x d) (by simp only [List.length_cons]; omega) rfl hq k
theorem z_ild1 {a0 : Option Value} {t : List (Option Value)} {x : Int32} (hd : decode (mB M) pc = .ok (.iload_n 1, 1)) (hq : pc + 1 = q) (k : Z M Po kc ks n σ q (a0 :: some (.int x) :: t) (.int x :: st)) : Z M Po kc ks n σ pc (a0 :: some (.int x) :: t) st := z_iload_n (i := 1) hd rfl rfl hq k
theorem z_ist1 {a0 : Option Value} {o : Option Value} {t : List (Option Value)} {x : Int32} (hd : decode (mB M) pc = .ok (.istore_n 1, 1)) (hq : pc + 1 = q) (hk : zn2 a0 = true) (k : Z M Po kc ks n σ q (a0 :: some (.int x) :: t) st) : Z M Po kc ks n σ pc (a0 :: o :: t) (.int x :: st) := z_istore_n (i := 1) hd rfl (by simp only [List.length_cons]; omega) hk hq k
theorem z_lld1 {a0 : Option Value} {t : List (Option Value)} {x : Int64} (hd : decode (mB M) pc = .ok (.lload_n 1, 1)) (hq : pc + 1 = q) (k : Z M Po kc ks n σ q (a0 :: some (.long x) :: t) (.long x :: st)) : Z M Po kc ks n σ pc (a0 :: some (.long x) :: t) st := z_lload_n (i := 1) hd rfl rfl hq k
theorem z_lst1 {a0 : Option Value} {o o2 : Option Value} {t : List (Option Value)} {x : Int64} (hd : decode (mB M) pc = .ok (.lstore_n 1, 1)) (hq : pc + 1 = q) (hk : zn2 a0 = true) (k : Z M Po kc ks n σ q (a0 :: some (.long x) :: none :: t) st) : Z M Po kc ks n σ pc (a0 :: o :: o2 :: t) (.long x :: st) := z_lstore_n (i := 1) hd rfl (by simp only [List.length_cons]; omega) hk hq k
theorem z_ald1 {a0 : Option Value} {t : List (Option Value)} {x : Nat} (hd : decode (mB M) pc = .ok (.aload_n 1, 1)) (hq : pc + 1 = q) (k : Z M Po kc ks n σ q (a0 :: some (.ref x) :: t) (.ref x :: st)) : Z M Po kc ks n σ pc (a0 :: some (.ref x) :: t) st := z_aload_n (i := 1) hd rfl rfl hq k
theorem z_ast1 {a0 : Option Value} {o : Option Value} {t : List (Option Value)} {x : Nat} (hd : decode (mB M) pc = .ok (.astore_n 1, 1)) (hq : pc + 1 = q) (hk : zn2 a0 = true) (k : Z M Po kc ks n σ q (a0 :: some (.ref x) :: t) st) : Z M Po kc ks n σ pc (a0 :: o :: t) (.ref x :: st) := z_astore_n (i := 1) hd rfl (by simp only [List.length_cons]; omega) hk hq k
theorem zn_iinc1 {a0 : Option Value} {t : List (Option Value)} {x d : Nat} (hd : decode (mB M) pc = .ok (.iinc 1 (d : Int), 3)) (hq : pc + 3 = q) (hk : zn2 a0 = true) (k : Z M Po kc ks n σ q (a0 :: some (.int (nI (x + d))) :: t) st) : Z M Po kc ks n σ pc (a0 :: some (.int (nI x)) :: t) st := z_iinc (i := 1) hd rfl (show nI x + Int32.ofInt (d : Int) = nI (x + d) from nI_add x d) (by simp only [List.length_cons]; omega) hk hq k
theorem z_ild2 {a0 a1 : Option Value} {t : List (Option Value)} {x : Int32} (hd : decode (mB M) pc = .ok (.iload_n 2, 1)) (hq : pc + 1 = q) (k : Z M Po kc ks n σ q (a0 :: a1 :: some (.int x) :: t) (.int x :: st)) : Z M Po kc ks n σ pc (a0 :: a1 :: some (.int x) :: t) st := z_iload_n (i := 2) hd rfl rfl hq k
theorem z_ist2 {a0 a1 : Option Value} {o : Option Value} {t : List (Option Value)} {x : Int32} (hd : decode (mB M) pc = .ok (.istore_n 2, 1)) (hq : pc + 1 = q) (hk : zn2 a1 = true) (k : Z M Po kc ks n σ q (a0 :: a1 :: some (.int x) :: t) st) : Z M Po kc ks n σ pc (a0 :: a1 :: o :: t) (.int x :: st) := z_istore_n (i := 2) hd rfl (by simp only [List.length_cons]; omega) hk hq k
theorem z_lld2 {a0 a1 : Option Value} {t : List (Option Value)} {x : Int64} (hd : decode (mB M) pc = .ok (.lload_n 2, 1)) (hq : pc + 1 = q) (k : Z M Po kc ks n σ q (a0 :: a1 :: some (.long x) :: t) (.long x :: st)) : Z M Po kc ks n σ pc (a0 :: a1 :: some (.long x) :: t) st := z_lload_n (i := 2) hd rfl rfl hq k
theorem z_lst2 {a0 a1 : Option Value} {o o2 : Option Value} {t : List (Option Value)} {x : Int64} (hd : decode (mB M) pc = .ok (.lstore_n 2, 1)) (hq : pc + 1 = q) (hk : zn2 a1 = true) (k : Z M Po kc ks n σ q (a0 :: a1 :: some (.long x) :: none :: t) st) : Z M Po kc ks n σ pc (a0 :: a1 :: o :: o2 :: t) (.long x :: st) := z_lstore_n (i := 2) hd rfl (by simp only [List.length_cons]; omega) hk hq k
theorem z_ald2 {a0 a1 : Option Value} {t : List (Option Value)} {x : Nat} (hd : decode (mB M) pc = .ok (.aload_n 2, 1)) (hq : pc + 1 = q) (k : Z M Po kc ks n σ q (a0 :: a1 :: some (.ref x) :: t) (.ref x :: st)) : Z M Po kc ks n σ pc (a0 :: a1 :: some (.ref x) :: t) st := z_aload_n (i := 2) hd rfl rfl hq k
theorem z_ast2 {a0 a1 : Option Value} {o : Option Value} {t : List (Option Value)} {x : Nat} (hd : decode (mB M) pc = .ok (.astore_n 2, 1)) (hq : pc + 1 = q) (hk : zn2 a1 = true) (k : Z M Po kc ks n σ q (a0 :: a1 :: some (.ref x) :: t) st) : Z M Po kc ks n σ pc (a0 :: a1 :: o :: t) (.ref x :: st) := z_astore_n (i := 2) hd rfl (by simp only [List.length_cons]; omega) hk hq k
theorem zn_iinc2 {a0 a1 : Option Value} {t : List (Option Value)} {x d : Nat} (hd : decode (mB M) pc = .ok (.iinc 2 (d : Int), 3)) (hq : pc + 3 = q) (hk : zn2 a1 = true) (k : Z M Po kc ks n σ q (a0 :: a1 :: some (.int (nI (x + d))) :: t) st) : Z M Po kc ks n σ pc (a0 :: a1 :: some (.int (nI x)) :: t) st := z_iinc (i := 2) hd rfl (show nI x + Int32.ofInt (d : Int) = nI (x + d) from nI_add x d) (by simp only [List.length_cons]; omega) hk hq k
theorem z_ild3 {a0 a1 a2 : Option Value} {t : List (Option Value)} {x : Int32} (hd : decode (mB M) pc = .ok (.iload_n 3, 1)) (hq : pc + 1 = q) (k : Z M Po kc ks n σ q (a0 :: a1 :: a2 :: some (.int x) :: t) (.int x :: st)) : Z M Po kc ks n σ pc (a0 :: a1 :: a2 :: some (.int x) :: t) st := z_iload_n (i := 3) hd rfl rfl hq k
theorem z_ist3 {a0 a1 a2 : Option Value} {o : Option Value} {t : List (Option Value)} {x : Int32} (hd : decode (mB M) pc = .ok (.istore_n 3, 1)) (hq : pc + 1 = q) (hk : zn2 a2 = true) (k : Z M Po kc ks n σ q (a0 :: a1 :: a2 :: some (.int x) :: t) st) : Z M Po kc ks n σ pc (a0 :: a1 :: a2 :: o :: t) (.int x :: st) := z_istore_n (i := 3) hd rfl (by simp only [List.length_cons]; omega) hk hq k
theorem z_lld3 {a0 a1 a2 : Option Value} {t : List (Option Value)} {x : Int64} (hd : decode (mB M) pc = .ok (.lload_n 3, 1)) (hq : pc + 1 = q) (k : Z M Po kc ks n σ q (a0 :: a1 :: a2 :: some (.long x) :: t) (.long x :: st)) : Z M Po kc ks n σ pc (a0 :: a1 :: a2 :: some (.long x) :: t) st := z_lload_n (i := 3) hd rfl rfl hq k
theorem z_lst3 {a0 a1 a2 : Option Value} {o o2 : Option Value} {t : List (Option Value)} {x : Int64} (hd : decode (mB M) pc = .ok (.lstore_n 3, 1)) (hq : pc + 1 = q) (hk : zn2 a2 = true) (k : Z M Po kc ks n σ q (a0 :: a1 :: a2 :: some (.long x) :: none :: t) st) : Z M Po kc ks n σ pc (a0 :: a1 :: a2 :: o :: o2 :: t) (.long x :: st) := z_lstore_n (i := 3) hd rfl (by simp only [List.length_cons]; omega) hk hq k
theorem z_ald3 {a0 a1 a2 : Option Value} {t : List (Option Value)} {x : Nat} (hd : decode (mB M) pc = .ok (.aload_n 3, 1)) (hq : pc + 1 = q) (k : Z M Po kc ks n σ q (a0 :: a1 :: a2 :: some (.ref x) :: t) (.ref x :: st)) : Z M Po kc ks n σ pc (a0 :: a1 :: a2 :: some (.ref x) :: t) st := z_aload_n (i := 3) hd rfl rfl hq k
theorem z_ast3 {a0 a1 a2 : Option Value} {o : Option Value} {t : List (Option Value)} {x : Nat} (hd : decode (mB M) pc = .ok (.astore_n 3, 1)) (hq : pc + 1 = q) (hk : zn2 a2 = true) (k : Z M Po kc ks n σ q (a0 :: a1 :: a2 :: some (.ref x) :: t) st) : Z M Po kc ks n σ pc (a0 :: a1 :: a2 :: o :: t) (.ref x :: st) := z_astore_n (i := 3) hd rfl (by simp only [List.length_cons]; omega) hk hq k
theorem zn_iinc3 {a0 a1 a2 : Option Value} {t : List (Option Value)} {x d : Nat} (hd : decode (mB M) pc = .ok (.iinc 3 (d : Int), 3)) (hq : pc + 3 = q) (hk : zn2 a2 = true) (k : Z M Po kc ks n σ q (a0 :: a1 :: a2 :: some (.int (nI (x + d))) :: t) st) : Z M Po kc ks n σ pc (a0 :: a1 :: a2 :: some (.int (nI x)) :: t) st := z_iinc (i := 3) hd rfl (show nI x + Int32.ofInt (d : Int) = nI (x + d) from nI_add x d) (by simp only [List.length_cons]; omega) hk hq k
theorem z_ild4 {a0 a1 a2 a3 : Option Value} {t : List (Option Value)} {x : Int32} (hd : decode (mB M) pc = .ok (.iload 4, 2)) (hq : pc + 2 = q) (k : Z M Po kc ks n σ q (a0 :: a1 :: a2 :: a3 :: some (.int x) :: t) (.int x :: st)) : Z M Po kc ks n σ pc (a0 :: a1 :: a2 :: a3 :: some (.int x) :: t) st := z_iload (i := 4) hd rfl hq k
theorem z_ist4 {a0 a1 a2 a3 : Option Value} {o : Option Value} {t : List (Option Value)} {x : Int32} (hd : decode (mB M) pc = .ok (.istore 4, 2)) (hq : pc + 2 = q) (hk : zn2 a3 = true) (k : Z M Po kc ks n σ q (a0 :: a1 :: a2 :: a3 :: some (.int x) :: t) st) : Z M Po kc ks n σ pc (a0 :: a1 :: a2 :: a3 :: o :: t) (.int x :: st) := z_istore (i := 4) hd (by simp only [List.length_cons]; omega) hk hq k
theorem z_lld4 {a0 a1 a2 a3 : Option Value} {t : List (Option Value)} {x : Int64} (hd : decode (mB M) pc = .ok (.lload 4, 2)) (hq : pc + 2 = q) (k : Z M Po kc ks n σ q (a0 :: a1 :: a2 :: a3 :: some (.long x) :: t) (.long x :: st)) : Z M Po kc ks n σ pc (a0 :: a1 :: a2 :: a3 :: some (.long x) :: t) st := z_lload (i := 4) hd rfl hq k
theorem z_lst4 {a0 a1 a2 a3 : Option Value} {o o2 : Option Value} {t : List (Option Value)} {x : Int64} (hd : decode (mB M) pc = .ok (.lstore 4, 2)) (hq : pc + 2 = q) (hk : zn2 a3 = true) (k : Z M Po kc ks n σ q (a0 :: a1 :: a2 :: a3 :: some (.long x) :: none :: t) st) : Z M Po kc ks n σ pc (a0 :: a1 :: a2 :: a3 :: o :: o2 :: t) (.long x :: st) := z_lstore (i := 4) hd (by simp only [List.length_cons]; omega) hk hq k
theorem z_ald4 {a0 a1 a2 a3 : Option Value} {t : List (Option Value)} {x : Nat} (hd : decode (mB M) pc = .ok (.aload 4, 2)) (hq : pc + 2 = q) (k : Z M Po kc ks n σ q (a0 :: a1 :: a2 :: a3 :: some (.ref x) :: t) (.ref x :: st)) : Z M Po kc ks n σ pc (a0 :: a1 :: a2 :: a3 :: some (.ref x) :: t) st := z_aload (i := 4) hd rfl hq k
theorem z_ast4 {a0 a1 a2 a3 : Option Value} {o : Option Value} {t : List (Option Value)} {x : Nat} (hd : decode (mB M) pc = .ok (.astore 4, 2)) (hq : pc + 2 = q) (hk : zn2 a3 = true) (k : Z M Po kc ks n σ q (a0 :: a1 :: a2 :: a3 :: some (.ref x) :: t) st) : Z M Po kc ks n σ pc (a0 :: a1 :: a2 :: a3 :: o :: t) (.ref x :: st) := z_astore (i := 4) hd (by simp only [List.length_cons]; omega) hk hq k
theorem zn_iinc4 {a0 a1 a2 a3 : Option Value} {t : List (Option Value)} {x d : Nat} (hd : decode (mB M) pc = .ok (.iinc 4 (d : Int), 3)) (hq : pc + 3 = q) (hk : zn2 a3 = true) (k : Z M Po kc ks n σ q (a0 :: a1 :: a2 :: a3 :: some (.int (nI (x + d))) :: t) st) : Z M Po kc ks n σ pc (a0 :: a1 :: a2 :: a3 :: some (.int (nI x)) :: t) st := z_iinc (i := 4) hd rfl (show nI x + Int32.ofInt (d : Int) = nI (x + d) from nI_add x d) (by simp only [List.length_cons]; omega) hk hq k
theorem z_ild5 {a0 a1 a2 a3 a4 : Option Value} {t : List (Option Value)} {x : Int32} (hd : decode (mB M) pc = .ok (.iload 5, 2)) (hq : pc + 2 = q) (k : Z M Po kc ks n σ q (a0 :: a1 :: a2 :: a3 :: a4 :: some (.int x) :: t) (.int x :: st)) : Z M Po kc ks n σ pc (a0 :: a1 :: a2 :: a3 :: a4 :: some (.int x) :: t) st := z_iload (i := 5) hd rfl hq k
theorem z_ist5 {a0 a1 a2 a3 a4 : Option Value} {o : Option Value} {t : List (Option Value)} {x : Int32} (hd : decode (mB M) pc = .ok (.istore 5, 2)) (hq : pc + 2 = q) (hk : zn2 a4 = true) (k : Z M Po kc ks n σ q (a0 :: a1 :: a2 :: a3 :: a4 :: some (.int x) :: t) st) : Z M Po kc ks n σ pc (a0 :: a1 :: a2 :: a3 :: a4 :: o :: t) (.int x :: st) := z_istore (i := 5) hd (by simp only [List.length_cons]; omega) hk hq k
theorem z_lld5 {a0 a1 a2 a3 a4 : Option Value} {t : List (Option Value)} {x : Int64} (hd : decode (mB M) pc = .ok (.lload 5, 2)) (hq : pc + 2 = q) (k : Z M Po kc ks n σ q (a0 :: a1 :: a2 :: a3 :: a4 :: some (.long x) :: t) (.long x :: st)) : Z M Po kc ks n σ pc (a0 :: a1 :: a2 :: a3 :: a4 :: some (.long x) :: t) st := z_lload (i := 5) hd rfl hq k
theorem z_lst5 {a0 a1 a2 a3 a4 : Option Value} {o o2 : Option Value} {t : List (Option Value)} {x : Int64} (hd : decode (mB M) pc = .ok (.lstore 5, 2)) (hq : pc + 2 = q) (hk : zn2 a4 = true) (k : Z M Po kc ks n σ q (a0 :: a1 :: a2 :: a3 :: a4 :: some (.long x) :: none :: t) st) : Z M Po kc ks n σ pc (a0 :: a1 :: a2 :: a3 :: a4 :: o :: o2 :: t) (.long x :: st) := z_lstore (i := 5) hd (by simp only [List.length_cons]; omega) hk hq k
theorem z_ald5 {a0 a1 a2 a3 a4 : Option Value} {t : List (Option Value)} {x : Nat} (hd : decode (mB M) pc = .ok (.aload 5, 2)) (hq : pc + 2 = q) (k : Z M Po kc ks n σ q (a0 :: a1 :: a2 :: a3 :: a4 :: some (.ref x) :: t) (.ref x :: st)) : Z M Po kc ks n σ pc (a0 :: a1 :: a2 :: a3 :: a4 :: some (.ref x) :: t) st := z_aload (i := 5) hd rfl hq k
theorem z_ast5 {a0 a1 a2 a3 a4 : Option Value} {o : Option Value} {t : List (Option Value)} {x : Nat} (hd : decode (mB M) pc = .ok (.astore 5, 2)) (hq : pc + 2 = q) (hk : zn2 a4 = true) (k : Z M Po kc ks n σ q (a0 :: a1 :: a2 :: a3 :: a4 :: some (.ref x) :: t) st) : Z M Po kc ks n σ pc (a0 :: a1 :: a2 :: a3 :: a4 :: o :: t) (.ref x :: st) := z_astore (i := 5) hd (by simp only [List.length_cons]; omega) hk hq k
theorem zn_iinc5 {a0 a1 a2 a3 a4 : Option Value} {t : List (Option Value)} {x d : Nat} (hd : decode (mB M) pc = .ok (.iinc 5 (d : Int), 3)) (hq : pc + 3 = q) (hk : zn2 a4 = true) (k : Z M Po kc ks n σ q (a0 :: a1 :: a2 :: a3 :: a4 :: some (.int (nI (x + d))) :: t) st) : Z M Po kc ks n σ pc (a0 :: a1 :: a2 :: a3 :: a4 :: some (.int (nI x)) :: t) st := z_iinc (i := 5) hd rfl (show nI x + Int32.ofInt (d : Int) = nI (x + d) from nI_add x d) (by simp only [List.length_cons]; omega) hk hq k
theorem z_ild6 {a0 a1 a2 a3 a4 a5 : Option Value} {t : List (Option Value)} {x : Int32} (hd : decode (mB M) pc = .ok (.iload 6, 2)) (hq : pc + 2 = q) (k : Z M Po kc ks n σ q (a0 :: a1 :: a2 :: a3 :: a4 :: a5 :: some (.int x) :: t) (.int x :: st)) : Z M Po kc ks n σ pc (a0 :: a1 :: a2 :: a3 :: a4 :: a5 :: some (.int x) :: t) st := z_iload (i := 6) hd rfl hq k
theorem z_ist6 {a0 a1 a2 a3 a4 a5 : Option Value} {o : Option Value} {t : List (Option Value)} {x : Int32} (hd : decode (mB M) pc = .ok (.istore 6, 2)) (hq : pc + 2 = q) (hk : zn2 a5 = true) (k : Z M Po kc ks n σ q (a0 :: a1 :: a2 :: a3 :: a4 :: a5 :: some (.int x) :: t) st) : Z M Po kc ks n σ pc (a0 :: a1 :: a2 :: a3 :: a4 :: a5 :: o :: t) (.int x :: st) := z_istore (i := 6) hd (by simp only [List.length_cons]; omega) hk hq k
theorem z_lld6 {a0 a1 a2 a3 a4 a5 : Option Value} {t : List (Option Value)} {x : Int64} (hd : decode (mB M) pc = .ok (.lload 6, 2)) (hq : pc + 2 = q) (k : Z M Po kc ks n σ q (a0 :: a1 :: a2 :: a3 :: a4 :: a5 :: some (.long x) :: t) (.long x :: st)) : Z M Po kc ks n σ pc (a0 :: a1 :: a2 :: a3 :: a4 :: a5 :: some (.long x) :: t) st := z_lload (i := 6) hd rfl hq k
theorem z_lst6 {a0 a1 a2 a3 a4 a5 : Option Value} {o o2 : Option Value} {t : List (Option Value)} {x : Int64} (hd : decode (mB M) pc = .ok (.lstore 6, 2)) (hq : pc + 2 = q) (hk : zn2 a5 = true) (k : Z M Po kc ks n σ q (a0 :: a1 :: a2 :: a3 :: a4 :: a5 :: some (.long x) :: none :: t) st) : Z M Po kc ks n σ pc (a0 :: a1 :: a2 :: a3 :: a4 :: a5 :: o :: o2 :: t) (.long x :: st) := z_lstore (i := 6) hd (by simp only [List.length_cons]; omega) hk hq k
theorem z_ald6 {a0 a1 a2 a3 a4 a5 : Option Value} {t : List (Option Value)} {x : Nat} (hd : decode (mB M) pc = .ok (.aload 6, 2)) (hq : pc + 2 = q) (k : Z M Po kc ks n σ q (a0 :: a1 :: a2 :: a3 :: a4 :: a5 :: some (.ref x) :: t) (.ref x :: st)) : Z M Po kc ks n σ pc (a0 :: a1 :: a2 :: a3 :: a4 :: a5 :: some (.ref x) :: t) st := z_aload (i := 6) hd rfl hq k
theorem z_ast6 {a0 a1 a2 a3 a4 a5 : Option Value} {o : Option Value} {t : List (Option Value)} {x : Nat} (hd : decode (mB M) pc = .ok (.astore 6, 2)) (hq : pc + 2 = q) (hk : zn2 a5 = true) (k : Z M Po kc ks n σ q (a0 :: a1 :: a2 :: a3 :: a4 :: a5 :: some (.ref x) :: t) st) : Z M Po kc ks n σ pc (a0 :: a1 :: a2 :: a3 :: a4 :: a5 :: o :: t) (.ref x :: st) := z_astore (i := 6) hd (by simp only [List.length_cons]; omega) hk hq k
theorem zn_iinc6 {a0 a1 a2 a3 a4 a5 : Option Value} {t : List (Option Value)} {x d : Nat} (hd : decode (mB M) pc = .ok (.iinc 6 (d : Int), 3)) (hq : pc + 3 = q) (hk : zn2 a5 = true) (k : Z M Po kc ks n σ q (a0 :: a1 :: a2 :: a3 :: a4 :: a5 :: some (.int (nI (x + d))) :: t) st) : Z M Po kc ks n σ pc (a0 :: a1 :: a2 :: a3 :: a4 :: a5 :: some (.int (nI x)) :: t) st := z_iinc (i := 6) hd rfl (show nI x + Int32.ofInt (d : Int) = nI (x + d) from nI_add x d) (by simp only [List.length_cons]; omega) hk hq k
theorem z_ild7 {a0 a1 a2 a3 a4 a5 a6 : Option Value} {t : List (Option Value)} {x : Int32} (hd : decode (mB M) pc = .ok (.iload 7, 2)) (hq : pc + 2 = q) (k : Z M Po kc ks n σ q (a0 :: a1 :: a2 :: a3 :: a4 :: a5 :: a6 :: some (.int x) :: t) (.int x :: st)) : Z M Po kc ks n σ pc (a0 :: a1 :: a2 :: a3 :: a4 :: a5 :: a6 :: some (.int x) :: t) st := z_iload (i := 7) hd rfl hq k
theorem z_ist7 {a0 a1 a2 a3 a4 a5 a6 : Option Value} {o : Option Value} {t : List (Option Value)} {x : Int32} (hd : decode (mB M) pc = .ok (.istore 7, 2)) (hq : pc + 2 = q) (hk : zn2 a6 = true) (k : Z M Po kc ks n σ q (a0 :: a1 :: a2 :: a3 :: a4 :: a5 :: a6 :: some (.int x) :: t) st) : Z M Po kc ks n σ pc (a0 :: a1 :: a2 :: a3 :: a4 :: a5 :: a6 :: o :: t) (.int x :: st) := z_istore (i := 7) hd (by simp only [List.length_cons]; omega) hk hq k
theorem z_lld7 {a0 a1 a2 a3 a4 a5 a6 : Option Value} {t : List (Option Value)} {x : Int64} (hd : decode (mB M) pc = .ok (.lload 7, 2)) (hq : pc + 2 = q) (k : Z M Po kc ks n σ q (a0 :: a1 :: a2 :: a3 :: a4 :: a5 :: a6 :: some (.long x) :: t) (.long x :: st)) : Z M Po kc ks n σ pc (a0 :: a1 :: a2 :: a3 :: a4 :: a5 :: a6 :: some (.long x) :: t) st := z_lload (i := 7) hd rfl hq k
theorem z_lst7 {a0 a1 a2 a3 a4 a5 a6 : Option Value} {o o2 : Option Value} {t : List (Option Value)} {x : Int64} (hd : decode (mB M) pc = .ok (.lstore 7, 2)) (hq : pc + 2 = q) (hk : zn2 a6 = true) (k : Z M Po kc ks n σ q (a0 :: a1 :: a2 :: a3 :: a4 :: a5 :: a6 :: some (.long x) :: none :: t) st) : Z M Po kc ks n σ pc (a0 :: a1 :: a2 :: a3 :: a4 :: a5 :: a6 :: o :: o2 :: t) (.long x :: st) := z_lstore (i := 7) hd (by simp only [List.length_cons]; omega) hk hq k
theorem z_ald7 {a0 a1 a2 a3 a4 a5 a6 : Option Value} {t : List (Option Value)} {x : Nat} (hd : decode (mB M) pc = .ok (.aload 7, 2)) (hq : pc + 2 = q) (k : Z M Po kc ks n σ q (a0 :: a1 :: a2 :: a3 :: a4 :: a5 :: a6 :: some (.ref x) :: t) (.ref x :: st)) : Z M Po kc ks n σ pc (a0 :: a1 :: a2 :: a3 :: a4 :: a5 :: a6 :: some (.ref x) :: t) st := z_aload (i := 7) hd rfl hq k
theorem z_ast7 {a0 a1 a2 a3 a4 a5 a6 : Option Value} {o : Option Value} {t : List (Option Value)} {x : Nat} (hd : decode (mB M) pc = .ok (.astore 7, 2)) (hq : pc + 2 = q) (hk : zn2 a6 = true) (k : Z M Po kc ks n σ q (a0 :: a1 :: a2 :: a3 :: a4 :: a5 :: a6 :: some (.ref x) :: t) st) : Z M Po kc ks n σ pc (a0 :: a1 :: a2 :: a3 :: a4 :: a5 :: a6 :: o :: t) (.ref x :: st) := z_astore (i := 7) hd (by simp only [List.length_cons]; omega) hk hq k
theorem zn_iinc7 {a0 a1 a2 a3 a4 a5 a6 : Option Value} {t : List (Option Value)} {x d : Nat} (hd : decode (mB M) pc = .ok (.iinc 7 (d : Int), 3)) (hq : pc + 3 = q) (hk : zn2 a6 = true) (k : Z M Po kc ks n σ q (a0 :: a1 :: a2 :: a3 :: a4 :: a5 :: a6 :: some (.int (nI (x + d))) :: t) st) : Z M Po kc ks n σ pc (a0 :: a1 :: a2 :: a3 :: a4 :: a5 :: a6 :: some (.int (nI x)) :: t) st := z_iinc (i := 7) hd rfl (show nI x + Int32.ofInt (d : Int) = nI (x + d) from nI_add x d) (by simp only [List.length_cons]; omega) hk hq k
theorem z_ild8 {a0 a1 a2 a3 a4 a5 a6 a7 : Option Value} {t : List (Option Value)} {x : Int32} (hd : decode (mB M) pc = .ok (.iload 8, 2)) (hq : pc + 2 = q) (k : Z M Po kc ks n σ q (a0 :: a1 :: a2 :: a3 :: a4 :: a5 :: a6 :: a7 :: some (.int x) :: t) (.int x :: st)) : Z M Po kc ks n σ pc (a0 :: a1 :: a2 :: a3 :: a4 :: a5 :: a6 :: a7 :: some (.int x) :: t) st := z_iload (i := 8) hd rfl hq k
theorem z_ist8 {a0 a1 a2 a3 a4 a5 a6 a7 : Option Value} {o : Option Value} {t : List (Option Value)} {x : Int32} (hd : decode (mB M) pc = .ok (.istore 8, 2)) (hq : pc + 2 = q) (hk : zn2 a7 = true) (k : Z M Po kc ks n σ q (a0 :: a1 :: a2 :: a3 :: a4 :: a5 :: a6 :: a7 :: some (.int x) :: t) st) : Z M Po kc ks n σ pc (a0 :: a1 :: a2 :: a3 :: a4 :: a5 :: a6 :: a7 :: o :: t) (.int x :: st) := z_istore (i := 8) hd (by simp only [List.length_cons]; omega) hk hq k
theorem z_lld8 {a0 a1 a2 a3 a4 a5 a6 a7 : Option Value} {t : List (Option Value)} {x : Int64} (hd : decode (mB M) pc = .ok (.lload 8, 2)) (hq : pc + 2 = q) (k : Z M Po kc ks n σ q (a0 :: a1 :: a2 :: a3 :: a4 :: a5 :: a6 :: a7 :: some (.long x) :: t) (.long x :: st)) : Z M Po kc ks n σ pc (a0 :: a1 :: a2 :: a3 :: a4 :: a5 :: a6 :: a7 :: some (.long x) :: t) st := z_lload (i := 8) hd rfl hq k
theorem z_lst8 {a0 a1 a2 a3 a4 a5 a6 a7 : Option Value} {o o2 : Option Value} {t : List (Option Value)} {x : Int64} (hd : decode (mB M) pc = .ok (.lstore 8, 2)) (hq : pc + 2 = q) (hk : zn2 a7 = true) (k : Z M Po kc ks n σ q (a0 :: a1 :: a2 :: a3 :: a4 :: a5 :: a6 :: a7 :: some (.long x) :: none :: t) st) : Z M Po kc ks n σ pc (a0 :: a1 :: a2 :: a3 :: a4 :: a5 :: a6 :: a7 :: o :: o2 :: t) (.long x :: st) := z_lstore (i := 8) hd (by simp only [List.length_cons]; omega) hk hq k
theorem z_ald8 {a0 a1 a2 a3 a4 a5 a6 a7 : Option Value} {t : List (Option Value)} {x : Nat} (hd : decode (mB M) pc = .ok (.aload 8, 2)) (hq : pc + 2 = q) (k : Z M Po kc ks n σ q (a0 :: a1 :: a2 :: a3 :: a4 :: a5 :: a6 :: a7 :: some (.ref x) :: t) (.ref x :: st)) : Z M Po kc ks n σ pc (a0 :: a1 :: a2 :: a3 :: a4 :: a5 :: a6 :: a7 :: some (.ref x) :: t) st := z_aload (i := 8) hd rfl hq k
theorem z_ast8 {a0 a1 a2 a3 a4 a5 a6 a7 : Option Value} {o : Option Value} {t : List (Option Value)} {x : Nat} (hd : decode (mB M) pc = .ok (.astore 8, 2)) (hq : pc + 2 = q) (hk : zn2 a7 = true) (k : Z M Po kc ks n σ q (a0 :: a1 :: a2 :: a3 :: a4 :: a5 :: a6 :: a7 :: some (.ref x) :: t) st) : Z M Po kc ks n σ pc (a0 :: a1 :: a2 :: a3 :: a4 :: a5 :: a6 :: a7 :: o :: t) (.ref x :: st) := z_astore (i := 8) hd (by simp only [List.length_cons]; omega) hk hq k
theorem zn_iinc8 {a0 a1 a2 a3 a4 a5 a6 a7 : Option Value} {t : List (Option Value)} {x d : Nat} (hd : decode (mB M) pc = .ok (.iinc 8 (d : Int), 3)) (hq : pc + 3 = q) (hk : zn2 a7 = true) (k : Z M Po kc ks n σ q (a0 :: a1 :: a2 :: a3 :: a4 :: a5 :: a6 :: a7 :: some (.int (nI (x + d))) :: t) st) : Z M Po kc ks n σ pc (a0 :: a1 :: a2 :: a3 :: a4 :: a5 :: a6 :: a7 :: some (.int (nI x)) :: t) st := z_iinc (i := 8) hd rfl (show nI x + Int32.ofInt (d : Int) = nI (x + d) from nI_add x d) (by simp only [List.length_cons]; omega) hk hq k
theorem z_ild9 {a0 a1 a2 a3 a4 a5 a6 a7 a8 : Option Value} {t : List (Option Value)} {x : Int32} (hd : decode (mB M) pc = .ok (.iload 9, 2)) (hq : pc + 2 = q) (k : Z M Po kc ks n σ q (a0 :: a1 :: a2 :: a3 :: a4 :: a5 :: a6 :: a7 :: a8 :: some (.int x) :: t) (.int x :: st)) : Z M Po kc ks n σ pc (a0 :: a1 :: a2 :: a3 :: a4 :: a5 :: a6 :: a7 :: a8 :: some (.int x) :: t) st := z_iload (i := 9) hd rfl hq k
theorem z_ist9 {a0 a1 a2 a3 a4 a5 a6 a7 a8 : Option Value} {o : Option Value} {t : List (Option Value)} {x : Int32} (hd : decode (mB M) pc = .ok (.istore 9, 2)) (hq : pc + 2 = q) (hk : zn2 a8 = true) (k : Z M Po kc ks n σ q (a0 :: a1 :: a2 :: a3 :: a4 :: a5 :: a6 :: a7 :: a8 :: some (.int x) :: t) st) : Z M Po kc ks n σ pc (a0 :: a1 :: a2 :: a3 :: a4 :: a5 :: a6 :: a7 :: a8 :: o :: t) (.int x :: st) := z_istore (i := 9) hd (by simp only [List.length_cons]; omega) hk hq k
theorem z_lld9 {a0 a1 a2 a3 a4 a5 a6 a7 a8 : Option Value} {t : List (Option Value)} {x : Int64} (hd : decode (mB M) pc = .ok (.lload 9, 2)) (hq : pc + 2 = q) (k : Z M Po kc ks n σ q (a0 :: a1 :: a2 :: a3 :: a4 :: a5 :: a6 :: a7 :: a8 :: some (.long x) :: t) (.long x :: st)) : Z M Po kc ks n σ pc (a0 :: a1 :: a2 :: a3 :: a4 :: a5 :: a6 :: a7 :: a8 :: some (.long x) :: t) st := z_lload (i := 9) hd rfl hq k
theorem z_lst9 {a0 a1 a2 a3 a4 a5 a6 a7 a8 : Option Value} {o o2 : Option Value} {t : List (Option Value)} {x : Int64} (hd : decode (mB M) pc = .ok (.lstore 9, 2)) (hq : pc + 2 = q) (hk : zn2 a8 = true) (k : Z M Po kc ks n σ q (a0 :: a1 :: a2 :: a3 :: a4 :: a5 :: a6 :: a7 :: a8 :: some (.long x) :: none :: t) st) : Z M Po kc ks n σ pc (a0 :: a1 :: a2 :: a3 :: a4 :: a5 :: a6 :: a7 :: a8 :: o :: o2 :: t) (.long x :: st) := z_lstore (i := 9) hd (by simp only [List.length_cons]; omega) hk hq k
theorem z_ald9 {a0 a1 a2 a3 a4 a5 a6 a7 a8 : Option Value} {t : List (Option Value)} {x : Nat} (hd : decode (mB M) pc = .ok (.aload 9, 2)) (hq : pc + 2 = q) (k : Z M Po kc ks n σ q (a0 :: a1 :: a2 :: a3 :: a4 :: a5 :: a6 :: a7 :: a8 :: some (.ref x) :: t) (.ref x :: st)) : Z M Po kc ks n σ pc (a0 :: a1 :: a2 :: a3 :: a4 :: a5 :: a6 :: a7 :: a8 :: some (.ref x) :: t) st := z_aload (i := 9) hd rfl hq k
theorem z_ast9 {a0 a1 a2 a3 a4 a5 a6 a7 a8 : Option Value} {o : Option Value} {t : List (Option Value)} {x : Nat} (hd : decode (mB M) pc = .ok (.astore 9, 2)) (hq : pc + 2 = q) (hk : zn2 a8 = true) (k : Z M Po kc ks n σ q (a0 :: a1 :: a2 :: a3 :: a4 :: a5 :: a6 :: a7 :: a8 :: some (.ref x) :: t) st) : Z M Po kc ks n σ pc (a0 :: a1 :: a2 :: a3 :: a4 :: a5 :: a6 :: a7 :: a8 :: o :: t) (.ref x :: st) := z_astore (i := 9) hd (by simp only [List.length_cons]; omega) hk hq k
theorem zn_iinc9 {a0 a1 a2 a3 a4 a5 a6 a7 a8 : Option Value} {t : List (Option Value)} {x d : Nat} (hd : decode (mB M) pc = .ok (.iinc 9 (d : Int), 3)) (hq : pc + 3 = q) (hk : zn2 a8 = true) (k : Z M Po kc ks n σ q (a0 :: a1 :: a2 :: a3 :: a4 :: a5 :: a6 :: a7 :: a8 :: some (.int (nI (x + d))) :: t) st) : Z M Po kc ks n σ pc (a0 :: a1 :: a2 :: a3 :: a4 :: a5 :: a6 :: a7 :: a8 :: some (.int (nI x)) :: t) st := z_iinc (i := 9) hd rfl (show nI x + Int32.ofInt (d : Int) = nI (x + d) from nI_add x d) (by simp only [List.length_cons]; omega) hk hq k
theorem z_ild10 {a0 a1 a2 a3 a4 a5 a6 a7 a8 a9 : Option Value} {t : List (Option Value)} {x : Int32} (hd : decode (mB M) pc = .ok (.iload 10, 2)) (hq : pc + 2 = q) (k : Z M Po kc ks n σ q (a0 :: a1 :: a2 :: a3 :: a4 :: a5 :: a6 :: a7 :: a8 :: a9 :: some (.int x) :: t) (.int x :: st)) : Z M Po kc ks n σ pc (a0 :: a1 :: a2 :: a3 :: a4 :: a5 :: a6 :: a7 :: a8 :: a9 :: some (.int x) :: t) st := z_iload (i := 10) hd rfl hq k
theorem z_ist10 {a0 a1 a2 a3 a4 a5 a6 a7 a8 a9 : Option Value} {o : Option Value} {t : List (Option Value)} {x : Int32} (hd : decode (mB M) pc = .ok (.istore 10, 2)) (hq : pc + 2 = q) (hk : zn2 a9 = true) (k : Z M Po kc ks n σ q (a0 :: a1 :: a2 :: a3 :: a4 :: a5 :: a6 :: a7 :: a8 :: a9 :: some (.int x) :: t) st) : Z M Po kc ks n σ pc (a0 :: a1 :: a2 :: a3 :: a4 :: a5 :: a6 :: a7 :: a8 :: a9 :: o :: t) (.int x :: st) := z_istore (i := 10) hd (by simp only [List.length_cons]; omega) hk hq k
theorem z_lld10 {a0 a1 a2 a3 a4 a5 a6 a7 a8 a9 : Option Value} {t : List (Option Value)} {x : Int64} (hd : decode (mB M) pc = .ok (.lload 10, 2)) (hq : pc + 2 = q) (k : Z M Po kc ks n σ q (a0 :: a1 :: a2 :: a3 :: a4 :: a5 :: a6 :: a7 :: a8 :: a9 :: some (.long x) :: t) (.long x :: st)) : Z M Po kc ks n σ pc (a0 :: a1 :: a2 :: a3 :: a4 :: a5 :: a6 :: a7 :: a8 :: a9 :: some (.long x) :: t) st := z_lload (i := 10) hd rfl hq k
theorem z_lst10 {a0 a1 a2 a3 a4 a5 a6 a7 a8 a9 : Option Value} {o o2 : Option Value} {t : List (Option Value)} {x : Int64} (hd : decode (mB M) pc = .ok (.lstore 10, 2)) (hq : pc + 2 = q) (hk : zn2 a9 = true) (k : Z M Po kc ks n σ q (a0 :: a1 :: a2 :: a3 :: a4 :: a5 :: a6 :: a7 :: a8 :: a9 :: some (.long x) :: none :: t) st) : Z M Po kc ks n σ pc (a0 :: a1 :: a2 :: a3 :: a4 :: a5 :: a6 :: a7 :: a8 :: a9 :: o :: o2 :: t) (.long x :: st) := z_lstore (i := 10) hd (by simp only [List.length_cons]; omega) hk hq k
theorem z_ald10 {a0 a1 a2 a3 a4 a5 a6 a7 a8 a9 : Option Value} {t : List (Option Value)} {x : Nat} (hd : decode (mB M) pc = .ok (.aload 10, 2)) (hq : pc + 2 = q) (k : Z M Po kc ks n σ q (a0 :: a1 :: a2 :: a3 :: a4 :: a5 :: a6 :: a7 :: a8 :: a9 :: some (.ref x) :: t) (.ref x :: st)) : Z M Po kc ks n σ pc (a0 :: a1 :: a2 :: a3 :: a4 :: a5 :: a6 :: a7 :: a8 :: a9 :: some (.ref x) :: t) st := z_aload (i := 10) hd rfl hq k
theorem z_ast10 {a0 a1 a2 a3 a4 a5 a6 a7 a8 a9 : Option Value} {o : Option Value} {t : List (Option Value)} {x : Nat} (hd : decode (mB M) pc = .ok (.astore 10, 2)) (hq : pc + 2 = q) (hk : zn2 a9 = true) (k : Z M Po kc ks n σ q (a0 :: a1 :: a2 :: a3 :: a4 :: a5 :: a6 :: a7 :: a8 :: a9 :: some (.ref x) :: t) st) : Z M Po kc ks n σ pc (a0 :: a1 :: a2 :: a3 :: a4 :: a5 :: a6 :: a7 :: a8 :: a9 :: o :: t) (.ref x :: st) := z_astore (i := 10) hd (by simp only [List.length_cons]; omega) hk hq k
theorem zn_iinc10 {a0 a1 a2 a3 a4 a5 a6 a7 a8 a9 : Option Value} {t : List (Option Value)} {x d : Nat} (hd : decode (mB M) pc = .ok (.iinc 10 (d : Int), 3)) (hq : pc + 3 = q) (hk : zn2 a9 = true) (k : Z M Po kc ks n σ q (a0 :: a1 :: a2 :: a3 :: a4 :: a5 :: a6 :: a7 :: a8 :: a9 :: some (.int (nI (x + d))) :: t) st) : Z M Po kc ks n σ pc (a0 :: a1 :: a2 :: a3 :: a4 :: a5 :: a6 :: a7 :: a8 :: a9 :: some (.int (nI x)) :: t) st := z_iinc (i := 10) hd rfl (show nI x + Int32.ofInt (d : Int) = nI (x + d) from nI_add x d) (by simp only [List.length_cons]; omega) hk hq k
theorem z_ild11 {a0 a1 a2 a3 a4 a5 a6 a7 a8 a9 a10 : Option Value} {t : List (Option Value)} {x : Int32} (hd : decode (mB M) pc = .ok (.iload 11, 2)) (hq : pc + 2 = q) (k : Z M Po kc ks n σ q (a0 :: a1 :: a2 :: a3 :: a4 :: a5 :: a6 :: a7 :: a8 :: a9 :: a10 :: some (.int x) :: t) (.int x :: st)) : Z M Po kc ks n σ pc (a0 :: a1 :: a2 :: a3 :: a4 :: a5 :: a6 :: a7 :: a8 :: a9 :: a10 :: some (.int x) :: t) st := z_iload (i := 11) hd rfl hq k
theorem z_ist11 {a0 a1 a2 a3 a4 a5 a6 a7 a8 a9 a10 : Option Value} {o : Option Value} {t : List (Option Value)} {x : Int32} (hd : decode (mB M) pc = .ok (.istore 11, 2)) (hq : pc + 2 = q) (hk : zn2 a10 = true) (k : Z M Po kc ks n σ q (a0 :: a1 :: a2 :: a3 :: a4 :: a5 :: a6 :: a7 :: a8 :: a9 :: a10 :: some (.int x) :: t) st) : Z M Po kc ks n σ pc (a0 :: a1 :: a2 :: a3 :: a4 :: a5 :: a6 :: a7 :: a8 :: a9 :: a10 :: o :: t) (.int x :: st) := z_istore (i := 11) hd (by simp only [List.length_cons]; omega) hk hq k
theorem z_lld11 {a0 a1 a2 a3 a4 a5 a6 a7 a8 a9 a10 : Option Value} {t : List (Option Value)} {x : Int64} (hd : decode (mB M) pc = .ok (.lload 11, 2)) (hq : pc + 2 = q) (k : Z M Po kc ks n σ q (a0 :: a1 :: a2 :: a3 :: a4 :: a5 :: a6 :: a7 :: a8 :: a9 :: a10 :: some (.long x) :: t) (.long x :: st)) : Z M Po kc ks n σ pc (a0 :: a1 :: a2 :: a3 :: a4 :: a5 :: a6 :: a7 :: a8 :: a9 :: a10 :: some (.long x) :: t) st := z_lload (i := 11) hd rfl hq k
theorem z_lst11 {a0 a1 a2 a3 a4 a5 a6 a7 a8 a9 a10 : Option Value} {o o2 : Option Value} {t : List (Option Value)} {x : Int64} (hd : decode (mB M) pc = .ok (.lstore 11, 2)) (hq : pc + 2 = q) (hk : zn2 a10 = true) (k : Z M Po kc ks n σ q (a0 :: a1 :: a2 :: a3 :: a4 :: a5 :: a6 :: a7 :: a8 :: a9 :: a10 :: some (.long x) :: none :: t) st) : Z M Po kc ks n σ pc (a0 :: a1 :: a2 :: a3 :: a4 :: a5 :: a6 :: a7 :: a8 :: a9 :: a10 :: o :: o2 :: t) (.long x :: st) := z_lstore (i := 11) hd (by simp only [List.length_cons]; omega) hk hq k
theorem z_ald11 {a0 a1 a2 a3 a4 a5 a6 a7 a8 a9 a10 : Option Value} {t : List (Option Value)} {x : Nat} (hd : decode (mB M) pc = .ok (.aload 11, 2)) (hq : pc + 2 = q) (k : Z M Po kc ks n σ q (a0 :: a1 :: a2 :: a3 :: a4 :: a5 :: a6 :: a7 :: a8 :: a9 :: a10 :: some (.ref x) :: t) (.ref x :: st)) : Z M Po kc ks n σ pc (a0 :: a1 :: a2 :: a3 :: a4 :: a5 :: a6 :: a7 :: a8 :: a9 :: a10 :: some (.ref x) :: t) st := z_aload (i := 11) hd rfl hq k
theorem z_ast11 {a0 a1 a2 a3 a4 a5 a6 a7 a8 a9 a10 : Option Value} {o : Option Value} {t : List (Option Value)} {x : Nat} (hd : decode (mB M) pc = .ok (.astore 11, 2)) (hq : pc + 2 = q) (hk : zn2 a10 = true) (k : Z M Po kc ks n σ q (a0 :: a1 :: a2 :: a3 :: a4 :: a5 :: a6 :: a7 :: a8 :: a9 :: a10 :: some (.ref x) :: t) st) : Z M Po kc ks n σ pc (a0 :: a1 :: a2 :: a3 :: a4 :: a5 :: a6 :: a7 :: a8 :: a9 :: a10 :: o :: t) (.ref x :: st) := z_astore (i := 11) hd (by simp only [List.length_cons]; omega) hk hq k
theorem zn_iinc11 {a0 a1 a2 a3 a4 a5 a6 a7 a8 a9 a10 : Option Value} {t : List (Option Value)} {x d : Nat} (hd : decode (mB M) pc = .ok (.iinc 11 (d : Int), 3)) (hq : pc + 3 = q) (hk : zn2 a10 = true) (k : Z M Po kc ks n σ q (a0 :: a1 :: a2 :: a3 :: a4 :: a5 :: a6 :: a7 :: a8 :: a9 :: a10 :: some (.int (nI (x + d))) :: t) st) : Z M Po kc ks n σ pc (a0 :: a1 :: a2 :: a3 :: a4 :: a5 :: a6 :: a7 :: a8 :: a9 :: a10 :: some (.int (nI x)) :: t) st := z_iinc (i := 11) hd rfl (show nI x + Int32.ofInt (d : Int) = nI (x + d) from nI_add x d) (by simp only [List.length_cons]; omega) hk hq k
theorem z_ild12 {a0 a1 a2 a3 a4 a5 a6 a7 a8 a9 a10 a11 : Option Value} {t : List (Option Value)} {x : Int32} (hd : decode (mB M) pc = .ok (.iload 12, 2)) (hq : pc + 2 = q) (k : Z M Po kc ks n σ q (a0 :: a1 :: a2 :: a3 :: a4 :: a5 :: a6 :: a7 :: a8 :: a9 :: a10 :: a11 :: some (.int x) :: t) (.int x :: st)) : Z M Po kc ks n σ pc (a0 :: a1 :: a2 :: a3 :: a4 :: a5 :: a6 :: a7 :: a8 :: a9 :: a10 :: a11 :: some (.int x) :: t) st := z_iload (i := 12) hd rfl hq k
theorem z_ist12 {a0 a1 a2 a3 a4 a5 a6 a7 a8 a9 a10 a11 : Option Value} {o : Option Value} {t : List (Option Value)} {x : Int32} (hd : decode (mB M) pc = .ok (.istore 12, 2)) (hq : pc + 2 = q) (hk : zn2 a11 = true) (k : Z M Po kc ks n σ q (a0 :: a1 :: a2 :: a3 :: a4 :: a5 :: a6 :: a7 :: a8 :: a9 :: a10 :: a11 :: some (.int x) :: t) st) : Z M Po kc ks n σ pc (a0 :: a1 :: a2 :: a3 :: a4 :: a5 :: a6 :: a7 :: a8 :: a9 :: a10 :: a11 :: o :: t) (.int x :: st) := z_istore (i := 12) hd (by simp only [List.length_cons]; omega) hk hq k
theorem z_lld12 {a0 a1 a2 a3 a4 a5 a6 a7 a8 a9 a10 a11 : Option Value} {t : List (Option Value)} {x : Int64} (hd : decode (mB M) pc = .ok (.lload 12, 2)) (hq : pc + 2 = q) (k : Z M Po kc ks n σ q (a0 :: a1 :: a2 :: a3 :: a4 :: a5 :: a6 :: a7 :: a8 :: a9 :: a10 :: a11 :: some (.long x) :: t) (.long x :: st)) : Z M Po kc ks n σ pc (a0 :: a1 :: a2 :: a3 :: a4 :: a5 :: a6 :: a7 :: a8 :: a9 :: a10 :: a11 :: some (.long x) :: t) st := z_lload (i := 12) hd rfl hq k
theorem z_lst12 {a0 a1 a2 a3 a4 a5 a6 a7 a8 a9 a10 a11 : Option Value} {o o2 : Option Value} {t : List (Option Value)} {x : Int64} (hd : decode (mB M) pc = .ok (.lstore 12, 2)) (hq : pc + 2 = q) (hk : zn2 a11 = true) (k : Z M Po kc ks n σ q (a0 :: a1 :: a2 :: a3 :: a4 :: a5 :: a6 :: a7 :: a8 :: a9 :: a10 :: a11 :: some (.long x) :: none :: t) st) : Z M Po kc ks n σ pc (a0 :: a1 :: a2 :: a3 :: a4 :: a5 :: a6 :: a7 :: a8 :: a9 :: a10 :: a11 :: o :: o2 :: t) (.long x :: st) := z_lstore (i := 12) hd (by simp only [List.length_cons]; omega) hk hq k
theorem z_ald12 {a0 a1 a2 a3 a4 a5 a6 a7 a8 a9 a10 a11 : Option Value} {t : List (Option Value)} {x : Nat} (hd : decode (mB M) pc = .ok (.aload 12, 2)) (hq : pc + 2 = q) (k : Z M Po kc ks n σ q (a0 :: a1 :: a2 :: a3 :: a4 :: a5 :: a6 :: a7 :: a8 :: a9 :: a10 :: a11 :: some (.ref x) :: t) (.ref x :: st)) : Z M Po kc ks n σ pc (a0 :: a1 :: a2 :: a3 :: a4 :: a5 :: a6 :: a7 :: a8 :: a9 :: a10 :: a11 :: some (.ref x) :: t) st := z_aload (i := 12) hd rfl hq k
theorem z_ast12 {a0 a1 a2 a3 a4 a5 a6 a7 a8 a9 a10 a11 : Option Value} {o : Option Value} {t : List (Option Value)} {x : Nat} (hd : decode (mB M) pc = .ok (.astore 12, 2)) (hq : pc + 2 = q) (hk : zn2 a11 = true) (k : Z M Po kc ks n σ q (a0 :: a1 :: a2 :: a3 :: a4 :: a5 :: a6 :: a7 :: a8 :: a9 :: a10 :: a11 :: some (.ref x) :: t) st) : Z M Po kc ks n σ pc (a0 :: a1 :: a2 :: a3 :: a4 :: a5 :: a6 :: a7 :: a8 :: a9 :: a10 :: a11 :: o :: t) (.ref x :: st) := z_astore (i := 12) hd (by simp only [List.length_cons]; omega) hk hq k
theorem zn_iinc12 {a0 a1 a2 a3 a4 a5 a6 a7 a8 a9 a10 a11 : Option Value} {t : List (Option Value)} {x d : Nat} (hd : decode (mB M) pc = .ok (.iinc 12 (d : Int), 3)) (hq : pc + 3 = q) (hk : zn2 a11 = true) (k : Z M Po kc ks n σ q (a0 :: a1 :: a2 :: a3 :: a4 :: a5 :: a6 :: a7 :: a8 :: a9 :: a10 :: a11 :: some (.int (nI (x + d))) :: t) st) : Z M Po kc ks n σ pc (a0 :: a1 :: a2 :: a3 :: a4 :: a5 :: a6 :: a7 :: a8 :: a9 :: a10 :: a11 :: some (.int (nI x)) :: t) st := z_iinc (i := 12) hd rfl (show nI x + Int32.ofInt (d : Int) = nI (x + d) from nI_add x d) (by simp only [List.length_cons]; omega) hk hq k
theorem z_ild13 {a0 a1 a2 a3 a4 a5 a6 a7 a8 a9 a10 a11 a12 : Option Value} {t : List (Option Value)} {x : Int32} (hd : decode (mB M) pc = .ok (.iload 13, 2)) (hq : pc + 2 = q) (k : Z M Po kc ks n σ q (a0 :: a1 :: a2 :: a3 :: a4 :: a5 :: a6 :: a7 :: a8 :: a9 :: a10 :: a11 :: a12 :: some (.int x) :: t) (.int x :: st)) : Z M Po kc ks n σ pc (a0 :: a1 :: a2 :: a3 :: a4 :: a5 :: a6 :: a7 :: a8 :: a9 :: a10 :: a11 :: a12 :: some (.int x) :: t) st := z_iload (i := 13) hd rfl hq k
theorem z_ist13 {a0 a1 a2 a3 a4 a5 a6 a7 a8 a9 a10 a11 a12 : Option Value} {o : Option Value} {t : List (Option Value)} {x : Int32} (hd : decode (mB M) pc = .ok (.istore 13, 2)) (hq : pc + 2 = q) (hk : zn2 a12 = true) (k : Z M Po kc ks n σ q (a0 :: a1 :: a2 :: a3 :: a4 :: a5 :: a6 :: a7 :: a8 :: a9 :: a10 :: a11 :: a12 :: some (.int x) :: t) st) : Z M Po kc ks n σ pc (a0 :: a1 :: a2 :: a3 :: a4 :: a5 :: a6 :: a7 :: a8 :: a9 :: a10 :: a11 :: a12 :: o :: t) (.int x :: st) := z_istore (i := 13) hd (by simp only [List.length_cons]; omega) hk hq k
theorem z_lld13 {a0 a1 a2 a3 a4 a5 a6 a7 a8 a9 a10 a11 a12 : Option Value} {t : List (Option Value)} {x : Int64} (hd : decode (mB M) pc = .ok (.lload 13, 2)) (hq : pc + 2 = q) (k : Z M Po kc ks n σ q (a0 :: a1 :: a2 :: a3 :: a4 :: a5 :: a6 :: a7 :: a8 :: a9 :: a10 :: a11 :: a12 :: some (.long x) :: t) (.long x :: st)) : Z M Po kc ks n σ pc (a0 :: a1 :: a2 :: a3 :: a4 :: a5 :: a6 :: a7 :: a8 :: a9 :: a10 :: a11 :: a12 :: some (.long x) :: t) st := z_lload (i := 13) hd rfl hq k
theorem z_lst13 {a0 a1 a2 a3 a4 a5 a6 a7 a8 a9 a10 a11 a12 : Option Value} {o o2 : Option Value} {t : List (Option Value)} {x : Int64} (hd : decode (mB M) pc = .ok (.lstore 13, 2)) (hq : pc + 2 = q) (hk : zn2 a12 = true) (k : Z M Po kc ks n σ q (a0 :: a1 :: a2 :: a3 :: a4 :: a5 :: a6 :: a7 :: a8 :: a9 :: a10 :: a11 :: a12 :: some (.long x) :: none :: t) st) : Z M Po kc ks n σ pc (a0 :: a1 :: a2 :: a3 :: a4 :: a5 :: a6 :: a7 :: a8 :: a9 :: a10 :: a11 :: a12 :: o :: o2 :: t) (.long x :: st) := z_lstore (i := 13) hd (by simp only [List.length_cons]; omega) hk hq k
theorem z_ald13 {a0 a1 a2 a3 a4 a5 a6 a7 a8 a9 a10 a11 a12 : Option Value} {t : List (Option Value)} {x : Nat} (hd : decode (mB M) pc = .ok (.aload 13, 2)) (hq : pc + 2 = q) (k : Z M Po kc ks n σ q (a0 :: a1 :: a2 :: a3 :: a4 :: a5 :: a6 :: a7 :: a8 :: a9 :: a10 :: a11 :: a12 :: some (.ref x) :: t) (.ref x :: st)) : Z M Po kc ks n σ pc (a0 :: a1 :: a2 :: a3 :: a4 :: a5 :: a6 :: a7 :: a8 :: a9 :: a10 :: a11 :: a12 :: some (.ref x) :: t) st := z_aload (i := 13) hd rfl hq k
theorem z_ast13 {a0 a1 a2 a3 a4 a5 a6 a7 a8 a9 a10 a11 a12 : Option Value} {o : Option Value} {t : List (Option Value)} {x : Nat} (hd : decode (mB M) pc = .ok (.astore 13, 2)) (hq : pc + 2 = q) (hk : zn2 a12 = true) (k : Z M Po kc ks n σ q (a0 :: a1 :: a2 :: a3 :: a4 :: a5 :: a6 :: a7 :: a8 :: a9 :: a10 :: a11 :: a12 :: some (.ref x) :: t) st) : Z M Po kc ks n σ pc (a0 :: a1 :: a2 :: a3 :: a4 :: a5 :: a6 :: a7 :: a8 :: a9 :: a10 :: a11 :: a12 :: o :: t) (.ref x :: st) := z_astore (i := 13) hd (by simp only [List.length_cons]; omega) hk hq k
theorem zn_iinc13 {a0 a1 a2 a3 a4 a5 a6 a7 a8 a9 a10 a11 a12 : Option Value} {t : List (Option Value)} {x d : Nat} (hd : decode (mB M) pc = .ok (.iinc 13 (d : Int), 3)) (hq : pc + 3 = q) (hk : zn2 a12 = true) (k : Z M Po kc ks n σ q (a0 :: a1 :: a2 :: a3 :: a4 :: a5 :: a6 :: a7 :: a8 :: a9 :: a10 :: a11 :: a12 :: some (.int (nI (x + d))) :: t) st) : Z M Po kc ks n σ pc (a0 :: a1 :: a2 :: a3 :: a4 :: a5 :: a6 :: a7 :: a8 :: a9 :: a10 :: a11 :: a12 :: some (.int (nI x)) :: t) st := z_iinc (i := 13) hd rfl (show nI x + Int32.ofInt (d : Int) = nI (x + d) from nI_add x d) (by simp only [List.length_cons]; omega) hk hq k
theorem z_ild14 {a0 a1 a2 a3 a4 a5 a6 a7 a8 a9 a10 a11 a12 a13 : Option Value} {t : List (Option Value)} {x : Int32} (hd : decode (mB M) pc = .ok (.iload 14, 2)) (hq : pc + 2 = q) (k : Z M Po kc ks n σ q (a0 :: a1 :: a2 :: a3 :: a4 :: a5 :: a6 :: a7 :: a8 :: a9 :: a10 :: a11 :: a12 :: a13 :: some (.int x) :: t) (.int x :: st)) : Z M Po kc ks n σ pc (a0 :: a1 :: a2 :: a3 :: a4 :: a5 :: a6 :: a7 :: a8 :: a9 :: a10 :: a11 :: a12 :: a13 :: some (.int x) :: t) st := z_iload (i := 14) hd rfl hq k
theorem z_ist14 {a0 a1 a2 a3 a4 a5 a6 a7 a8 a9 a10 a11 a12 a13 : Option Value} {o : Option Value} {t : List (Option Value)} {x : Int32} (hd : decode (mB M) pc = .ok (.istore 14, 2)) (hq : pc + 2 = q) (hk : zn2 a13 = true) (k : Z M Po kc ks n σ q (a0 :: a1 :: a2 :: a3 :: a4 :: a5 :: a6 :: a7 :: a8 :: a9 :: a10 :: a11 :: a12 :: a13 :: some (.int x) :: t) st) : Z M Po kc ks n σ pc (a0 :: a1 :: a2 :: a3 :: a4 :: a5 :: a6 :: a7 :: a8 :: a9 :: a10 :: a11 :: a12 :: a13 :: o :: t) (.int x :: st) := z_istore (i := 14) hd (by simp only [List.length_cons]; omega) hk hq k
theorem z_lld14 {a0 a1 a2 a3 a4 a5 a6 a7 a8 a9 a10 a11 a12 a13 : Option Value} {t : List (Option Value)} {x : Int64} (hd : decode (mB M) pc = .ok (.lload 14, 2)) (hq : pc + 2 = q) (k : Z M Po kc ks n σ q (a0 :: a1 :: a2 :: a3 :: a4 :: a5 :: a6 :: a7 :: a8 :: a9 :: a10 :: a11 :: a12 :: a13 :: some (.long x) :: t) (.long x :: st)) : Z M Po kc ks n σ pc (a0 :: a1 :: a2 :: a3 :: a4 :: a5 :: a6 :: a7 :: a8 :: a9 :: a10 :: a11 :: a12 :: a13 :: some (.long x) :: t) st := z_lload (i := 14) hd rfl hq k
theorem z_lst14 {a0 a1 a2 a3 a4 a5 a6 a7 a8 a9 a10 a11 a12 a13 : Option Value} {o o2 : Option Value} {t : List (Option Value)} {x : Int64} (hd : decode (mB M) pc = .ok (.lstore 14, 2)) (hq : pc + 2 = q) (hk : zn2 a13 = true) (k : Z M Po kc ks n σ q (a0 :: a1 :: a2 :: a3 :: a4 :: a5 :: a6 :: a7 :: a8 :: a9 :: a10 :: a11 :: a12 :: a13 :: some (.long x) :: none :: t) st) : Z M Po kc ks n σ pc (a0 :: a1 :: a2 :: a3 :: a4 :: a5 :: a6 :: a7 :: a8 :: a9 :: a10 :: a11 :: a12 :: a13 :: o :: o2 :: t) (.long x :: st) := z_lstore (i := 14) hd (by simp only [List.length_cons]; omega) hk hq k
theorem z_ald14 {a0 a1 a2 a3 a4 a5 a6 a7 a8 a9 a10 a11 a12 a13 : Option Value} {t : List (Option Value)} {x : Nat} (hd : decode (mB M) pc = .ok (.aload 14, 2)) (hq : pc + 2 = q) (k : Z M Po kc ks n σ q (a0 :: a1 :: a2 :: a3 :: a4 :: a5 :: a6 :: a7 :: a8 :: a9 :: a10 :: a11 :: a12 :: a13 :: some (.ref x) :: t) (.ref x :: st)) : Z M Po kc ks n σ pc (a0 :: a1 :: a2 :: a3 :: a4 :: a5 :: a6 :: a7 :: a8 :: a9 :: a10 :: a11 :: a12 :: a13 :: some (.ref x) :: t) st := z_aload (i := 14) hd rfl hq k
theorem z_ast14 {a0 a1 a2 a3 a4 a5 a6 a7 a8 a9 a10 a11 a12 a13 : Option Value} {o : Option Value} {t : List (Option Value)} {x : Nat} (hd : decode (mB M) pc = .ok (.astore 14, 2)) (hq : pc + 2 = q) (hk : zn2 a13 = true) (k : Z M Po kc ks n σ q (a0 :: a1 :: a2 :: a3 :: a4 :: a5 :: a6 :: a7 :: a8 :: a9 :: a10 :: a11 :: a12 :: a13 :: some (.ref x) :: t) st) : Z M Po kc ks n σ pc (a0 :: a1 :: a2 :: a3 :: a4 :: a5 :: a6 :: a7 :: a8 :: a9 :: a10 :: a11 :: a12 :: a13 :: o :: t) (.ref x :: st) := z_astore (i := 14) hd (by simp only [List.length_cons]; omega) hk hq k
theorem zn_iinc14 {a0 a1 a2 a3 a4 a5 a6 a7 a8 a9 a10 a11 a12 a13 : Option Value} {t : List (Option Value)} {x d : Nat} (hd : decode (mB M) pc = .ok (.iinc 14 (d : Int), 3)) (hq : pc + 3 = q) (hk : zn2 a13 = true) (k : Z M Po kc ks n σ q (a0 :: a1 :: a2 :: a3 :: a4 :: a5 :: a6 :: a7 :: a8 :: a9 :: a10 :: a11 :: a12 :: a13 :: some (.int (nI (x + d))) :: t) st) : Z M Po kc ks n σ pc (a0 :: a1 :: a2 :: a3 :: a4 :: a5 :: a6 :: a7 :: a8 :: a9 :: a10 :: a11 :: a12 :: a13 :: some (.int (nI x)) :: t) st := z_iinc (i := 14) hd rfl (show nI x + Int32.ofInt (d : Int) = nI (x + d) from nI_add x d) (by simp only [List.length_cons]; omega) hk hq k
theorem z_ild15 {a0 a1 a2 a3 a4 a5 a6 a7 a8 a9 a10 a11 a12 a13 a14 : Option Value} {t : List (Option Value)} {x : Int32} (hd : decode (mB M) pc = .ok (.iload 15, 2)) (hq : pc + 2 = q) (k : Z M Po kc ks n σ q (a0 :: a1 :: a2 :: a3 :: a4 :: a5 :: a6 :: a7 :: a8 :: a9 :: a10 :: a11 :: a12 :: a13 :: a14 :: some (.int x) :: t) (.int x :: st)) : Z M Po kc ks n σ pc (a0 :: a1 :: a2 :: a3 :: a4 :: a5 :: a6 :: a7 :: a8 :: a9 :: a10 :: a11 :: a12 :: a13 :: a14 :: some (.int x) :: t) st := z_iload (i := 15) hd rfl hq k
theorem z_ist15 {a0 a1 a2 a3 a4 a5 a6 a7 a8 a9 a10 a11 a12 a13 a14 : Option Value} {o : Option Value} {t : List (Option Value)} {x : Int32} (hd : decode (mB M) pc = .ok (.istore 15, 2)) (hq : pc + 2 = q) (hk : zn2 a14 = true) (k : Z M Po kc ks n σ q (a0 :: a1 :: a2 :: a3 :: a4 :: a5 :: a6 :: a7 :: a8 :: a9 :: a10 :: a11 :: a12 :: a13 :: a14 :: some (.int x) :: t) st) : Z M Po kc ks n σ pc (a0 :: a1 :: a2 :: a3 :: a4 :: a5 :: a6 :: a7 :: a8 :: a9 :: a10 :: a11 :: a12 :: a13 :: a14 :: o :: t) (.int x :: st) := z_istore (i := 15) hd (by simp only [List.length_cons]; omega) hk hq k
theorem z_lld15 {a0 a1 a2 a3 a4 a5 a6 a7 a8 a9 a10 a11 a12 a13 a14 : Option Value} {t : List (Option Value)} {x : Int64} (hd : decode (mB M) pc = .ok (.lload 15, 2)) (hq : pc + 2 = q) (k : Z M Po kc ks n σ q (a0 :: a1 :: a2 :: a3 :: a4 :: a5 :: a6 :: a7 :: a8 :: a9 :: a10 :: a11 :: a12 :: a13 :: a14 :: some (.long x) :: t) (.long x :: st)) : Z M Po kc ks n σ pc (a0 :: a1 :: a2 :: a3 :: a4 :: a5 :: a6 :: a7 :: a8 :: a9 :: a10 :: a11 :: a12 :: a13 :: a14 :: some (.long x) :: t) st := z_lload (i := 15) hd rfl hq k
theorem z_lst15 {a0 a1 a2 a3 a4 a5 a6 a7 a8 a9 a10 a11 a12 a13 a14 : Option Value} {o o2 : Option Value} {t : List (Option Value)} {x : Int64} (hd : decode (mB M) pc = .ok (.lstore 15, 2)) (hq : pc + 2 = q) (hk : zn2 a14 = true) (k : Z M Po kc ks n σ q (a0 :: a1 :: a2 :: a3 :: a4 :: a5 :: a6 :: a7 :: a8 :: a9 :: a10 :: a11 :: a12 :: a13 :: a14 :: some (.long x) :: none :: t) st) : Z M Po kc ks n σ pc (a0 :: a1 :: a2 :: a3 :: a4 :: a5 :: a6 :: a7 :: a8 :: a9 :: a10 :: a11 :: a12 :: a13 :: a14 :: o :: o2 :: t) (.long x :: st) := z_lstore (i := 15) hd (by simp only [List.length_cons]; omega) hk hq k
theorem z_ald15 {a0 a1 a2 a3 a4 a5 a6 a7 a8 a9 a10 a11 a12 a13 a14 : Option Value} {t : List (Option Value)} {x : Nat} (hd : decode (mB M) pc = .ok (.aload 15, 2)) (hq : pc + 2 = q) (k : Z M Po kc ks n σ q (a0 :: a1 :: a2 :: a3 :: a4 :: a5 :: a6 :: a7 :: a8 :: a9 :: a10 :: a11 :: a12 :: a13 :: a14 :: some (.ref x) :: t) (.ref x :: st)) : Z M Po kc ks n σ pc (a0 :: a1 :: a2 :: a3 :: a4 :: a5 :: a6 :: a7 :: a8 :: a9 :: a10 :: a11 :: a12 :: a13 :: a14 :: some (.ref x) :: t) st := z_aload (i := 15) hd rfl hq k
theorem z_ast15 {a0 a1 a2 a3 a4 a5 a6 a7 a8 a9 a10 a11 a12 a13 a14 : Option Value} {o : Option Value} {t : List (Option Value)} {x : Nat} (hd : decode (mB M) pc = .ok (.astore 15, 2)) (hq : pc + 2 = q) (hk : zn2 a14 = true) (k : Z M Po kc ks n σ q (a0 :: a1 :: a2 :: a3 :: a4 :: a5 :: a6 :: a7 :: a8 :: a9 :: a10 :: a11 :: a12 :: a13 :: a14 :: some (.ref x) :: t) st) : Z M Po kc ks n σ pc (a0 :: a1 :: a2 :: a3 :: a4 :: a5 :: a6 :: a7 :: a8 :: a9 :: a10 :: a11 :: a12 :: a13 :: a14 :: o :: t) (.ref x :: st) := z_astore (i := 15) hd (by simp only [List.length_cons]; omega) hk hq k
theorem zn_iinc15 {a0 a1 a2 a3 a4 a5 a6 a7 a8 a9 a10 a11 a12 a13 a14 : Option Value} {t : List (Option Value)} {x d : Nat} (hd : decode (mB M) pc = .ok (.iinc 15 (d : Int), 3)) (hq : pc + 3 = q) (hk : zn2 a14 = true) (k : Z M Po kc ks n σ q (a0 :: a1 :: a2 :: a3 :: a4 :: a5 :: a6 :: a7 :: a8 :: a9 :: a10 :: a11 :: a12 :: a13 :: a14 :: some (.int (nI (x + d))) :: t) st) : Z M Po kc ks n σ pc (a0 :: a1 :: a2 :: a3 :: a4 :: a5 :: a6 :: a7 :: a8 :: a9 :: a10 :: a11 :: a12 :: a13 :: a14 :: some (.int (nI x)) :: t) st := z_iinc (i := 15) hd rfl (show nI x + Int32.ofInt (d : Int) = nI (x + d) from nI_add x d) (by simp only [List.length_cons]; omega) hk hq k
theorem z_ild16 {a0 a1 a2 a3 a4 a5 a6 a7 a8 a9 a10 a11 a12 a13 a14 a15 : Option Value} {t : List (Option Value)} {x : Int32} (hd : decode (mB M) pc = .ok (.iload 16, 2)) (hq : pc + 2 = q) (k : Z M Po kc ks n σ q (a0 :: a1 :: a2 :: a3 :: a4 :: a5 :: a6 :: a7 :: a8 :: a9 :: a10 :: a11 :: a12 :: a13 :: a14 :: a15 :: some (.int x) :: t) (.int x :: st)) : Z M Po kc ks n σ pc (a0 :: a1 :: a2 :: a3 :: a4 :: a5 :: a6 :: a7 :: a8 :: a9 :: a10 :: a11 :: a12 :: a13 :: a14 :: a15 :: some (.int x) :: t) st := z_iload (i := 16) hd rfl hq k
theorem z_ist16 {a0 a1 a2 a3 a4 a5 a6 a7 a8 a9 a10 a11 a12 a13 a14 a15 : Option Value} {o : Option Value} {t : List (Option Value)} {x : Int32} (hd : decode (mB M) pc = .ok (.istore 16, 2)) (hq : pc + 2 = q) (hk : zn2 a15 = true) (k : Z M Po kc ks n σ q (a0 :: a1 :: a2 :: a3 :: a4 :: a5 :: a6 :: a7 :: a8 :: a9 :: a10 :: a11 :: a12 :: a13 :: a14 :: a15 :: some (.int x) :: t) st) : Z M Po kc ks n σ pc (a0 :: a1 :: a2 :: a3 :: a4 :: a5 :: a6 :: a7 :: a8 :: a9 :: a10 :: a11 :: a12 :: a13 :: a14 :: a15 :: o :: t) (.int x :: st) := z_istore (i := 16) hd (by simp only [List.length_cons]; omega) hk hq k
theorem z_lld16 {a0 a1 a2 a3 a4 a5 a6 a7 a8 a9 a10 a11 a12 a13 a14 a15 : Option Value} {t : List (Option Value)} {x : Int64} (hd : decode (mB M) pc = .ok (.lload 16, 2)) (hq : pc + 2 = q) (k : Z M Po kc ks n σ q (a0 :: a1 :: a2 :: a3 :: a4 :: a5 :: a6 :: a7 :: a8 :: a9 :: a10 :: a11 :: a12 :: a13 :: a14 :: a15 :: some (.long x) :: t) (.long x :: st)) : Z M Po kc ks n σ pc (a0 :: a1 :: a2 :: a3 :: a4 :: a5 :: a6 :: a7 :: a8 :: a9 :: a10 :: a11 :: a12 :: a13 :: a14 :: a15 :: some (.long x) :: t) st := z_lload (i := 16) hd rfl hq k
theorem z_lst16 {a0 a1 a2 a3 a4 a5 a6 a7 a8 a9 a10 a11 a12 a13 a14 a15 : Option Value} {o o2 : Option Value} {t : List (Option Value)} {x : Int64} (hd : decode (mB M) pc = .ok (.lstore 16, 2)) (hq : pc + 2 = q) (hk : zn2 a15 = true) (k : Z M Po kc ks n σ q (a0 :: a1 :: a2 :: a3 :: a4 :: a5 :: a6 :: a7 :: a8 :: a9 :: a10 :: a11 :: a12 :: a13 :: a14 :: a15 :: some (.long x) :: none :: t) st) : Z M Po kc ks n σ pc (a0 :: a1 :: a2 :: a3 :: a4 :: a5 :: a6 :: a7 :: a8 :: a9 :: a10 :: a11 :: a12 :: a13 :: a14 :: a15 :: o :: o2 :: t) (.long x :: st) := z_lstore (i := 16) hd (by simp only [List.length_cons]; omega) hk hq k
theorem z_ald16 {a0 a1 a2 a3 a4 a5 a6 a7 a8 a9 a10 a11 a12 a13 a14 a15 : Option Value} {t : List (Option Value)} {x : Nat} (hd : decode (mB M) pc = .ok (.aload 16, 2)) (hq : pc + 2 = q) (k : Z M Po kc ks n σ q (a0 :: a1 :: a2 :: a3 :: a4 :: a5 :: a6 :: a7 :: a8 :: a9 :: a10 :: a11 :: a12 :: a13 :: a14 :: a15 :: some (.ref x) :: t) (.ref x :: st)) : Z M Po kc ks n σ pc (a0 :: a1 :: a2 :: a3 :: a4 :: a5 :: a6 :: a7 :: a8 :: a9 :: a10 :: a11 :: a12 :: a13 :: a14 :: a15 :: some (.ref x) :: t) st := z_aload (i := 16) hd rfl hq k
theorem z_ast16 {a0 a1 a2 a3 a4 a5 a6 a7 a8 a9 a10 a11 a12 a13 a14 a15 : Option Value} {o : Option Value} {t : List (Option Value)} {x : Nat} (hd : decode (mB M) pc = .ok (.astore 16, 2)) (hq : pc + 2 = q) (hk : zn2 a15 = true) (k : Z M Po kc ks n σ q (a0 :: a1 :: a2 :: a3 :: a4 :: a5 :: a6 :: a7 :: a8 :: a9 :: a10 :: a11 :: a12 :: a13 :: a14 :: a15 :: some (.ref x) :: t) st) : Z M Po kc ks n σ pc (a0 :: a1 :: a2 :: a3 :: a4 :: a5 :: a6 :: a7 :: a8 :: a9 :: a10 :: a11 :: a12 :: a13 :: a14 :: a15 :: o :: t) (.ref x :: st) := z_astore (i := 16) hd (by simp only [List.length_cons]; omega) hk hq k
theorem zn_iinc16 {a0 a1 a2 a3 a4 a5 a6 a7 a8 a9 a10 a11 a12 a13 a14 a15 : Option Value} {t : List (Option Value)} {x d : Nat} (hd : decode (mB M) pc = .ok (.iinc 16 (d : Int), 3)) (hq : pc + 3 = q) (hk : zn2 a15 = true) (k : Z M Po kc ks n σ q (a0 :: a1 :: a2 :: a3 :: a4 :: a5 :: a6 :: a7 :: a8 :: a9 :: a10 :: a11 :: a12 :: a13 :: a14 :: a15 :: some (.int (nI (x + d))) :: t) st) : Z M Po kc ks n σ pc (a0 :: a1 :: a2 :: a3 :: a4 :: a5 :: a6 :: a7 :: a8 :: a9 :: a10 :: a11 :: a12 :: a13 :: a14 :: a15 :: some (.int (nI x)) :: t) st := z_iinc (i := 16) hd rfl (show nI x + Int32.ofInt (d : Int) = nI (x + d) from nI_add x d) (by simp only [List.length_cons]; omega) hk hq k
theorem z_ild17 {a0 a1 a2 a3 a4 a5 a6 a7 a8 a9 a10 a11 a12 a13 a14 a15 a16 : Option Value} {t : List (Option Value)} {x : Int32} (hd : decode (mB M) pc = .ok (.iload 17, 2)) (hq : pc + 2 = q) (k : Z M Po kc ks n σ q (a0 :: a1 :: a2 :: a3 :: a4 :: a5 :: a6 :: a7 :: a8 :: a9 :: a10 :: a11 :: a12 :: a13 :: a14 :: a15 :: a16 :: some (.int x) :: t) (.int x :: st)) : Z M Po kc ks n σ pc (a0 :: a1 :: a2 :: a3 :: a4 :: a5 :: a6 :: a7 :: a8 :: a9 :: a10 :: a11 :: a12 :: a13 :: a14 :: a15 :: a16 :: some (.int x) :: t) st := z_iload (i := 17) hd rfl hq k
theorem z_ist17 {a0 a1 a2 a3 a4 a5 a6 a7 a8 a9 a10 a11 a12 a13 a14 a15 a16 : Option Value} {o : Option Value} {t : List (Option Value)} {x : Int32} (hd : decode (mB M) pc = .ok (.istore 17, 2)) (hq : pc + 2 = q) (hk : zn2 a16 = true) (k : Z M Po kc ks n σ q (a0 :: a1 :: a2 :: a3 :: a4 :: a5 :: a6 :: a7 :: a8 :: a9 :: a10 :: a11 :: a12 :: a13 :: a14 :: a15 :: a16 :: some (.int x) :: t) st) : Z M Po kc ks n σ pc (a0 :: a1 :: a2 :: a3 :: a4 :: a5 :: a6 :: a7 :: a8 :: a9 :: a10 :: a11 :: a12 :: a13 :: a14 :: a15 :: a16 :: o :: t) (.int x :: st) := z_istore (i := 17) hd (by simp only [List.length_cons]; omega) hk hq k
theorem z_lld17 {a0 a1 a2 a3 a4 a5 a6 a7 a8 a9 a10 a11 a12 a13 a14 a15 a16 : Option Value} {t : List (Option Value)} {x : Int64} (hd : decode (mB M) pc = .ok (.lload 17, 2)) (hq : pc + 2 = q) (k : Z M Po kc ks n σ q (a0 :: a1 :: a2 :: a3 :: a4 :: a5 :: a6 :: a7 :: a8 :: a9 :: a10 :: a11 :: a12 :: a13 :: a14 :: a15 :: a16 :: some (.long x) :: t) (.long x :: st)) : Z M Po kc ks n σ pc (a0 :: a1 :: a2 :: a3 :: a4 :: a5 :: a6 :: a7 :: a8 :: a9 :: a10 :: a11 :: a12 :: a13 :: a14 :: a15 :: a16 :: some (.long x) :: t) st := z_lload (i := 17) hd rfl hq k
theorem z_lst17 {a0 a1 a2 a3 a4 a5 a6 a7 a8 a9 a10 a11 a12 a13 a14 a15 a16 : Option Value} {o o2 : Option Value} {t : List (Option Value)} {x : Int64} (hd : decode (mB M) pc = .ok (.lstore 17, 2)) (hq : pc + 2 = q) (hk : zn2 a16 = true) (k : Z M Po kc ks n σ q (a0 :: a1 :: a2 :: a3 :: a4 :: a5 :: a6 :: a7 :: a8 :: a9 :: a10 :: a11 :: a12 :: a13 :: a14 :: a15 :: a16 :: some (.long x) :: none :: t) st) : Z M Po kc ks n σ pc (a0 :: a1 :: a2 :: a3 :: a4 :: a5 :: a6 :: a7 :: a8 :: a9 :: a10 :: a11 :: a12 :: a13 :: a14 :: a15 :: a16 :: o :: o2 :: t) (.long x :: st) := z_lstore (i := 17) hd (by simp only [List.length_cons]; omega) hk hq k
theorem z_ald17 {a0 a1 a2 a3 a4 a5 a6 a7 a8 a9 a10 a11 a12 a13 a14 a15 a16 : Option Value} {t : List (Option Value)} {x : Nat} (hd : decode (mB M) pc = .ok (.aload 17, 2)) (hq : pc + 2 = q) (k : Z M Po kc ks n σ q (a0 :: a1 :: a2 :: a3 :: a4 :: a5 :: a6 :: a7 :: a8 :: a9 :: a10 :: a11 :: a12 :: a13 :: a14 :: a15 :: a16 :: some (.ref x) :: t) (.ref x :: st)) : Z M Po kc ks n σ pc (a0 :: a1 :: a2 :: a3 :: a4 :: a5 :: a6 :: a7 :: a8 :: a9 :: a10 :: a11 :: a12 :: a13 :: a14 :: a15 :: a16 :: some (.ref x) :: t) st := z_aload (i := 17) hd rfl hq k
theorem z_ast17 {a0 a1 a2 a3 a4 a5 a6 a7 a8 a9 a10 a11 a12 a13 a14 a15 a16 : Option Value} {o : Option Value} {t : List (Option Value)} {x : Nat} (hd : decode (mB M) pc = .ok (.astore 17, 2)) (hq : pc + 2 = q) (hk : zn2 a16 = true) (k : Z M Po kc ks n σ q (a0 :: a1 :: a2 :: a3 :: a4 :: a5 :: a6 :: a7 :: a8 :: a9 :: a10 :: a11 :: a12 :: a13 :: a14 :: a15 :: a16 :: some (.ref x) :: t) st) : Z M Po kc ks n σ pc (a0 :: a1 :: a2 :: a3 :: a4 :: a5 :: a6 :: a7 :: a8 :: a9 :: a10 :: a11 :: a12 :: a13 :: a14 :: a15 :: a16 :: o :: t) (.ref x :: st) := z_astore (i := 17) hd (by simp only [List.length_cons]; omega) hk hq k
theorem zn_iinc17 {a0 a1 a2 a3 a4 a5 a6 a7 a8 a9 a10 a11 a12 a13 a14 a15 a16 : Option Value} {t : List (Option Value)} {x d : Nat} (hd : decode (mB M) pc = .ok (.iinc 17 (d : Int), 3)) (hq : pc + 3 = q) (hk : zn2 a16 = true) (k : Z M Po kc ks n σ q (a0 :: a1 :: a2 :: a3 :: a4 :: a5 :: a6 :: a7 :: a8 :: a9 :: a10 :: a11 :: a12 :: a13 :: a14 :: a15 :: a16 :: some (.int (nI (x + d))) :: t) st) : Z M Po kc ks n σ pc (a0 :: a1 :: a2 :: a3 :: a4 :: a5 :: a6 :: a7 :: a8 :: a9 :: a10 :: a11 :: a12 :: a13 :: a14 :: a15 :: a16 :: some (.int (nI x)) :: t) st := z_iinc (i := 17) hd rfl (show nI x + Int32.ofInt (d : Int) = nI (x + d) from nI_add x d) (by simp only [List.length_cons]; omega) hk hq k
end ZR
end
section
section ZW
variable {M : zMI} {Po : Option Value → Nat → zWd → Prop} {kc ks n pc q : Nat} {σ : zWd} {lv : List (Option Value)} {st : List Value}

theorem zw_N {b : Nat} {G : Nat → ClassId} {i N : Nat} {g : Nat → Nat} (hs : σ i = zN N g) (hi : i < n) : (zw b G n σ)[i]? = some (b + i, .inl (G 1, N, .inr (.inl fun j => lN (g j)))) := by rw [zw_at hi, hs, ze_N]
theorem zw_I {b : Nat} {G : Nat → ClassId} {i N : Nat} {f : Nat → Int32} (hs : σ i = zI N f) (hi : i < n) : (zw b G n σ)[i]? = some (b + i, .inl (G 0, N, .inl f)) := by rw [zw_at hi, hs, ze_I]
theorem zw_R {b : Nat} {G : Nat → ClassId} {i N : Nat} {f : Nat → Option Nat} (hs : σ i = zR N f) (hi : i < n) : (zw b G n σ)[i]? = some (b + i, .inl (G 2, N, .inr (.inr (.inr (.inr (fun j => (f j).map (b + ·))))))) := by rw [zw_at hi, hs, ze_R]
theorem zw_O {b : Nat} {G : Nat → ClassId} {i c : Nat} {fs : List Value} (hs : σ i = zO c fs) (hi : i < n) : (zw b G n σ)[i]? = some (b + i, .inr (c, fs.map (zv b))) := by rw [zw_at hi, hs, ze_O]
theorem z_laload {i j N : Nat} {g : Nat → Nat} (hd : decode (mB M) pc = .ok (.laload, 1)) (hq : pc + 1 = q) (hs : σ i = zN N g) (hi : i < n) (hj : j < N) (hN : N < 2 ^ 31) (k : Z M Po kc ks n σ q lv (.long (lN (g j)) :: st)) : Z M Po kc ks n σ pc lv (.int (nI j) :: .ref i :: st) := by
  subst hq; intro p l e s m args below meth c b G D hC H locs ls hz hP hS hl
  refine va_lald hC.1 hC.2.1 hC.k hP i 1 (zw_N hs hi) rfl (vp_in_nI hj hN) hd ?_
  rw [nI_clamp (by omega)]
  exact k p l e s m args below meth c b G D hC H locs ls hz hP hS hl
theorem z_iaload {i j N : Nat} {f : Nat → Int32} (hd : decode (mB M) pc = .ok (.iaload, 1)) (hq : pc + 1 = q) (hs : σ i = zI N f) (hi : i < n) (hj : j < N) (hN : N < 2 ^ 31) (k : Z M Po kc ks n σ q lv (.int (f j) :: st)) : Z M Po kc ks n σ pc lv (.int (nI j) :: .ref i :: st) := by
  subst hq; intro p l e s m args below meth c b G D hC H locs ls hz hP hS hl
  refine va_iald hC.1 hC.2.1 hC.k hP i 0 (zw_I hs hi) rfl (vp_in_nI hj hN) hd ?_
  rw [nI_clamp (by omega)]
  exact k p l e s m args below meth c b G D hC H locs ls hz hP hS hl
theorem z_aaload {i j N a : Nat} {f : Nat → Option Nat} (hd : decode (mB M) pc = .ok (.aaload, 1)) (hq : pc + 1 = q) (hs : σ i = zR N f) (hi : i < n) (hj : j < N) (hN : N < 2 ^ 31) (ha : f j = some a) (k : Z M Po kc ks n σ q lv (.ref a :: st)) : Z M Po kc ks n σ pc lv (.int (nI j) :: .ref i :: st) := by
  subst hq; intro p l e s m args below meth c b G D hC H locs ls hz hP hS hl
  refine va_aldq hC.1 hC.2.1 hC.k hP i 2 (zw_R hs hi) rfl (vp_in_nI hj hN) hd ?_
  rw [nI_clamp (by omega), ha]
  exact k p l e s m args below meth c b G D hC H locs ls hz hP hS hl
theorem z_lastore {i j N x : Nat} {g : Nat → Nat} (hd : decode (mB M) pc = .ok (.lastore, 1)) (hq : pc + 1 = q) (hs : σ i = zN N g) (hi : i < n) (hj : j < N) (hN : N < 2 ^ 31) (k : Z M Po kc ks n (va_up σ i (zN N (va_up g j x))) q lv st) : Z M Po kc ks n σ pc lv (.long (lN x) :: .int (nI j) :: .ref i :: st) := by
  subst hq; intro p l e s m args below meth c b G D hC H locs ls hz hP hS hl
  have ha := zw_N (b := b) (G := G) hs hi
  have hin : vp_in (nI j) N := vp_in_nI hj hN
  refine W.last hC.1 hC.2.1 (hP i _ ha) ((hC.k.2 1 _ rfl).1 N (fun j => .long (lN (g j)))) (fun q => by cases q) (by show ¬ (nI j < 0 ∨ (arrV _ _ _).slots.size ≤ _); rw [arrV_size]; exact hin) rfl rfl hd fun H1 e1 z oq => ?_
  have hP1 : va_P D zCl (zw b G n (va_up σ i (zN N (va_up g j x)))) H1 := by
    rw [← zw_set, ze_N]
    refine hP.set zw_D ha ?_ oq
    show H1[b + i]? = some (vp_cell _ _)
    rw [e1, vp_cell_l, vp_cell_l, arrV_store, nI_clamp (by omega)]
    congr 2
    funext t
    by_cases ht : t = j
    · subst ht; simp [updV, va_up]
    · simp [updV, va_up, ht]
  exact k p l e s m args below meth c b G D hC H1 _ ls (z.trans hz) hP1 (hS.put z oq (Nat.le_add_right b i)) hl
theorem z_iastore {i j N : Nat} {x : Int32} {f : Nat → Int32} (hd : decode (mB M) pc = .ok (.iastore, 1)) (hq : pc + 1 = q) (hs : σ i = zI N f) (hi : i < n) (hj : j < N) (hN : N < 2 ^ 31) (k : Z M Po kc ks n (va_up σ i (zI N (va_up f j x))) q lv st) : Z M Po kc ks n σ pc lv (.int x :: .int (nI j) :: .ref i :: st) := by
  subst hq; intro p l e s m args below meth c b G D hC H locs ls hz hP hS hl
  have ha := zw_I (b := b) (G := G) hs hi
  have hin : vp_in (nI j) N := vp_in_nI hj hN
  refine W.iast hC.1 hC.2.1 (hP i _ ha) ((hC.k.2 0 _ rfl).1 N (fun j => .int (f j))) (fun q => by cases q) (by show ¬ (nI j < 0 ∨ (arrV _ _ _).slots.size ≤ _); rw [arrV_size]; exact hin) rfl rfl hd fun H1 e1 z oq => ?_
  have hP1 : va_P D zCl (zw b G n (va_up σ i (zI N (va_up f j x)))) H1 := by
    rw [← zw_set, ze_I]
    refine hP.set zw_D ha ?_ oq
    show H1[b + i]? = some (vp_cell _ _)
    rw [e1, vp_cell_i, vp_cell_i, arrV_store, nI_clamp (by omega)]
    congr 2
    funext t
    by_cases ht : t = j
    · subst ht; simp [updV, va_up]
    · simp [updV, va_up, ht]
  exact k p l e s m args below meth c b G D hC H1 _ ls (z.trans hz) hP1 (hS.put z oq (Nat.le_add_right b i)) hl
theorem z_aastore {i j N a ci : Nat} {fs : List Value} {r : vw_C} {f : Nat → Option Nat} (hd : decode (mB M) pc = .ok (.aastore, 1)) (hq : pc + 1 = q) (hs : σ i = zR N f) (hi : i < n) (hj : j < N) (hN : N < 2 ^ 31) (hv : σ a = zO ci fs) (han : a < n) (hc : zCl[ci]? = some r) (hr : r.1 = "RecurrentSeries$Series") (k : Z M Po kc ks n (va_up σ i (zR N (va_up f j (some a)))) q lv st) : Z M Po kc ks n σ pc lv (.ref a :: .int (nI j) :: .ref i :: st) := by
  subst hq; intro p l e s m args below meth c b G D hC H locs ls hz hP hS hl
  have ha := zw_R (b := b) (G := G) hs hi
  have hK := hC.k
  obtain ⟨r', hr', cellV, g1, g2, g3, -⟩ := hP a _ (zw_O (b := b) (G := G) hv han)
  have hcls := (hK.1 ci r hc).2
  obtain ⟨kA, comp, k1, k2, k3, -⟩ := (hK.2 2 _ rfl).2
  rw [hr] at hcls
  have hcomp : comp = D.1 ci := Option.some.inj (k3.symm.trans hcls.1)
  subst hcomp
  obtain ⟨kC, hkC, -⟩ := hcls.2
  have h0 : ¬ nI j < 0 := nI_pos (by omega)
  refine W.aast hC.1 hC.2.1 (hP i _ ha) (fun q h => by cases h) (fun h => by cases h) k1 k2 rfl hkC ⟨h0, by show _ < (arrV _ _ _).slots.size; rw [arrV_size, nI_clamp (by omega)]; exact hj⟩ g1 (fun q h => by rw [g3] at h; cases h) (by rw [g2]; exact hkC) (by rw [g2]; exact va_assign hcls) rfl rfl hd fun H1 e1 z oq => ?_
  have hP1 : va_P D zCl (zw b G n (va_up σ i (zR N (va_up f j (some a))))) H1 := by
    rw [← zw_set, ze_R]
    refine hP.set zw_D ha ?_ oq
    show H1[b + i]? = some (vp_cell _ _)
    rw [e1, vp_cell_q, vp_cell_q, arrV_store, nI_clamp (by omega)]
    congr 2
    funext t
    by_cases ht : t = j
    · subst ht; simp [updV, va_up, va_rf]
    · simp [updV, va_up, ht]
  exact k p l e s m args below meth c b G D hC H1 _ ls (z.trans hz) hP1 (hS.put z oq (Nat.le_add_right b i)) hl
/-- what the tables say of a field that is read, written, or written once -/
def zFG (own : String) (idx ci fi : Nat) : Prop := ∃ (C : String) (T : u_T) (N : Nat), zCl[ci]? = some (C, T, N) ∧ fi < N ∧ (∀ w ∈ u_ws C T N, w ∈ TB) ∧ (Cond.fieldLink own idx (T fi).1 (T fi).2.1 (T fi).2.2.1 ∈ TB ∨ ∃ host : String, Cond.fieldLinkNest own idx (T fi).1 (T fi).2.1 (T fi).2.2.1 host ∈ NB)
def zFT (ci : Nat) : Prop := ∃ (C : String) (T : u_T) (N : Nat) (ty : Nat → FieldType), zCl[ci]? = some (C, T, N) ∧ (∀ k, k < N → parseFieldDescriptor (T k).2.2.1 = some (ty k)) ∧ (∀ a, a < N → ∀ b, b < N → a ≠ b → (T a).2.1 ≠ (T b).2.1)
def zFk (ci fi : Nat) (fin : Bool) (own : String) (ty : FieldType) : Prop := ∀ (C : String) (T : u_T) (N : Nat), zCl[ci]? = some (C, T, N) → (T fi).2.2.2 = fin ∧ (fin = true → (T fi).1 = own) ∧ parseFieldDescriptor (T fi).2.2.1 = some ty
theorem z_get {idx ci i : Nat} {fs : List Value} {v : Value} (fi : Nat) (hd : decode (mB M) pc = .ok (.getfield idx, 3)) (hq : pc + 3 = q) (hF : zFG (mY M).cls idx ci fi) (hs : σ i = zO ci fs) (hi : i < n) (hv : fs[fi]? = some v) (k : Z M Po kc ks n σ q lv (v :: st)) : Z M Po kc ks n σ pc lv (.ref i :: st) := by
  subst hq; intro p l e s m args below meth c b G D hC H locs ls hz hP hS hl
  obtain ⟨C, T, N, hc, hfi, hws, hlk⟩ := hF
  have hv' : (fs.map (zv b))[fi]? = some (zv b v) := by rw [List.getElem?_map, hv]; rfl
  have hts : ∀ w ∈ TB, w.before args s = true := fun w h => hC.tb h
  rcases hlk with hlk | ⟨host, hlk⟩
  · exact va_get (D := D) (C := C) (T := T) (N := N) hC.1 hC.2.1 hts hws hC.2.2.2.1 hC.k hP i (zw_O hs hi) hc fi hfi (hC.tb hlk) (fun _ h => h) hv' hd (k p l e s m args below meth c b G D hC H locs ls hz hP hS hl)
  · exact va_getN (D := D) (C := C) (T := T) (N := N) hC.1 hC.2.1 hts hws hC.2.2.2.1 hC.k hP i (zw_O hs hi) hc fi hfi (va_Nw.use rfl (hC.nb hlk)) (fun _ h => h) hv' hd (k p l e s m args below meth c b G D hC H locs ls hz hP hS hl)
theorem z_put {idx ci i : Nat} {fs : List Value} {v : Value} {ty : FieldType} (fi : Nat) (hd : decode (mB M) pc = .ok (.putfield idx, 3)) (hq : pc + 3 = q) (hF : zFG (mY M).cls idx ci fi) (hT : zFT ci) (hk : zFk ci fi false "" ty) (hs : σ i = zO ci fs) (hi : i < n) (hn : ∀ b, narrow ty (zv b v) = zv b v) (hfit : ∀ b, fits ty (zv b v) = true) (hlen : fi < fs.length) (k : Z M Po kc ks n (va_up σ i (zO ci (fs.set fi v))) q lv st) : Z M Po kc ks n σ pc lv (v :: .ref i :: st) := by
  subst hq; intro p l e s m args below meth c b G D hC H locs ls hz hP hS hl
  obtain ⟨C, T, N, hc, hfi, hws, hlk⟩ := hF
  obtain ⟨C', T', N', ty0, hc', hty, hnm⟩ := hT
  obtain ⟨rfl, rfl, rfl⟩ : C = C' ∧ T = T' ∧ N = N' := by
    have := Option.some.inj (hc.symm.trans hc')
    simp only [Prod.mk.injEq] at this
    exact this
  obtain ⟨hfin, -, hpt⟩ := hk C T N hc
  have he := zw_O (b := b) (G := G) hs hi
  have hK := hC.k
  have hts : ∀ w ∈ TB, w.before args s = true := fun w h => hC.tb h
  have hap := va_apart (own := (mY M).cls) hts hws ty0 hty hnm hK hc
  obtain ⟨r, h1, cell, q1, q2, q3, q4⟩ := hP i _ he
  have hr : r = (C, T, N) := Option.some.inj (h1.symm.trans hc)
  subst hr
  obtain ⟨hSl, hfc, kC, hkC, hkind⟩ := hK.1 ci _ hc
  obtain ⟨cf, kf, fj, f, hif, hsl⟩ := hSl fi hfi
  have hlay := hts _ (hws _ (u_in_lay hfi))
  unfold u_lay at hlay
  rw [if_neg (by rw [hfin]; decide)] at hlay
  have hst := (u_facts hfc hkC (u_lays hts hws hfi) hif).1
  have h6 := u_store hfc hkC hkind hlay hif hpt (hn b) (hfit b)
  have fin : ∀ H1 : Heap, H1[b + i]? = some (cell.setSlot f.slot (zv b v)) → H1.size = H.size → (∀ q, q ≠ b + i → H1[q]? = H[q]?) → W p l e (mR M) s m args below meth c H1 (locs ++ [⟨b + i, f.slot⟩]) kc ks (MQ below (zQc b G D Po) args s (mR M).cells (mR M).slots (fun q => b ≤ q)) (F0 m (pc + 3) ls (st.map (zv b))) := by
    intro H1 e1 z oq
    rw [hsl] at e1
    have hP1 : va_P D zCl (zw b G n (va_up σ i (zO ci (fs.set fi v)))) H1 := by
      rw [← zw_set, ze_O]
      refine hP.set zw_D he ?_ oq
      refine ⟨_, hc, ?_⟩
      rw [List.map_set]
      exact t_OB.to (V := updV (vp_V (fs.map (zv b))) fi (zv b v)) ⟨_, e1, q2, q3, t_set q4 hap hfi (zv b v)⟩ (fun j _ => vp_updV_set (by rw [List.length_map]; exact hlen) (zv b v) j)
    exact k p l e s m args below meth c b G D hC H1 _ ls (z.trans hz) hP1 (hS.put z oq (Nat.le_add_right b i)) hl
  rcases hlk with hlk | ⟨host, hlk⟩
  · exact W.putK hC.1 hC.2.1 (f := f) ⟨hC.2.2.2.1, hC.tb hlk, ⟨_, _, _, hif⟩, hst⟩ (by rw [q2]; exact h6) q1 q3 (by rw [hsl]; exact k2_hasslot (q4 fi hfi)) rfl rfl hd fin
  · exact va_WputK hC.1 hC.2.1 (f := f) hC.2.2.2.1 (va_Nw.use rfl (hC.nb hlk)) hif hst (by rw [q2]; exact h6) q1 q3 (by rw [hsl]; exact k2_hasslot (q4 fi hfi)) rfl rfl hd fin
theorem z_putF {idx ci i : Nat} {fs : List Value} {v : Value} {ty : FieldType} (fi : Nat) (hd : decode (mB M) pc = .ok (.putfield idx, 3)) (hq : pc + 3 = q) (hF : zFG (mY M).cls idx ci fi) (hT : zFT ci) (hk : zFk ci fi true (mY M).cls ty) (hy : (mY M).name = "<init>") (hnl : ∀ (C : String) (T : u_T) (N : Nat), zCl[ci]? = some (C, T, N) → Cond.fieldLink (mY M).cls idx (T fi).1 (T fi).2.1 (T fi).2.2.1 ∈ TB) (hs : σ i = zO ci fs) (hi : i < n) (hn : ∀ b, narrow ty (zv b v) = zv b v) (hfit : ∀ b, fits ty (zv b v) = true) (hlen : fi < fs.length) (k : Z M Po kc ks n (va_up σ i (zO ci (fs.set fi v))) q lv st) : Z M Po kc ks n σ pc lv (v :: .ref i :: st) := by
  subst hq; intro p l e s m args below meth c b G D hC H locs ls hz hP hS hl
  obtain ⟨C, T, N, hc, hfi, hws, -⟩ := hF
  obtain ⟨C', T', N', ty0, hc', hty, hnm⟩ := hT
  obtain ⟨rfl, rfl, rfl⟩ : C = C' ∧ T = T' ∧ N = N' := by
    have := Option.some.inj (hc.symm.trans hc')
    simp only [Prod.mk.injEq] at this
    exact this
  obtain ⟨hfin, hdecl, hpt⟩ := hk C T N hc
  have hdecl := hdecl rfl
  have hlk := hnl C T N hc
  have he := zw_O (b := b) (G := G) hs hi
  have hK := hC.k
  have hts : ∀ w ∈ TB, w.before args s = true := fun w h => hC.tb h
  have hap := va_apart (own := (mY M).cls) hts hws ty0 hty hnm hK hc
  obtain ⟨r, h1, cell, q1, q2, q3, q4⟩ := hP i _ he
  have hr : r = (C, T, N) := Option.some.inj (h1.symm.trans hc)
  subst hr
  obtain ⟨hSl, hfc, kC, hkC, hkind⟩ := hK.1 ci _ hc
  obtain ⟨cf, kf, fj, f, hif, hsl⟩ := hSl fi hfi
  have hlay := hts _ (hws _ (u_in_lay hfi))
  unfold u_lay at hlay
  rw [if_pos hfin] at hlay
  have hst := (u_facts hfc hkC (u_lays hts hws hfi) hif).1
  have hcf : m.cls = cf := by
    obtain ⟨_, _, c', _, _, _, -, -, hf', -, -, -, hown2, -⟩ := Cond.laysFinal_spec hlay
    have e1 : c' = cf := by have := hif.symm.trans hf'; simp at this; exact this.1.symm
    rw [hdecl] at hown2
    rw [← e1]; exact Option.some.inj (hC.2.2.2.1.symm.trans hown2)
  have h6 := u_fits hfc hkC hkind (Or.inr hlay) hif hpt (hn b) (hfit b)
  refine W.putFinK hC.1 hC.2.1 hC.2.2.2.1 (hC.tb hlk) hif hst hcf (hC.2.2.2.2.2.2.2.2.2.2 hy) (by rw [q2]; exact h6) q1 q3 (by rw [hsl]; exact k2_hasslot (q4 fi hfi)) rfl rfl hd fun H1 e1 z oq => ?_
  rw [hsl] at e1
  have hP1 : va_P D zCl (zw b G n (va_up σ i (zO ci (fs.set fi v)))) H1 := by
    rw [← zw_set, ze_O]
    refine hP.set zw_D he ?_ oq
    refine ⟨_, hc, ?_⟩
    rw [List.map_set]
    exact t_OB.to (V := updV (vp_V (fs.map (zv b))) fi (zv b v)) ⟨_, e1, q2, q3, t_set q4 hap hfi (zv b v)⟩ (fun j _ => vp_updV_set (by rw [List.length_map]; exact hlen) (zv b v) j)
  exact k p l e s m args below meth c b G D hC H1 _ ls (z.trans hz) hP1 (hS.put z oq (Nat.le_add_right b i)) hl
/-- new cells -/
theorem zP_push {b : Nat} {G : Nat → ClassId} {D : va_G} {H H1 : Heap} {e : va_E} (hz : H.size = b + n) (hP : va_P D zCl (zw b G n σ) H) (o1 : ∀ q, q < H.size → H1[q]? = H[q]?) (he : va_at D zCl (b + n, ze b G e) H1) : va_P D zCl (zw b G (n + 1) (va_up σ n e)) H1 := by
  rw [← zw_push]
  refine va_P.app (hP.kept (fun k x hx => o1 x.1 ((hP k x hx).lt))) (fun k x hx => ?_)
  have hk : k < 1 := (List.getElem?_eq_some_iff.mp hx).1
  rw [show k = 0 by omega] at hx
  cases hx
  exact he
theorem zS_push {b : Nat} {s : State} {H H1 : Heap} {locs : List Loc} (hS : va_S (fun q => b ≤ q) s.heap H locs) (z : H1.size = H.size + 1) (o1 : ∀ q, q < H.size → H1[q]? = H[q]?) : va_S (fun q => b ≤ q) s.heap H1 locs :=
  ⟨Nat.le_trans hS.1 (by omega), fun x h1 h2 => (o1 x (Nat.lt_of_lt_of_le h1 hS.1)).trans (hS.2.1 x h1 h2), hS.2.2⟩
theorem z_newl {N : Nat} {a : ArrayType} (hd : decode (mB M) pc = .ok (.newarray a, 2)) (ha : newarray.typeOf a = .long) (hq : pc + 2 = q) (hw : Cond.arrayClass .long ∈ TB) (hN : N < 67108864) (hc : kc + 1 ≤ (mR M).cells) (hs : ks + N ≤ (mR M).slots) (k : Z M Po (kc + 1) (ks + N) (n + 1) (va_up σ n (zN N (fun _ => 0))) q lv (.ref n :: st)) : Z M Po kc ks n σ pc lv (.int (nI N) :: st) := by
  subst hq; intro p l e s m args below meth c b G D hC H locs ls hz hP hS hl
  refine va_newaK (N := N) hC.1 hC.2.1 (by rw [ha]; exact hC.tb hw) rfl hd rfl (nI_pos (by omega)) (nI_clamp (by omega)) (by rw [ha]; show N * 8 ≤ _; omega) hc hs rfl fun H1 cA e1 z1 o1 hAr hNm => ?_
  rw [ha] at e1 hNm
  have hG : cA = G 1 := by
    have h1 : s.vm.findClass ("[" ++ FieldType.long.toString) = some (G 1) := (hC.k.2 1 _ rfl).2
    exact Option.some.inj (hNm.symm.trans h1)
  subst hG
  have hP1 := zP_push (H1 := H1) (e := zN N (fun _ => 0)) hz hP o1 (by rw [ze_N, ← hz]; exact e1)
  have := k p l e s m args below meth c b G D hC H1 locs ls (by rw [z1, hz, Nat.add_assoc]) hP1 (zS_push hS z1 o1) hl
  rw [hz]
  exact this
theorem z_newi {N : Nat} {a : ArrayType} (hd : decode (mB M) pc = .ok (.newarray a, 2)) (ha : newarray.typeOf a = .int) (hq : pc + 2 = q) (hw : Cond.arrayClass .int ∈ TB) (hN : N < 67108864) (hc : kc + 1 ≤ (mR M).cells) (hs : ks + N ≤ (mR M).slots) (k : Z M Po (kc + 1) (ks + N) (n + 1) (va_up σ n (zI N (fun _ => 0))) q lv (.ref n :: st)) : Z M Po kc ks n σ pc lv (.int (nI N) :: st) := by
  subst hq; intro p l e s m args below meth c b G D hC H locs ls hz hP hS hl
  refine va_newaK (N := N) hC.1 hC.2.1 (by rw [ha]; exact hC.tb hw) rfl hd rfl (nI_pos (by omega)) (nI_clamp (by omega)) (by rw [ha]; show N * 4 ≤ _; omega) hc hs rfl fun H1 cA e1 z1 o1 hAr hNm => ?_
  rw [ha] at e1 hNm
  have hG : cA = G 0 := by
    have h1 : s.vm.findClass ("[" ++ FieldType.int.toString) = some (G 0) := (hC.k.2 0 _ rfl).2
    exact Option.some.inj (hNm.symm.trans h1)
  subst hG
  have hP1 := zP_push (H1 := H1) (e := zI N (fun _ => 0)) hz hP o1 (by rw [ze_I, ← hz]; exact e1)
  have := k p l e s m args below meth c b G D hC H1 locs ls (by rw [z1, hz, Nat.add_assoc]) hP1 (zS_push hS z1 o1) hl
  rw [hz]
  exact this
theorem z_newr {N idx : Nat} (hd : decode (mB M) pc = .ok (.anewarray idx, 3)) (hq : pc + 3 = q) (hcl : Cond.classLink (mY M).cls idx "RecurrentSeries$Series" ∈ TB) (hov : Cond.arrayOver (.object "RecurrentSeries$Series") ∈ NB) (hN : N < 67108864) (hc : kc + 1 ≤ (mR M).cells) (hs : ks + N ≤ (mR M).slots) (k : Z M Po (kc + 1) (ks + N) (n + 1) (va_up σ n (zR N (fun _ => none))) q lv (.ref n :: st)) : Z M Po kc ks n σ pc lv (.int (nI N) :: st) := by
  subst hq; intro p l e s m args below meth c b G D hC H locs ls hz hP hS hl
  have hNc : (nI N).toNatClampNeg = N := nI_clamp (by omega)
  refine W.anew hC.1 hC.2.1 hC.2.2.2.1 (hC.tb hcl) (va_AO.use (hC.nb hov)) rfl hd rfl (nI_pos (by omega)) (by rw [hNc]; omega) hc (by rw [hNc]; exact hs) fun cA kA comp f1 f2 f3 f4 => ?_
  rw [hNc]
  generalize hH1 : H.push ({ cls := cA, slots := Array.replicate N .null, vm := .none } : Cell) = H1
  have z1 : H1.size = H.size + 1 := by rw [← hH1, Array.size_push]
  have e1 : H1[H.size]? = some (arrV cA N (fun _ => .null)) := by rw [← hH1, Array.getElem?_push_size, ← arrV_new]
  have o1 : ∀ q : Nat, q < H.size → H1[q]? = H[q]? := fun q hq => by rw [← hH1, Array.getElem?_push, if_neg (Nat.ne_of_lt hq)]
  have hG : cA = G 2 := by
    obtain ⟨_, _, -, -, -, h1⟩ := (hC.k.2 2 _ rfl).2
    exact Option.some.inj (f1.symm.trans h1)
  subst hG
  have hP1 := zP_push (H1 := H1) (e := zR N (fun _ => none)) hz hP o1 (by rw [ze_R, ← hz]; exact e1)
  have := k p l e s m args below meth c b G D hC H1 locs ls (by rw [z1, hz, Nat.add_assoc]) hP1 (zS_push hS z1 o1) hl
  rw [hz]
  exact this
def zNw (own : String) (idx ci N : Nat) (fs : List Value) : Prop := ∃ (C : String) (T : u_T) (ty : Nat → FieldType), zCl[ci]? = some (C, T, N) ∧ (∀ w ∈ u_ws C T N, w ∈ TB) ∧ (∀ k, k < N → parseFieldDescriptor (T k).2.2.1 = some (ty k)) ∧ Cond.classLink own idx C ∈ TB ∧ Cond.instantiable C N ∈ TB ∧ Cond.initialized C ∈ TB ∧ ∀ b j, j < N → defaultValue (ty j) = vp_V (fs.map (zv b)) j
theorem z_new {idx N ci : Nat} {fs : List Value} (hd : decode (mB M) pc = .ok (.new idx, 3)) (hq : pc + 3 = q) (hF : zNw (mY M).cls idx ci N fs) (hc : kc + 1 ≤ (mR M).cells) (hs : ks + N ≤ (mR M).slots) (k : Z M Po (kc + 1) (ks + N) (n + 1) (va_up σ n (zO ci fs)) q lv (.ref n :: st)) : Z M Po kc ks n σ pc lv st := by
  subst hq; intro p l e s m args below meth c b G D hC H locs ls hz hP hS hl
  obtain ⟨C, T, ty, hcl, hws, hty, h1, h2, h3, hfs⟩ := hF
  have hKn := hC.k.1 ci _ hcl
  have hts : ∀ w ∈ TB, w.before args s = true := fun w h => hC.tb h
  refine W.newcK hC.1 hC.2.1 hC.2.2.2.1 (hC.tb h1) (hC.tb h2) (hC.tb h3) rfl hd hc hs hKn.2.1 rfl fun H1 kC hkC e1 z1 o1 => ?_
  have hP1 := zP_push (H1 := H1) (e := zO ci fs) hz hP o1 (by rw [ze_O, ← hz]; exact ⟨_, hcl, (u_born ty hts hws hKn hkC e1 hty).to (hfs b)⟩)
  have := k p l e s m args below meth c b G D hC H1 locs ls (by rw [z1, hz, Nat.add_assoc]) hP1 (zS_push hS z1 o1) hl
  rw [hz]
  exact this
/-- returns -/
theorem zQ_of {b : Nat} {G : Nat → ClassId} {D : va_G} {s : State} {args : Array Value} {H : Heap} {locs : List Loc} {r : Option Value} (h : Po r n σ) (hz : H.size = b + n) (hP : va_P D zCl (zw b G n σ) H) (hS : va_S (fun q => b ≤ q) s.heap H locs) (t : State) (ht : t.heap = H) : zQc b G D Po args s (.returned (r.map (zv b))) t :=
  ⟨⟨r, n, σ, rfl, h, by rw [ht]; exact hz, by rw [ht]; exact hP⟩, hS.F ht⟩
theorem z_iret {v : Int32} (hd : decode (mB M) pc = .ok (.ireturn, 1)) (hT : mT M = some .int) (hc : kc ≤ (mR M).cells) (hs : ks ≤ (mR M).slots) (h : Po (some (.int v)) n σ) : Z M Po kc ks n σ pc lv [.int v] := by
  intro p l e s m args below meth c b G D hC H locs ls hz hP hS hl
  exact W.widen hc hs (W.iret hC.1 hC.2.1 (hC.2.2.2.2.2.2.1.trans hT) (fun t ht _ => zQ_of h hz hP hS t ht) hS.2.2 hd hC.2.2.2.2.2.2.2.1)
theorem z_zret {v : Int32} {ty : FieldType} (hd : decode (mB M) pc = .ok (.ireturn, 1)) (hT : mT M = some ty) (hn : narrow ty (.int v) = .int v) (hc : kc ≤ (mR M).cells) (hs : ks ≤ (mR M).slots) (h : Po (some (.int v)) n σ) : Z M Po kc ks n σ pc lv [.int v] := by
  intro p l e s m args below meth c b G D hC H locs ls hz hP hS hl
  exact W.widen hc hs (W.zret hC.1 hC.2.1 (hC.2.2.2.2.2.2.1.trans hT) hn (fun t ht _ => zQ_of h hz hP hS t ht) hS.2.2 hd hC.2.2.2.2.2.2.2.1)
theorem z_lret {v : Int64} (hd : decode (mB M) pc = .ok (.lreturn, 1)) (hT : mT M = some .long) (hc : kc ≤ (mR M).cells) (hs : ks ≤ (mR M).slots) (h : Po (some (.long v)) n σ) : Z M Po kc ks n σ pc lv [.long v] := by
  intro p l e s m args below meth c b G D hC H locs ls hz hP hS hl
  exact W.widen hc hs (W.lret hC.1 hC.2.1 (hC.2.2.2.2.2.2.1.trans hT) (fun t ht _ => zQ_of h hz hP hS t ht) hS.2.2 hd hC.2.2.2.2.2.2.2.1)
theorem z_vret (hd : decode (mB M) pc = .ok (.return_, 1)) (hT : mT M = none) (hc : kc ≤ (mR M).cells) (hs : ks ≤ (mR M).slots) (h : Po none n σ) : Z M Po kc ks n σ pc lv [] := by
  intro p l e s m args below meth c b G D hC H locs ls hz hP hS hl
  exact W.widen hc hs (W.vret hC.1 hC.2.1 (hC.2.2.2.2.2.2.1.trans hT) (fun t ht _ => zQ_of h hz hP hS t ht) hS.2.2 hd hC.2.2.2.2.2.2.2.1)
/-- calls -/
theorem z_after {p : Program} {l : Launch} {e : Env} {R : Room} {s : State} {m : MethodId} {args : Array Value} {below : List Frame} {meth : Method} {c : Code} {H : Heap} {locs : List Loc} {cells slots mc ms : Nat} {Q : State → Prop} {b : Nat} {G : Nat → ClassId} {D : va_G} {Po' : Option Value → Nat → zWd → Prop} {ls : Array Slot} {st0 rest : List Value} {a : Array Value}
    (hr : va_Run p l e R s m args below meth c H locs cells slots mc ms (F0 m pc ls st0) rest (zQc b G D Po' a) (fun q => b ≤ q)) (hS : va_S (fun q => b ≤ q) s.heap H locs)
    (kk : ∀ (r : Option Value) (n' : Nat) (σ' : zWd), Po' r n' σ' → ∀ (H1 : Heap) (locs1 : List Loc), H1.size = b + n' → va_P D zCl (zw b G n' σ') H1 → va_S (fun q => b ≤ q) s.heap H1 locs1 → W p l e R s m args below meth c H1 locs1 (cells + mc) (slots + ms) Q (F0 m (pc + 3) ls ((r.map (zv b)).toList ++ rest))) : W p l e R s m args below meth c H locs cells slots Q (F0 m pc ls st0) := by
  intro T hT X
  obtain ⟨v, st₀, t, T', L, h0, X', hL, e1, e2, ⟨⟨r, n', σ', hv, hp, hz, hP⟩, hF⟩, st⟩ := hr T hT X
  cases hv
  obtain ⟨hF1, hF2⟩ := hF
  rw [h0] at hF1 hF2
  obtain ⟨t2, a1, b1⟩ := kk r n' σ' hp T'.heap (locs ++ L) (by rw [e1]; exact hz) (by rw [e1]; exact hP)
    ⟨Nat.le_trans hS.1 (by rw [e1]; exact hF1), fun q h1 h2 => by rw [e1, hF2 q (Nat.lt_of_lt_of_le h1 hS.1) h2]; exact hS.2.1 q h1 h2, fun q hq => by
      rcases List.mem_append.mp hq with h | h
      · exact hS.2.2 q h
      · exact hL q h⟩ T' rfl X'
  exact ⟨t2, st t2 a1, b1⟩
theorem zPc_blind {b : Nat} {G : Nat → ClassId} {D : va_G} {avs : List Value} : FrameBlind (zPc b G D n σ avs) := by
  intro a U g mk h
  obtain ⟨h0, hz, hP, hK, hN⟩ := h
  exact ⟨h0, hz, hP, va_K.moved (u := U) (U := U.calling g mk a) (Vm.Alike.refl U.vm) hK, NB_same (s := U) (U := U.calling g mk a) rfl hN⟩
theorem zPc_pre {b : Nat} {G : Nat → ClassId} {D : va_G} {avs : List Value} {p : Program} {s : State} {m : MethodId} {args : Array Value} {meth : Method} {c : Code} {H : Heap} (hC : zCx M b G D p s m args meth c) (hz : H.size = b + n) (hP : va_P D zCl (zw b G n σ) H) (U : State) (hU : U.heap = H) (hW : s.WarmedH U.vm) : zPc b G D n σ avs (avs.map (zv b)).toArray U :=
  ⟨rfl, by rw [hU]; exact hz, by rw [hU]; exact hP, va_K.moved hW.alike hC.k, NB_warm hW hC.2.2.2.2.2.1⟩
def zCk (M' : zMI) (k : Nat) : Prop := Cond.code (mY M') (mB M') (mL M') (mT M') ∈ TB ∧ Cond.initialized (mY M').cls ∈ TB ∧ (mY M').cls ≠ "java/lang/invoke/MethodHandle" ∧ (mY M').cls ≠ "java/lang/invoke/VarHandle" ∧ (parseMethodDescriptor (mY M').desc).map (fun d => d.parameters.length) = some k
def zLk (own : String) (idx : Nat) (y : MethodName) : Prop := Cond.methodLink own idx y ∈ TB ∨ ∃ host : String, Cond.methodLinkNest own idx y host ∈ NB
def zFit (M M' : zMI) : Prop := (mR M').frames + 1 ≤ (mR M).frames ∧ 8 + (mL M' + 11) + (mR M').locals ≤ (mR M).locals
theorem z_cat {b : Nat} {rest : List Value} {m : MethodId} {pc : Nat} {ls : Array Slot} {r : List Value} (h : (rest.map fun v => v.category).sum ≤ 8) : 2 * (F0 m pc ls r).monitorRoom + ((rest.map (zv b)).map fun v => v.category).sum ≤ 8 := by
  refine lv_room ?_
  rw [List.map_map]
  have : ((fun v : Value => v.category) ∘ zv b) = fun v => v.category := by funext v; exact zv_cat b v
  rw [this]
  exact h
theorem z_callS {M' : zMI} {idx : Nat} {As rest : List Value} {Po' : Option Value → Nat → zWd → Prop} (hd : decode (mB M) pc = .ok (.invokestatic idx, 3)) (hq : pc + 3 = q) (hM : Ct M' As n σ Po') (hk : zCk M' As.length) (hl0 : zLk (mY M).cls idx (mY M')) (hst : Cond.static (mY M') ∈ TB) (hR : zFit M M') (hcat : (rest.map fun v => v.category).sum ≤ 8) (hc : kc + (mR M').cells ≤ (mR M).cells) (hs : ks + (mR M').slots ≤ (mR M).slots)
    (k : ∀ (r : Option Value) (n' : Nat) (σ' : zWd), Po' r n' σ' → Z M Po (kc + (mR M').cells) (ks + (mR M').slots) n' σ' q lv (r.toList ++ rest)) : Z M Po kc ks n σ pc lv (As.reverse ++ rest) := by
  subst hq; intro p l e s m args below meth c b G D hC H locs ls hz hP hS hl
  have hts : ∀ w ∈ mW M, w.before args s = true := hC.2.2.2.2.1
  have hpre : PreS s H (zPc b G D n σ As) (As.map (zv b)) := ⟨zPc_blind, zPc_pre hC hz hP⟩
  have hstk : (As.reverse ++ rest).map (zv b) = (As.map (zv b)).reverse ++ rest.map (zv b) := by rw [List.map_append, List.map_reverse]
  have hrun : va_Run p l e (mR M) s m args below meth c H locs kc ks (mR M').cells (mR M').slots (F0 m pc ls ((As.reverse ++ rest).map (zv b))) (rest.map (zv b)) (zQc b G D Po' (As.map (zv b)).toArray) (fun q => b ≤ q) := by
    rcases hl0 with hl0 | ⟨host, hl0⟩
    · exact va_runS (n := As.length) ⟨hC.1, hC.2.1, hC.2.2.1, hC.2.2.2.1, hts⟩ (hM l b G D) ⟨callB_of As.length hts (mW_good hk.1) rfl rfl rfl (hC.tb hk.2.1) (hC.tb hl0) hk.2.2 hR, hC.tb hst⟩ hpre rfl (List.length_map _) hl.1 hstk (z_cat hcat) hd ⟨hc, hs⟩
    · exact va_runSN (n := As.length) ⟨hC.1, hC.2.1, hC.2.2.1, hC.2.2.2.1, hts⟩ (hM l b G D) ⟨va_cnB As.length hts (mW_good hk.1) rfl rfl rfl (hC.nb hl0) (hC.tb hk.2.1) hk.2.2 hR, hC.tb hst, trivial⟩ hpre rfl (List.length_map _) hl.1 hstk (z_cat hcat) hd ⟨hc, hs⟩
  refine z_after hrun hS (fun r n' σ' hp H1 locs1 hz1 hP1 hS1 => ?_)
  have := k r n' σ' hp p l e s m args below meth c b G D hC H1 locs1 ls hz1 hP1 hS1 hl
  rw [List.map_append] at this
  cases r <;> exact this
theorem z_callV {M' : zMI} {idx i ci : Nat} {fs As rest : List Value} {Po' : Option Value → Nat → zWd → Prop} {vc : vw_C} (hd : decode (mB M) pc = .ok (.invokevirtual idx, 3)) (hq : pc + 3 = q) (hM : Ct M' (.ref i :: As) n σ Po') (hs0 : σ i = zO ci fs) (hi : i < n) (hvc : zCl[ci]? = some vc) (hk : zCk M' As.length) (hl0 : zLk (mY M).cls idx (mY M')) (hst : Cond.instanceMethod (mY M') ∈ TB) (hsel : Cond.selects vc.1 (mY M') (mY M') ∈ TB) (hR : zFit M M') (hcat : (rest.map fun v => v.category).sum ≤ 8) (hc : kc + (mR M').cells ≤ (mR M).cells) (hs : ks + (mR M').slots ≤ (mR M).slots)
    (k : ∀ (r : Option Value) (n' : Nat) (σ' : zWd), Po' r n' σ' → Z M Po (kc + (mR M').cells) (ks + (mR M').slots) n' σ' q lv (r.toList ++ rest)) : Z M Po kc ks n σ pc lv (As.reverse ++ .ref i :: rest) := by
  subst hq; intro p l e s m args below meth c b G D hC H locs ls hz hP hS hl
  have hts : ∀ w ∈ mW M, w.before args s = true := hC.2.2.2.2.1
  have hpre : PreV s H vc.1 (b + i) (zPc b G D n σ (.ref i :: As)) (As.map (zv b)) := ⟨zPc_blind, va_recv hC.k hP hvc (zw_O hs0 hi), zPc_pre hC hz hP⟩
  have hstk : (As.reverse ++ .ref i :: rest).map (zv b) = (As.map (zv b)).reverse ++ .ref (b + i) :: rest.map (zv b) := by rw [List.map_append, List.map_reverse]; rfl
  have hrun : va_Run p l e (mR M) s m args below meth c H locs kc ks (mR M').cells (mR M').slots (F0 m pc ls ((As.reverse ++ .ref i :: rest).map (zv b))) (rest.map (zv b)) (zQc b G D Po' (Value.ref (b + i) :: As.map (zv b)).toArray) (fun q => b ≤ q) := by
    rcases hl0 with hl0 | ⟨host, hl0⟩
    · exact va_runV (n := As.length) ⟨hC.1, hC.2.1, hC.2.2.1, hC.2.2.2.1, hts⟩ (hM l b G D) ⟨callB_of As.length hts (mW_good hk.1) rfl rfl rfl (hC.tb hk.2.1) (hC.tb hl0) hk.2.2 hR, hC.tb hst, hC.tb hsel⟩ hpre rfl (List.length_map _) hl.1 hstk (z_cat hcat) hd ⟨hc, hs⟩
    · exact va_runVN (n := As.length) ⟨hC.1, hC.2.1, hC.2.2.1, hC.2.2.2.1, hts⟩ (hM l b G D) ⟨va_cnB As.length hts (mW_good hk.1) rfl rfl rfl (hC.nb hl0) (hC.tb hk.2.1) hk.2.2 hR, hC.tb hst, hC.tb hsel⟩ hpre rfl (List.length_map _) hl.1 hstk (z_cat hcat) hd ⟨hc, hs⟩
  refine z_after hrun hS (fun r n' σ' hp H1 locs1 hz1 hP1 hS1 => ?_)
  have := k r n' σ' hp p l e s m args below meth c b G D hC H1 locs1 ls hz1 hP1 hS1 hl
  rw [List.map_append] at this
  cases r <;> exact this
theorem z_callI {M' : zMI} {idx i : Nat} {As rest : List Value} {Po' : Option Value → Nat → zWd → Prop} (hd : decode (mB M) pc = .ok (.invokespecial idx, 3)) (hq : pc + 3 = q) (hM : Ct M' (.ref i :: As) n σ Po') (hT : mT M' = none) (hy : (mY M').name = "<init>") (hk : zCk M' As.length) (hl0 : zLk (mY M).cls idx (mY M')) (hst : Cond.instanceMethod (mY M') ∈ TB) (hR : zFit M M') (hcat : (rest.map fun v => v.category).sum ≤ 8) (hc : kc + (mR M').cells ≤ (mR M).cells) (hs : ks + (mR M').slots ≤ (mR M).slots)
    (k : ∀ (r : Option Value) (n' : Nat) (σ' : zWd), Po' r n' σ' → Z M Po (kc + (mR M').cells) (ks + (mR M').slots) n' σ' q lv (r.toList ++ rest)) : Z M Po kc ks n σ pc lv (As.reverse ++ .ref i :: rest) := by
  subst hq; intro p l e s m args below meth c b G D hC H locs ls hz hP hS hl
  have hts : ∀ w ∈ mW M, w.before args s = true := hC.2.2.2.2.1
  have hpre : PreS s H (zPc b G D n σ (.ref i :: As)) (.ref (b + i) :: As.map (zv b)) := ⟨zPc_blind, zPc_pre (avs := .ref i :: As) hC hz hP⟩
  have hstk : (As.reverse ++ .ref i :: rest).map (zv b) = (As.map (zv b)).reverse ++ .ref (b + i) :: rest.map (zv b) := by rw [List.map_append, List.map_reverse]; rfl
  have hrun : va_Run p l e (mR M) s m args below meth c H locs kc ks (mR M').cells (mR M').slots (F0 m pc ls ((As.reverse ++ .ref i :: rest).map (zv b))) (rest.map (zv b)) (zQc b G D Po' (Value.ref (b + i) :: As.map (zv b)).toArray) (fun q => b ≤ q) := by
    rcases hl0 with hl0 | ⟨host, hl0⟩
    · exact va_runI (n := As.length) ⟨hC.1, hC.2.1, hC.2.2.1, hC.2.2.2.1, hts⟩ (hM l b G D) ⟨hT ▸ callB_of As.length hts (mW_good hk.1) rfl rfl rfl (hC.tb hk.2.1) (hC.tb hl0) hk.2.2 hR, hy, hC.tb hst⟩ hpre rfl (List.length_map _) hl.1 hstk (z_cat hcat) hd ⟨hc, hs⟩
    · exact va_runIN (n := As.length) ⟨hC.1, hC.2.1, hC.2.2.1, hC.2.2.2.1, hts⟩ (hM l b G D) ⟨hT ▸ va_cnB As.length hts (mW_good hk.1) rfl rfl rfl (hC.nb hl0) (hC.tb hk.2.1) hk.2.2 hR, hy, hC.tb hst⟩ hpre rfl (List.length_map _) hl.1 hstk (z_cat hcat) hd ⟨hc, hs⟩
  refine z_after hrun hS (fun r n' σ' hp H1 locs1 hz1 hP1 hS1 => ?_)
  have := k r n' σ' hp p l e s m args below meth c b G D hC H1 locs1 ls hz1 hP1 hS1 hl
  rw [List.map_append] at this
  cases r <;> exact this
theorem z_objInit {idx i : Nat} {rest : List Value} (hd : decode (mB M) pc = .ok (.invokespecial idx, 3)) (hq : pc + 3 = q) (h1 : Cond.methodLink (mY M).cls idx Lib.objectInit ∈ TB) (h2 : Cond.instanceMethod Lib.objectInit ∈ TB) (h3 : Cond.code Lib.objectInit ⟨#[0xb1]⟩ 1 none ∈ TB) (hf : 1 ≤ (mR M).frames) (hlo : 20 ≤ (mR M).locals) (hcat : (rest.map fun v => v.category).sum ≤ 8) (k : Z M Po kc ks n σ q lv rest) : Z M Po kc ks n σ pc lv (.ref i :: rest) := by
  subst hq; intro p l e s m args below meth c b G D hC H locs ls hz hP hS hl
  refine W.objInit hC.1 hC.2.1 hC.2.2.2.1 (hC.tb h1) (hC.tb h2) (hC.tb h3) rfl (by rw [hC.2.2.1]; exact hl.1) rfl hd hf ?_ (k p l e s m args below meth c b G D hC H locs ls hz hP hS hl)
  have := z_cat (b := b) (m := m) (pc := pc) (ls := ls) (r := (Value.ref i :: rest).map (zv b)) hcat
  omega

end ZW
end
section
/-! What the tables say of each field, call and constant that the code links -/
theorem tb_t {w : Cond} (i : Nat) (h : tables_1[i]? = some w) (hg : goodWord w = true) : w ∈ TB := TB_in (List.mem_append_right _ (List.mem_of_getElem? h)) hg
theorem tb_s {w : Cond} (i : Nat) (h : (k2_sels lw_privs)[i]? = some w) (hg : goodWord w = true) : w ∈ TB := TB_in (List.mem_append_left _ (List.mem_of_getElem? h)) hg
theorem nb_t {w : Cond} (i : Nat) (h : tables_1[i]? = some w) (hg : zIsNest w = true) : w ∈ NB := NB_in (List.mem_of_getElem? h) hg
theorem uw_rs : ∀ w ∈ u_ws "RecurrentSeries" zT_rs 9, w ∈ TB := by
  show ∀ w ∈ [u_lay "RecurrentSeries" zT_rs 0, u_lay "RecurrentSeries" zT_rs 1, u_lay "RecurrentSeries" zT_rs 2, u_lay "RecurrentSeries" zT_rs 3, u_lay "RecurrentSeries" zT_rs 4, u_lay "RecurrentSeries" zT_rs 5, u_lay "RecurrentSeries" zT_rs 6, u_lay "RecurrentSeries" zT_rs 7, u_lay "RecurrentSeries" zT_rs 8], w ∈ TB
  exact List.forall_mem_cons.mpr ⟨tb_t 105 (by decide +kernel) rfl, List.forall_mem_cons.mpr ⟨tb_t 107 (by decide +kernel) rfl, List.forall_mem_cons.mpr ⟨tb_t 109 (by decide +kernel) rfl, List.forall_mem_cons.mpr ⟨tb_t 111 (by decide +kernel) rfl, List.forall_mem_cons.mpr ⟨tb_t 113 (by decide +kernel) rfl, List.forall_mem_cons.mpr ⟨tb_t 115 (by decide +kernel) rfl, List.forall_mem_cons.mpr ⟨tb_t 117 (by decide +kernel) rfl, List.forall_mem_cons.mpr ⟨tb_t 119 (by decide +kernel) rfl, List.forall_mem_cons.mpr ⟨tb_t 121 (by decide +kernel) rfl, fun _ h => absurd h List.not_mem_nil⟩⟩⟩⟩⟩⟩⟩⟩⟩
theorem ft_rs : zFT 0 := ⟨_, zT_rs, 9, zY_rs, rfl, zY_rs_ok, zT_rs_nm⟩
theorem uw_se : ∀ w ∈ u_ws "RecurrentSeries$Series" zT_se 3, w ∈ TB := by
  show ∀ w ∈ [u_lay "RecurrentSeries$Series" zT_se 0, u_lay "RecurrentSeries$Series" zT_se 1, u_lay "RecurrentSeries$Series" zT_se 2], w ∈ TB
  exact List.forall_mem_cons.mpr ⟨tb_t 89 (by decide +kernel) rfl, List.forall_mem_cons.mpr ⟨tb_t 91 (by decide +kernel) rfl, List.forall_mem_cons.mpr ⟨tb_t 93 (by decide +kernel) rfl, fun _ h => absurd h List.not_mem_nil⟩⟩⟩
theorem ft_se : zFT 1 := ⟨_, zT_se, 3, zY_se, rfl, zY_se_ok, zT_se_nm⟩
theorem uw_fi : ∀ w ∈ u_ws "RecurrentSeries$Finder" zT_fi 3, w ∈ TB := by
  show ∀ w ∈ [u_lay "RecurrentSeries$Finder" zT_fi 0, u_lay "RecurrentSeries$Finder" zT_fi 1, u_lay "RecurrentSeries$Finder" zT_fi 2], w ∈ TB
  exact List.forall_mem_cons.mpr ⟨tb_t 28 (by decide +kernel) rfl, List.forall_mem_cons.mpr ⟨tb_t 30 (by decide +kernel) rfl, List.forall_mem_cons.mpr ⟨tb_t 32 (by decide +kernel) rfl, fun _ h => absurd h List.not_mem_nil⟩⟩⟩
theorem ft_fi : zFT 2 := ⟨_, zT_fi, 3, zY_fi, rfl, zY_fi_ok, zT_fi_nm⟩
theorem uw_sk : ∀ w ∈ u_ws "RecurrentSeries$Seeker" zT_sk 5, w ∈ TB := by
  show ∀ w ∈ [u_lay "RecurrentSeries$Seeker" zT_sk 0, u_lay "RecurrentSeries$Seeker" zT_sk 1, u_lay "RecurrentSeries$Seeker" zT_sk 2, u_lay "RecurrentSeries$Seeker" zT_sk 3, u_lay "RecurrentSeries$Seeker" zT_sk 4], w ∈ TB
  exact List.forall_mem_cons.mpr ⟨tb_t 47 (by decide +kernel) rfl, List.forall_mem_cons.mpr ⟨tb_t 49 (by decide +kernel) rfl, List.forall_mem_cons.mpr ⟨tb_t 51 (by decide +kernel) rfl, List.forall_mem_cons.mpr ⟨tb_t 53 (by decide +kernel) rfl, List.forall_mem_cons.mpr ⟨tb_t 55 (by decide +kernel) rfl, fun _ h => absurd h List.not_mem_nil⟩⟩⟩⟩⟩
theorem ft_sk : zFT 3 := ⟨_, zT_sk, 5, zY_sk, rfl, zY_sk_ok, zT_sk_nm⟩
theorem uw_dv : ∀ w ∈ u_ws "RecurrentSeries$Divider" zT_dv 2, w ∈ TB := by
  show ∀ w ∈ [u_lay "RecurrentSeries$Divider" zT_dv 0, u_lay "RecurrentSeries$Divider" zT_dv 1], w ∈ TB
  exact List.forall_mem_cons.mpr ⟨tb_t 66 (by decide +kernel) rfl, List.forall_mem_cons.mpr ⟨tb_t 68 (by decide +kernel) rfl, fun _ h => absurd h List.not_mem_nil⟩⟩
theorem ft_dv : zFT 4 := ⟨_, zT_dv, 2, zY_dv, rfl, zY_dv_ok, zT_dv_nm⟩
theorem uw_mo : ∀ w ∈ u_ws "RecurrentSeriesModel" zT_mo 13, w ∈ TB := by
  show ∀ w ∈ [u_lay "RecurrentSeriesModel" zT_mo 0, u_lay "RecurrentSeriesModel" zT_mo 1, u_lay "RecurrentSeriesModel" zT_mo 2, u_lay "RecurrentSeriesModel" zT_mo 3, u_lay "RecurrentSeriesModel" zT_mo 4, u_lay "RecurrentSeriesModel" zT_mo 5, u_lay "RecurrentSeriesModel" zT_mo 6, u_lay "RecurrentSeriesModel" zT_mo 7, u_lay "RecurrentSeriesModel" zT_mo 8, u_lay "RecurrentSeriesModel" zT_mo 9, u_lay "RecurrentSeriesModel" zT_mo 10, u_lay "RecurrentSeriesModel" zT_mo 11, u_lay "RecurrentSeriesModel" zT_mo 12], w ∈ TB
  exact List.forall_mem_cons.mpr ⟨tb_t 322 (by decide +kernel) rfl, List.forall_mem_cons.mpr ⟨tb_t 324 (by decide +kernel) rfl, List.forall_mem_cons.mpr ⟨tb_t 326 (by decide +kernel) rfl, List.forall_mem_cons.mpr ⟨tb_t 328 (by decide +kernel) rfl, List.forall_mem_cons.mpr ⟨tb_t 330 (by decide +kernel) rfl, List.forall_mem_cons.mpr ⟨tb_t 332 (by decide +kernel) rfl, List.forall_mem_cons.mpr ⟨tb_t 334 (by decide +kernel) rfl, List.forall_mem_cons.mpr ⟨tb_t 336 (by decide +kernel) rfl, List.forall_mem_cons.mpr ⟨tb_t 338 (by decide +kernel) rfl, List.forall_mem_cons.mpr ⟨tb_t 340 (by decide +kernel) rfl, List.forall_mem_cons.mpr ⟨tb_t 342 (by decide +kernel) rfl, List.forall_mem_cons.mpr ⟨tb_t 344 (by decide +kernel) rfl, List.forall_mem_cons.mpr ⟨tb_t 346 (by decide +kernel) rfl, fun _ h => absurd h List.not_mem_nil⟩⟩⟩⟩⟩⟩⟩⟩⟩⟩⟩⟩⟩
theorem ft_mo : zFT 5 := ⟨_, zT_mo, 13, zY_mo, rfl, zY_mo_ok, zT_mo_nm⟩
theorem fg_rs_11 : zFG "RecurrentSeries" 11 0 0 := ⟨_, zT_rs, 9, rfl, by decide, uw_rs, Or.inl (tb_t 96 (by decide +kernel) rfl)⟩
theorem fg_rs_15 : zFG "RecurrentSeries" 15 0 1 := ⟨_, zT_rs, 9, rfl, by decide, uw_rs, Or.inl (tb_t 97 (by decide +kernel) rfl)⟩
theorem fg_rs_19 : zFG "RecurrentSeries" 19 0 2 := ⟨_, zT_rs, 9, rfl, by decide, uw_rs, Or.inl (tb_t 98 (by decide +kernel) rfl)⟩
theorem fg_rs_22 : zFG "RecurrentSeries" 22 0 3 := ⟨_, zT_rs, 9, rfl, by decide, uw_rs, Or.inl (tb_t 99 (by decide +kernel) rfl)⟩
theorem fg_rs_28 : zFG "RecurrentSeries" 28 0 4 := ⟨_, zT_rs, 9, rfl, by decide, uw_rs, Or.inl (tb_t 100 (by decide +kernel) rfl)⟩
theorem fg_rs_35 : zFG "RecurrentSeries" 35 0 5 := ⟨_, zT_rs, 9, rfl, by decide, uw_rs, Or.inl (tb_t 101 (by decide +kernel) rfl)⟩
theorem fg_rs_42 : zFG "RecurrentSeries" 42 0 6 := ⟨_, zT_rs, 9, rfl, by decide, uw_rs, Or.inl (tb_t 102 (by decide +kernel) rfl)⟩
theorem fg_rs_47 : zFG "RecurrentSeries" 47 0 7 := ⟨_, zT_rs, 9, rfl, by decide, uw_rs, Or.inl (tb_t 103 (by decide +kernel) rfl)⟩
theorem fg_rs_51 : zFG "RecurrentSeries" 51 0 8 := ⟨_, zT_rs, 9, rfl, by decide, uw_rs, Or.inl (tb_t 104 (by decide +kernel) rfl)⟩
theorem fg_rs_78 : zFG "RecurrentSeries" 78 1 0 := ⟨_, zT_se, 3, rfl, by decide, uw_se, Or.inr ⟨"RecurrentSeries", nb_t 80 (by decide +kernel) rfl⟩⟩
theorem fg_rs_81 : zFG "RecurrentSeries" 81 1 2 := ⟨_, zT_se, 3, rfl, by decide, uw_se, Or.inr ⟨"RecurrentSeries", nb_t 88 (by decide +kernel) rfl⟩⟩
theorem fg_rs_99 : zFG "RecurrentSeries" 99 1 1 := ⟨_, zT_se, 3, rfl, by decide, uw_se, Or.inr ⟨"RecurrentSeries", nb_t 85 (by decide +kernel) rfl⟩⟩
theorem fg_mo_7 : zFG "RecurrentSeriesModel" 7 5 2 := ⟨_, zT_mo, 13, rfl, by decide, uw_mo, Or.inl (tb_t 311 (by decide +kernel) rfl)⟩
theorem fg_mo_13 : zFG "RecurrentSeriesModel" 13 5 3 := ⟨_, zT_mo, 13, rfl, by decide, uw_mo, Or.inl (tb_t 312 (by decide +kernel) rfl)⟩
theorem fg_mo_17 : zFG "RecurrentSeriesModel" 17 5 4 := ⟨_, zT_mo, 13, rfl, by decide, uw_mo, Or.inl (tb_t 313 (by decide +kernel) rfl)⟩
theorem fg_mo_20 : zFG "RecurrentSeriesModel" 20 5 5 := ⟨_, zT_mo, 13, rfl, by decide, uw_mo, Or.inl (tb_t 314 (by decide +kernel) rfl)⟩
theorem fg_mo_23 : zFG "RecurrentSeriesModel" 23 5 6 := ⟨_, zT_mo, 13, rfl, by decide, uw_mo, Or.inl (tb_t 315 (by decide +kernel) rfl)⟩
theorem fg_mo_26 : zFG "RecurrentSeriesModel" 26 5 7 := ⟨_, zT_mo, 13, rfl, by decide, uw_mo, Or.inl (tb_t 316 (by decide +kernel) rfl)⟩
theorem fg_mo_29 : zFG "RecurrentSeriesModel" 29 5 8 := ⟨_, zT_mo, 13, rfl, by decide, uw_mo, Or.inl (tb_t 317 (by decide +kernel) rfl)⟩
theorem fg_mo_32 : zFG "RecurrentSeriesModel" 32 5 9 := ⟨_, zT_mo, 13, rfl, by decide, uw_mo, Or.inl (tb_t 318 (by decide +kernel) rfl)⟩
theorem fg_mo_35 : zFG "RecurrentSeriesModel" 35 5 10 := ⟨_, zT_mo, 13, rfl, by decide, uw_mo, Or.inl (tb_t 319 (by decide +kernel) rfl)⟩
theorem fg_mo_38 : zFG "RecurrentSeriesModel" 38 5 11 := ⟨_, zT_mo, 13, rfl, by decide, uw_mo, Or.inl (tb_t 320 (by decide +kernel) rfl)⟩
theorem fg_mo_41 : zFG "RecurrentSeriesModel" 41 5 12 := ⟨_, zT_mo, 13, rfl, by decide, uw_mo, Or.inl (tb_t 321 (by decide +kernel) rfl)⟩
theorem fg_mo_48 : zFG "RecurrentSeriesModel" 48 5 0 := ⟨_, zT_mo, 13, rfl, by decide, uw_mo, Or.inl (tb_t 309 (by decide +kernel) rfl)⟩
theorem fg_mo_71 : zFG "RecurrentSeriesModel" 71 5 1 := ⟨_, zT_mo, 13, rfl, by decide, uw_mo, Or.inl (tb_t 310 (by decide +kernel) rfl)⟩
theorem fg_dv_9 : zFG "RecurrentSeries$Divider" 9 4 0 := ⟨_, zT_dv, 2, rfl, by decide, uw_dv, Or.inl (tb_t 64 (by decide +kernel) rfl)⟩
theorem fg_dv_15 : zFG "RecurrentSeries$Divider" 15 4 1 := ⟨_, zT_dv, 2, rfl, by decide, uw_dv, Or.inl (tb_t 65 (by decide +kernel) rfl)⟩
theorem fg_dv_22 : zFG "RecurrentSeries$Divider" 22 1 0 := ⟨_, zT_se, 3, rfl, by decide, uw_se, Or.inr ⟨"RecurrentSeries", nb_t 78 (by decide +kernel) rfl⟩⟩
theorem fg_dv_32 : zFG "RecurrentSeries$Divider" 32 1 1 := ⟨_, zT_se, 3, rfl, by decide, uw_se, Or.inr ⟨"RecurrentSeries", nb_t 84 (by decide +kernel) rfl⟩⟩
theorem fg_fi_9 : zFG "RecurrentSeries$Finder" 9 2 0 := ⟨_, zT_fi, 3, rfl, by decide, uw_fi, Or.inl (tb_t 25 (by decide +kernel) rfl)⟩
theorem fg_fi_15 : zFG "RecurrentSeries$Finder" 15 2 1 := ⟨_, zT_fi, 3, rfl, by decide, uw_fi, Or.inl (tb_t 26 (by decide +kernel) rfl)⟩
theorem fg_fi_18 : zFG "RecurrentSeries$Finder" 18 2 2 := ⟨_, zT_fi, 3, rfl, by decide, uw_fi, Or.inl (tb_t 27 (by decide +kernel) rfl)⟩
theorem fg_fi_49 : zFG "RecurrentSeries$Finder" 49 1 0 := ⟨_, zT_se, 3, rfl, by decide, uw_se, Or.inr ⟨"RecurrentSeries", nb_t 79 (by decide +kernel) rfl⟩⟩
theorem fg_fi_55 : zFG "RecurrentSeries$Finder" 55 1 1 := ⟨_, zT_se, 3, rfl, by decide, uw_se, Or.inr ⟨"RecurrentSeries", nb_t 82 (by decide +kernel) rfl⟩⟩
theorem fg_sk_9 : zFG "RecurrentSeries$Seeker" 9 3 0 := ⟨_, zT_sk, 5, rfl, by decide, uw_sk, Or.inl (tb_t 42 (by decide +kernel) rfl)⟩
theorem fg_sk_15 : zFG "RecurrentSeries$Seeker" 15 3 1 := ⟨_, zT_sk, 5, rfl, by decide, uw_sk, Or.inl (tb_t 43 (by decide +kernel) rfl)⟩
theorem fg_sk_18 : zFG "RecurrentSeries$Seeker" 18 3 2 := ⟨_, zT_sk, 5, rfl, by decide, uw_sk, Or.inl (tb_t 44 (by decide +kernel) rfl)⟩
theorem fg_sk_21 : zFG "RecurrentSeries$Seeker" 21 3 3 := ⟨_, zT_sk, 5, rfl, by decide, uw_sk, Or.inl (tb_t 45 (by decide +kernel) rfl)⟩
theorem fg_sk_24 : zFG "RecurrentSeries$Seeker" 24 3 4 := ⟨_, zT_sk, 5, rfl, by decide, uw_sk, Or.inl (tb_t 46 (by decide +kernel) rfl)⟩
theorem fg_sk_31 : zFG "RecurrentSeries$Seeker" 31 1 0 := ⟨_, zT_se, 3, rfl, by decide, uw_se, Or.inr ⟨"RecurrentSeries", nb_t 77 (by decide +kernel) rfl⟩⟩
theorem fg_sk_41 : zFG "RecurrentSeries$Seeker" 41 1 1 := ⟨_, zT_se, 3, rfl, by decide, uw_se, Or.inr ⟨"RecurrentSeries", nb_t 83 (by decide +kernel) rfl⟩⟩
theorem fg_sk_50 : zFG "RecurrentSeries$Seeker" 50 1 2 := ⟨_, zT_se, 3, rfl, by decide, uw_se, Or.inr ⟨"RecurrentSeries", nb_t 87 (by decide +kernel) rfl⟩⟩
theorem fg_se_9 : zFG "RecurrentSeries$Series" 9 1 1 := ⟨_, zT_se, 3, rfl, by decide, uw_se, Or.inl (tb_t 81 (by decide +kernel) rfl)⟩
theorem fg_se_15 : zFG "RecurrentSeries$Series" 15 1 2 := ⟨_, zT_se, 3, rfl, by decide, uw_se, Or.inl (tb_t 86 (by decide +kernel) rfl)⟩
theorem fg_se_18 : zFG "RecurrentSeries$Series" 18 1 0 := ⟨_, zT_se, 3, rfl, by decide, uw_se, Or.inl (tb_t 76 (by decide +kernel) rfl)⟩
theorem fk_rs_11 : zFk 0 0 true "RecurrentSeries" (zY_rs 0) := fun C T N h => by cases h; exact ⟨rfl, fun _ => rfl, zY_rs_ok 0 (by decide)⟩
theorem fl_rs_11 : ∀ (C : String) (T : u_T) (N : Nat), zCl[0]? = some (C, T, N) → Cond.fieldLink "RecurrentSeries" 11 (T 0).1 (T 0).2.1 (T 0).2.2.1 ∈ TB := fun C T N h => by cases h; exact tb_t 96 (by decide +kernel) rfl
theorem fk_rs_15 : zFk 0 1 true "RecurrentSeries" (zY_rs 1) := fun C T N h => by cases h; exact ⟨rfl, fun _ => rfl, zY_rs_ok 1 (by decide)⟩
theorem fl_rs_15 : ∀ (C : String) (T : u_T) (N : Nat), zCl[0]? = some (C, T, N) → Cond.fieldLink "RecurrentSeries" 15 (T 1).1 (T 1).2.1 (T 1).2.2.1 ∈ TB := fun C T N h => by cases h; exact tb_t 97 (by decide +kernel) rfl
theorem fk_rs_19 : zFk 0 2 true "RecurrentSeries" (zY_rs 2) := fun C T N h => by cases h; exact ⟨rfl, fun _ => rfl, zY_rs_ok 2 (by decide)⟩
theorem fl_rs_19 : ∀ (C : String) (T : u_T) (N : Nat), zCl[0]? = some (C, T, N) → Cond.fieldLink "RecurrentSeries" 19 (T 2).1 (T 2).2.1 (T 2).2.2.1 ∈ TB := fun C T N h => by cases h; exact tb_t 98 (by decide +kernel) rfl
theorem fk_rs_22 : zFk 0 3 true "RecurrentSeries" (zY_rs 3) := fun C T N h => by cases h; exact ⟨rfl, fun _ => rfl, zY_rs_ok 3 (by decide)⟩
theorem fl_rs_22 : ∀ (C : String) (T : u_T) (N : Nat), zCl[0]? = some (C, T, N) → Cond.fieldLink "RecurrentSeries" 22 (T 3).1 (T 3).2.1 (T 3).2.2.1 ∈ TB := fun C T N h => by cases h; exact tb_t 99 (by decide +kernel) rfl
theorem fk_rs_28 : zFk 0 4 true "RecurrentSeries" (zY_rs 4) := fun C T N h => by cases h; exact ⟨rfl, fun _ => rfl, zY_rs_ok 4 (by decide)⟩
theorem fl_rs_28 : ∀ (C : String) (T : u_T) (N : Nat), zCl[0]? = some (C, T, N) → Cond.fieldLink "RecurrentSeries" 28 (T 4).1 (T 4).2.1 (T 4).2.2.1 ∈ TB := fun C T N h => by cases h; exact tb_t 100 (by decide +kernel) rfl
theorem fk_rs_35 : zFk 0 5 true "RecurrentSeries" (zY_rs 5) := fun C T N h => by cases h; exact ⟨rfl, fun _ => rfl, zY_rs_ok 5 (by decide)⟩
theorem fl_rs_35 : ∀ (C : String) (T : u_T) (N : Nat), zCl[0]? = some (C, T, N) → Cond.fieldLink "RecurrentSeries" 35 (T 5).1 (T 5).2.1 (T 5).2.2.1 ∈ TB := fun C T N h => by cases h; exact tb_t 101 (by decide +kernel) rfl
theorem fk_rs_42 : zFk 0 6 true "RecurrentSeries" (zY_rs 6) := fun C T N h => by cases h; exact ⟨rfl, fun _ => rfl, zY_rs_ok 6 (by decide)⟩
theorem fl_rs_42 : ∀ (C : String) (T : u_T) (N : Nat), zCl[0]? = some (C, T, N) → Cond.fieldLink "RecurrentSeries" 42 (T 6).1 (T 6).2.1 (T 6).2.2.1 ∈ TB := fun C T N h => by cases h; exact tb_t 102 (by decide +kernel) rfl
theorem fk_rs_47 : zFk 0 7 false "" (zY_rs 7) := fun C T N h => by cases h; exact ⟨rfl, fun h => (by cases h), zY_rs_ok 7 (by decide)⟩
theorem fk_rs_51 : zFk 0 8 false "" (zY_rs 8) := fun C T N h => by cases h; exact ⟨rfl, fun h => (by cases h), zY_rs_ok 8 (by decide)⟩
theorem fk_dv_9 : zFk 4 0 true "RecurrentSeries$Divider" (zY_dv 0) := fun C T N h => by cases h; exact ⟨rfl, fun _ => rfl, zY_dv_ok 0 (by decide)⟩
theorem fl_dv_9 : ∀ (C : String) (T : u_T) (N : Nat), zCl[4]? = some (C, T, N) → Cond.fieldLink "RecurrentSeries$Divider" 9 (T 0).1 (T 0).2.1 (T 0).2.2.1 ∈ TB := fun C T N h => by cases h; exact tb_t 64 (by decide +kernel) rfl
theorem fk_dv_15 : zFk 4 1 true "RecurrentSeries$Divider" (zY_dv 1) := fun C T N h => by cases h; exact ⟨rfl, fun _ => rfl, zY_dv_ok 1 (by decide)⟩
theorem fl_dv_15 : ∀ (C : String) (T : u_T) (N : Nat), zCl[4]? = some (C, T, N) → Cond.fieldLink "RecurrentSeries$Divider" 15 (T 1).1 (T 1).2.1 (T 1).2.2.1 ∈ TB := fun C T N h => by cases h; exact tb_t 65 (by decide +kernel) rfl
theorem fk_fi_9 : zFk 2 0 false "" (zY_fi 0) := fun C T N h => by cases h; exact ⟨rfl, fun h => (by cases h), zY_fi_ok 0 (by decide)⟩
theorem fk_fi_15 : zFk 2 1 false "" (zY_fi 1) := fun C T N h => by cases h; exact ⟨rfl, fun h => (by cases h), zY_fi_ok 1 (by decide)⟩
theorem fk_fi_18 : zFk 2 2 false "" (zY_fi 2) := fun C T N h => by cases h; exact ⟨rfl, fun h => (by cases h), zY_fi_ok 2 (by decide)⟩
theorem fk_fi_49 : zFk 1 0 false "" (zY_se 0) := fun C T N h => by cases h; exact ⟨rfl, fun h => (by cases h), zY_se_ok 0 (by decide)⟩
theorem fk_sk_9 : zFk 3 0 false "" (zY_sk 0) := fun C T N h => by cases h; exact ⟨rfl, fun h => (by cases h), zY_sk_ok 0 (by decide)⟩
theorem fk_sk_15 : zFk 3 1 false "" (zY_sk 1) := fun C T N h => by cases h; exact ⟨rfl, fun h => (by cases h), zY_sk_ok 1 (by decide)⟩
theorem fk_sk_18 : zFk 3 2 false "" (zY_sk 2) := fun C T N h => by cases h; exact ⟨rfl, fun h => (by cases h), zY_sk_ok 2 (by decide)⟩
theorem fk_sk_21 : zFk 3 3 false "" (zY_sk 3) := fun C T N h => by cases h; exact ⟨rfl, fun h => (by cases h), zY_sk_ok 3 (by decide)⟩
theorem fk_sk_24 : zFk 3 4 true "RecurrentSeries$Seeker" (zY_sk 4) := fun C T N h => by cases h; exact ⟨rfl, fun _ => rfl, zY_sk_ok 4 (by decide)⟩
theorem fl_sk_24 : ∀ (C : String) (T : u_T) (N : Nat), zCl[3]? = some (C, T, N) → Cond.fieldLink "RecurrentSeries$Seeker" 24 (T 4).1 (T 4).2.1 (T 4).2.2.1 ∈ TB := fun C T N h => by cases h; exact tb_t 46 (by decide +kernel) rfl
theorem fk_se_9 : zFk 1 1 true "RecurrentSeries$Series" (zY_se 1) := fun C T N h => by cases h; exact ⟨rfl, fun _ => rfl, zY_se_ok 1 (by decide)⟩
theorem fl_se_9 : ∀ (C : String) (T : u_T) (N : Nat), zCl[1]? = some (C, T, N) → Cond.fieldLink "RecurrentSeries$Series" 9 (T 1).1 (T 1).2.1 (T 1).2.2.1 ∈ TB := fun C T N h => by cases h; exact tb_t 81 (by decide +kernel) rfl
theorem fk_se_15 : zFk 1 2 true "RecurrentSeries$Series" (zY_se 2) := fun C T N h => by cases h; exact ⟨rfl, fun _ => rfl, zY_se_ok 2 (by decide)⟩
theorem fl_se_15 : ∀ (C : String) (T : u_T) (N : Nat), zCl[1]? = some (C, T, N) → Cond.fieldLink "RecurrentSeries$Series" 15 (T 2).1 (T 2).2.1 (T 2).2.2.1 ∈ TB := fun C T N h => by cases h; exact tb_t 86 (by decide +kernel) rfl
theorem fk_mo_7 : zFk 5 2 true "RecurrentSeriesModel" (zY_mo 2) := fun C T N h => by cases h; exact ⟨rfl, fun _ => rfl, zY_mo_ok 2 (by decide)⟩
theorem fl_mo_7 : ∀ (C : String) (T : u_T) (N : Nat), zCl[5]? = some (C, T, N) → Cond.fieldLink "RecurrentSeriesModel" 7 (T 2).1 (T 2).2.1 (T 2).2.2.1 ∈ TB := fun C T N h => by cases h; exact tb_t 311 (by decide +kernel) rfl
theorem fk_mo_13 : zFk 5 3 true "RecurrentSeriesModel" (zY_mo 3) := fun C T N h => by cases h; exact ⟨rfl, fun _ => rfl, zY_mo_ok 3 (by decide)⟩
theorem fl_mo_13 : ∀ (C : String) (T : u_T) (N : Nat), zCl[5]? = some (C, T, N) → Cond.fieldLink "RecurrentSeriesModel" 13 (T 3).1 (T 3).2.1 (T 3).2.2.1 ∈ TB := fun C T N h => by cases h; exact tb_t 312 (by decide +kernel) rfl
theorem fk_mo_17 : zFk 5 4 true "RecurrentSeriesModel" (zY_mo 4) := fun C T N h => by cases h; exact ⟨rfl, fun _ => rfl, zY_mo_ok 4 (by decide)⟩
theorem fl_mo_17 : ∀ (C : String) (T : u_T) (N : Nat), zCl[5]? = some (C, T, N) → Cond.fieldLink "RecurrentSeriesModel" 17 (T 4).1 (T 4).2.1 (T 4).2.2.1 ∈ TB := fun C T N h => by cases h; exact tb_t 313 (by decide +kernel) rfl
theorem fk_mo_20 : zFk 5 5 true "RecurrentSeriesModel" (zY_mo 5) := fun C T N h => by cases h; exact ⟨rfl, fun _ => rfl, zY_mo_ok 5 (by decide)⟩
theorem fl_mo_20 : ∀ (C : String) (T : u_T) (N : Nat), zCl[5]? = some (C, T, N) → Cond.fieldLink "RecurrentSeriesModel" 20 (T 5).1 (T 5).2.1 (T 5).2.2.1 ∈ TB := fun C T N h => by cases h; exact tb_t 314 (by decide +kernel) rfl
theorem fk_mo_23 : zFk 5 6 true "RecurrentSeriesModel" (zY_mo 6) := fun C T N h => by cases h; exact ⟨rfl, fun _ => rfl, zY_mo_ok 6 (by decide)⟩
theorem fl_mo_23 : ∀ (C : String) (T : u_T) (N : Nat), zCl[5]? = some (C, T, N) → Cond.fieldLink "RecurrentSeriesModel" 23 (T 6).1 (T 6).2.1 (T 6).2.2.1 ∈ TB := fun C T N h => by cases h; exact tb_t 315 (by decide +kernel) rfl
theorem fk_mo_26 : zFk 5 7 true "RecurrentSeriesModel" (zY_mo 7) := fun C T N h => by cases h; exact ⟨rfl, fun _ => rfl, zY_mo_ok 7 (by decide)⟩
theorem fl_mo_26 : ∀ (C : String) (T : u_T) (N : Nat), zCl[5]? = some (C, T, N) → Cond.fieldLink "RecurrentSeriesModel" 26 (T 7).1 (T 7).2.1 (T 7).2.2.1 ∈ TB := fun C T N h => by cases h; exact tb_t 316 (by decide +kernel) rfl
theorem fk_mo_29 : zFk 5 8 true "RecurrentSeriesModel" (zY_mo 8) := fun C T N h => by cases h; exact ⟨rfl, fun _ => rfl, zY_mo_ok 8 (by decide)⟩
theorem fl_mo_29 : ∀ (C : String) (T : u_T) (N : Nat), zCl[5]? = some (C, T, N) → Cond.fieldLink "RecurrentSeriesModel" 29 (T 8).1 (T 8).2.1 (T 8).2.2.1 ∈ TB := fun C T N h => by cases h; exact tb_t 317 (by decide +kernel) rfl
theorem fk_mo_32 : zFk 5 9 true "RecurrentSeriesModel" (zY_mo 9) := fun C T N h => by cases h; exact ⟨rfl, fun _ => rfl, zY_mo_ok 9 (by decide)⟩
theorem fl_mo_32 : ∀ (C : String) (T : u_T) (N : Nat), zCl[5]? = some (C, T, N) → Cond.fieldLink "RecurrentSeriesModel" 32 (T 9).1 (T 9).2.1 (T 9).2.2.1 ∈ TB := fun C T N h => by cases h; exact tb_t 318 (by decide +kernel) rfl
theorem fk_mo_35 : zFk 5 10 true "RecurrentSeriesModel" (zY_mo 10) := fun C T N h => by cases h; exact ⟨rfl, fun _ => rfl, zY_mo_ok 10 (by decide)⟩
theorem fl_mo_35 : ∀ (C : String) (T : u_T) (N : Nat), zCl[5]? = some (C, T, N) → Cond.fieldLink "RecurrentSeriesModel" 35 (T 10).1 (T 10).2.1 (T 10).2.2.1 ∈ TB := fun C T N h => by cases h; exact tb_t 319 (by decide +kernel) rfl
theorem fk_mo_38 : zFk 5 11 true "RecurrentSeriesModel" (zY_mo 11) := fun C T N h => by cases h; exact ⟨rfl, fun _ => rfl, zY_mo_ok 11 (by decide)⟩
theorem fl_mo_38 : ∀ (C : String) (T : u_T) (N : Nat), zCl[5]? = some (C, T, N) → Cond.fieldLink "RecurrentSeriesModel" 38 (T 11).1 (T 11).2.1 (T 11).2.2.1 ∈ TB := fun C T N h => by cases h; exact tb_t 320 (by decide +kernel) rfl
theorem fk_mo_41 : zFk 5 12 true "RecurrentSeriesModel" (zY_mo 12) := fun C T N h => by cases h; exact ⟨rfl, fun _ => rfl, zY_mo_ok 12 (by decide)⟩
theorem fl_mo_41 : ∀ (C : String) (T : u_T) (N : Nat), zCl[5]? = some (C, T, N) → Cond.fieldLink "RecurrentSeriesModel" 41 (T 12).1 (T 12).2.1 (T 12).2.2.1 ∈ TB := fun C T N h => by cases h; exact tb_t 321 (by decide +kernel) rfl
theorem fk_mo_48 : zFk 5 0 false "" (zY_mo 0) := fun C T N h => by cases h; exact ⟨rfl, fun h => (by cases h), zY_mo_ok 0 (by decide)⟩
theorem fk_mo_71 : zFk 5 1 false "" (zY_mo 1) := fun C T N h => by cases h; exact ⟨rfl, fun h => (by cases h), zY_mo_ok 1 (by decide)⟩
theorem ck_rs_init : zCk m_rs_init 0 := ⟨tb_t 13 (by decide +kernel) rfl, tb_t 1 (by decide +kernel) rfl, by decide, by decide, by decide +kernel⟩
theorem im_rs_init : Cond.instanceMethod (mY m_rs_init) ∈ TB := tb_t 12 (by decide +kernel) rfl
theorem ck_rs_give : zCk m_rs_give 1 := ⟨tb_t 127 (by decide +kernel) rfl, tb_t 1 (by decide +kernel) rfl, by decide, by decide, by decide +kernel⟩
theorem im_rs_give : Cond.instanceMethod (mY m_rs_give) ∈ TB := tb_t 125 (by decide +kernel) rfl
theorem sl_rs_give : Cond.selects "RecurrentSeries" (mY m_rs_give) (mY m_rs_give) ∈ TB := tb_t 126 (by decide +kernel) rfl
theorem ck_rs_clear : zCk m_rs_clear 0 := ⟨tb_t 135 (by decide +kernel) rfl, tb_t 1 (by decide +kernel) rfl, by decide, by decide, by decide +kernel⟩
theorem im_rs_clear : Cond.instanceMethod (mY m_rs_clear) ∈ TB := tb_t 133 (by decide +kernel) rfl
theorem sl_rs_clear : Cond.selects "RecurrentSeries" (mY m_rs_clear) (mY m_rs_clear) ∈ TB := tb_t 134 (by decide +kernel) rfl
theorem ck_rs_leaf : zCk m_rs_leaf 1 := ⟨tb_t 139 (by decide +kernel) rfl, tb_t 1 (by decide +kernel) rfl, by decide, by decide, by decide +kernel⟩
theorem im_rs_leaf : Cond.instanceMethod (mY m_rs_leaf) ∈ TB := tb_t 137 (by decide +kernel) rfl
theorem sl_rs_leaf : Cond.selects "RecurrentSeries" (mY m_rs_leaf) (mY m_rs_leaf) ∈ TB := tb_t 138 (by decide +kernel) rfl
theorem ck_rs_combine : zCk m_rs_combine 4 := ⟨tb_t 196 (by decide +kernel) rfl, tb_t 1 (by decide +kernel) rfl, by decide, by decide, by decide +kernel⟩
theorem im_rs_combine : Cond.instanceMethod (mY m_rs_combine) ∈ TB := tb_t 194 (by decide +kernel) rfl
theorem sl_rs_combine : Cond.selects "RecurrentSeries" (mY m_rs_combine) (mY m_rs_combine) ∈ TB := tb_t 195 (by decide +kernel) rfl
theorem ck_rs_product : zCk m_rs_product 2 := ⟨tb_t 206 (by decide +kernel) rfl, tb_t 1 (by decide +kernel) rfl, by decide, by decide, by decide +kernel⟩
theorem im_rs_product : Cond.instanceMethod (mY m_rs_product) ∈ TB := tb_t 204 (by decide +kernel) rfl
theorem sl_rs_product : Cond.selects "RecurrentSeries" (mY m_rs_product) (mY m_rs_product) ∈ TB := tb_t 205 (by decide +kernel) rfl
theorem ck_rs_pairwise : zCk m_rs_pairwise 2 := ⟨tb_t 210 (by decide +kernel) rfl, tb_t 1 (by decide +kernel) rfl, by decide, by decide, by decide +kernel⟩
theorem im_rs_pairwise : Cond.instanceMethod (mY m_rs_pairwise) ∈ TB := tb_t 208 (by decide +kernel) rfl
theorem sl_rs_pairwise : Cond.selects "RecurrentSeries" (mY m_rs_pairwise) (mY m_rs_pairwise) ∈ TB := tb_t 209 (by decide +kernel) rfl
theorem ck_rs_derivative : zCk m_rs_derivative 1 := ⟨tb_t 214 (by decide +kernel) rfl, tb_t 1 (by decide +kernel) rfl, by decide, by decide, by decide +kernel⟩
theorem im_rs_derivative : Cond.instanceMethod (mY m_rs_derivative) ∈ TB := tb_t 212 (by decide +kernel) rfl
theorem sl_rs_derivative : Cond.selects "RecurrentSeries" (mY m_rs_derivative) (mY m_rs_derivative) ∈ TB := tb_t 213 (by decide +kernel) rfl
theorem ck_rs_tail : zCk m_rs_tail 1 := ⟨tb_t 218 (by decide +kernel) rfl, tb_t 1 (by decide +kernel) rfl, by decide, by decide, by decide +kernel⟩
theorem im_rs_tail : Cond.instanceMethod (mY m_rs_tail) ∈ TB := tb_t 216 (by decide +kernel) rfl
theorem sl_rs_tail : Cond.selects "RecurrentSeries" (mY m_rs_tail) (mY m_rs_tail) ∈ TB := tb_t 217 (by decide +kernel) rfl
theorem ck_rs_delay : zCk m_rs_delay 1 := ⟨tb_t 222 (by decide +kernel) rfl, tb_t 1 (by decide +kernel) rfl, by decide, by decide, by decide +kernel⟩
theorem im_rs_delay : Cond.instanceMethod (mY m_rs_delay) ∈ TB := tb_t 220 (by decide +kernel) rfl
theorem sl_rs_delay : Cond.selects "RecurrentSeries" (mY m_rs_delay) (mY m_rs_delay) ∈ TB := tb_t 221 (by decide +kernel) rfl
theorem ck_rs_sums : zCk m_rs_sums 1 := ⟨tb_t 226 (by decide +kernel) rfl, tb_t 1 (by decide +kernel) rfl, by decide, by decide, by decide +kernel⟩
theorem im_rs_sums : Cond.instanceMethod (mY m_rs_sums) ∈ TB := tb_t 224 (by decide +kernel) rfl
theorem sl_rs_sums : Cond.selects "RecurrentSeries" (mY m_rs_sums) (mY m_rs_sums) ∈ TB := tb_t 225 (by decide +kernel) rfl
theorem ck_rs_section : zCk m_rs_section 3 := ⟨tb_t 231 (by decide +kernel) rfl, tb_t 1 (by decide +kernel) rfl, by decide, by decide, by decide +kernel⟩
theorem im_rs_section : Cond.instanceMethod (mY m_rs_section) ∈ TB := tb_t 229 (by decide +kernel) rfl
theorem sl_rs_section : Cond.selects "RecurrentSeries" (mY m_rs_section) (mY m_rs_section) ∈ TB := tb_t 230 (by decide +kernel) rfl
theorem ck_rs_spread : zCk m_rs_spread 2 := ⟨tb_t 235 (by decide +kernel) rfl, tb_t 1 (by decide +kernel) rfl, by decide, by decide, by decide +kernel⟩
theorem im_rs_spread : Cond.instanceMethod (mY m_rs_spread) ∈ TB := tb_t 233 (by decide +kernel) rfl
theorem sl_rs_spread : Cond.selects "RecurrentSeries" (mY m_rs_spread) (mY m_rs_spread) ∈ TB := tb_t 234 (by decide +kernel) rfl
theorem ck_rs_forget : zCk m_rs_forget 0 := ⟨tb_t 239 (by decide +kernel) rfl, tb_t 1 (by decide +kernel) rfl, by decide, by decide, by decide +kernel⟩
theorem im_rs_forget : Cond.instanceMethod (mY m_rs_forget) ∈ TB := tb_t 237 (by decide +kernel) rfl
theorem sl_rs_forget : Cond.selects "RecurrentSeries" (mY m_rs_forget) (mY m_rs_forget) ∈ TB := tb_t 238 (by decide +kernel) rfl
theorem ck_rs_count : zCk m_rs_count 0 := ⟨tb_t 243 (by decide +kernel) rfl, tb_t 1 (by decide +kernel) rfl, by decide, by decide, by decide +kernel⟩
theorem im_rs_count : Cond.instanceMethod (mY m_rs_count) ∈ TB := tb_t 241 (by decide +kernel) rfl
theorem sl_rs_count : Cond.selects "RecurrentSeries" (mY m_rs_count) (mY m_rs_count) ∈ TB := tb_t 242 (by decide +kernel) rfl
theorem ck_rs_order : zCk m_rs_order 1 := ⟨tb_t 247 (by decide +kernel) rfl, tb_t 1 (by decide +kernel) rfl, by decide, by decide, by decide +kernel⟩
theorem im_rs_order : Cond.instanceMethod (mY m_rs_order) ∈ TB := tb_t 245 (by decide +kernel) rfl
theorem sl_rs_order : Cond.selects "RecurrentSeries" (mY m_rs_order) (mY m_rs_order) ∈ TB := tb_t 246 (by decide +kernel) rfl
theorem ck_rs_coefficient : zCk m_rs_coefficient 2 := ⟨tb_t 251 (by decide +kernel) rfl, tb_t 1 (by decide +kernel) rfl, by decide, by decide, by decide +kernel⟩
theorem im_rs_coefficient : Cond.instanceMethod (mY m_rs_coefficient) ∈ TB := tb_t 249 (by decide +kernel) rfl
theorem sl_rs_coefficient : Cond.selects "RecurrentSeries" (mY m_rs_coefficient) (mY m_rs_coefficient) ∈ TB := tb_t 250 (by decide +kernel) rfl
theorem ck_rs_term : zCk m_rs_term 2 := ⟨tb_t 255 (by decide +kernel) rfl, tb_t 1 (by decide +kernel) rfl, by decide, by decide, by decide +kernel⟩
theorem im_rs_term : Cond.instanceMethod (mY m_rs_term) ∈ TB := tb_t 253 (by decide +kernel) rfl
theorem sl_rs_term : Cond.selects "RecurrentSeries" (mY m_rs_term) (mY m_rs_term) ∈ TB := tb_t 254 (by decide +kernel) rfl
theorem ck_rs_differ : zCk m_rs_differ 2 := ⟨tb_t 281 (by decide +kernel) rfl, tb_t 1 (by decide +kernel) rfl, by decide, by decide, by decide +kernel⟩
theorem im_rs_differ : Cond.instanceMethod (mY m_rs_differ) ∈ TB := tb_t 279 (by decide +kernel) rfl
theorem sl_rs_differ : Cond.selects "RecurrentSeries" (mY m_rs_differ) (mY m_rs_differ) ∈ TB := tb_t 280 (by decide +kernel) rfl
theorem ck_rs_obeys : zCk m_rs_obeys 1 := ⟨tb_t 285 (by decide +kernel) rfl, tb_t 1 (by decide +kernel) rfl, by decide, by decide, by decide +kernel⟩
theorem im_rs_obeys : Cond.instanceMethod (mY m_rs_obeys) ∈ TB := tb_t 283 (by decide +kernel) rfl
theorem sl_rs_obeys : Cond.selects "RecurrentSeries" (mY m_rs_obeys) (mY m_rs_obeys) ∈ TB := tb_t 284 (by decide +kernel) rfl
theorem ck_rs_shared : zCk m_rs_shared 2 := ⟨tb_t 289 (by decide +kernel) rfl, tb_t 1 (by decide +kernel) rfl, by decide, by decide, by decide +kernel⟩
theorem im_rs_shared : Cond.instanceMethod (mY m_rs_shared) ∈ TB := tb_t 287 (by decide +kernel) rfl
theorem sl_rs_shared : Cond.selects "RecurrentSeries" (mY m_rs_shared) (mY m_rs_shared) ∈ TB := tb_t 288 (by decide +kernel) rfl
theorem ck_rs_isListed : zCk m_rs_isListed 1 := ⟨tb_t 200 (by decide +kernel) rfl, tb_t 1 (by decide +kernel) rfl, by decide, by decide, by decide +kernel⟩
theorem im_rs_isListed : Cond.instanceMethod (mY m_rs_isListed) ∈ TB := tb_t 199 (by decide +kernel) rfl
theorem sl_rs_isListed : Cond.selects "RecurrentSeries" (mY m_rs_isListed) (mY m_rs_isListed) ∈ TB := tb_s 5 (by decide +kernel) rfl
theorem ck_rs_numberFor : zCk m_rs_numberFor 1 := ⟨tb_t 143 (by decide +kernel) rfl, tb_t 1 (by decide +kernel) rfl, by decide, by decide, by decide +kernel⟩
theorem im_rs_numberFor : Cond.instanceMethod (mY m_rs_numberFor) ∈ TB := tb_t 142 (by decide +kernel) rfl
theorem sl_rs_numberFor : Cond.selects "RecurrentSeries" (mY m_rs_numberFor) (mY m_rs_numberFor) ∈ TB := tb_s 0 (by decide +kernel) rfl
theorem ck_rs_othersFit : zCk m_rs_othersFit 1 := ⟨tb_t 147 (by decide +kernel) rfl, tb_t 1 (by decide +kernel) rfl, by decide, by decide, by decide +kernel⟩
theorem im_rs_othersFit : Cond.instanceMethod (mY m_rs_othersFit) ∈ TB := tb_t 146 (by decide +kernel) rfl
theorem sl_rs_othersFit : Cond.selects "RecurrentSeries" (mY m_rs_othersFit) (mY m_rs_othersFit) ∈ TB := tb_s 1 (by decide +kernel) rfl
theorem ck_rs_enlist : zCk m_rs_enlist 1 := ⟨tb_t 157 (by decide +kernel) rfl, tb_t 1 (by decide +kernel) rfl, by decide, by decide, by decide +kernel⟩
theorem im_rs_enlist : Cond.instanceMethod (mY m_rs_enlist) ∈ TB := tb_t 156 (by decide +kernel) rfl
theorem sl_rs_enlist : Cond.selects "RecurrentSeries" (mY m_rs_enlist) (mY m_rs_enlist) ∈ TB := tb_s 2 (by decide +kernel) rfl
theorem ck_mo_init : zCk m_mo_init 0 := ⟨tb_t 307 (by decide +kernel) rfl, tb_t 6 (by decide +kernel) rfl, by decide, by decide, by decide +kernel⟩
theorem im_mo_init : Cond.instanceMethod (mY m_mo_init) ∈ TB := tb_t 306 (by decide +kernel) rfl
theorem ck_mo_number : zCk m_mo_number 1 := ⟨tb_t 356 (by decide +kernel) rfl, tb_t 6 (by decide +kernel) rfl, by decide, by decide, by decide +kernel⟩
theorem st_mo_number : Cond.static (mY m_mo_number) ∈ TB := tb_t 355 (by decide +kernel) rfl
theorem ck_mo_inverse : zCk m_mo_inverse 1 := ⟨tb_t 388 (by decide +kernel) rfl, tb_t 6 (by decide +kernel) rfl, by decide, by decide, by decide +kernel⟩
theorem st_mo_inverse : Cond.static (mY m_mo_inverse) ∈ TB := tb_t 387 (by decide +kernel) rfl
theorem ck_mo_isIn : zCk m_mo_isIn 1 := ⟨tb_t 401 (by decide +kernel) rfl, tb_t 6 (by decide +kernel) rfl, by decide, by decide, by decide +kernel⟩
theorem im_mo_isIn : Cond.instanceMethod (mY m_mo_isIn) ∈ TB := tb_t 400 (by decide +kernel) rfl
theorem sl_mo_isIn : Cond.selects "RecurrentSeriesModel" (mY m_mo_isIn) (mY m_mo_isIn) ∈ TB := tb_s 15 (by decide +kernel) rfl
theorem ck_mo_expand : zCk m_mo_expand 3 := ⟨tb_t 409 (by decide +kernel) rfl, tb_t 6 (by decide +kernel) rfl, by decide, by decide, by decide +kernel⟩
theorem im_mo_expand : Cond.instanceMethod (mY m_mo_expand) ∈ TB := tb_t 408 (by decide +kernel) rfl
theorem sl_mo_expand : Cond.selects "RecurrentSeriesModel" (mY m_mo_expand) (mY m_mo_expand) ∈ TB := tb_s 17 (by decide +kernel) rfl
theorem ck_mo_ask : zCk m_mo_ask 4 := ⟨tb_t 373 (by decide +kernel) rfl, tb_t 6 (by decide +kernel) rfl, by decide, by decide, by decide +kernel⟩
theorem im_mo_ask : Cond.instanceMethod (mY m_mo_ask) ∈ TB := tb_t 372 (by decide +kernel) rfl
theorem sl_mo_ask : Cond.selects "RecurrentSeriesModel" (mY m_mo_ask) (mY m_mo_ask) ∈ TB := tb_s 10 (by decide +kernel) rfl
theorem ck_mo_swapRows : zCk m_mo_swapRows 3 := ⟨tb_t 381 (by decide +kernel) rfl, tb_t 6 (by decide +kernel) rfl, by decide, by decide, by decide +kernel⟩
theorem im_mo_swapRows : Cond.instanceMethod (mY m_mo_swapRows) ∈ TB := tb_t 380 (by decide +kernel) rfl
theorem sl_mo_swapRows : Cond.selects "RecurrentSeriesModel" (mY m_mo_swapRows) (mY m_mo_swapRows) ∈ TB := tb_s 12 (by decide +kernel) rfl
theorem ck_mo_clean : zCk m_mo_clean 4 := ⟨tb_t 385 (by decide +kernel) rfl, tb_t 6 (by decide +kernel) rfl, by decide, by decide, by decide +kernel⟩
theorem im_mo_clean : Cond.instanceMethod (mY m_mo_clean) ∈ TB := tb_t 384 (by decide +kernel) rfl
theorem sl_mo_clean : Cond.selects "RecurrentSeriesModel" (mY m_mo_clean) (mY m_mo_clean) ∈ TB := tb_s 13 (by decide +kernel) rfl
theorem ck_mo_solve : zCk m_mo_solve 2 := ⟨tb_t 377 (by decide +kernel) rfl, tb_t 6 (by decide +kernel) rfl, by decide, by decide, by decide +kernel⟩
theorem im_mo_solve : Cond.instanceMethod (mY m_mo_solve) ∈ TB := tb_t 376 (by decide +kernel) rfl
theorem sl_mo_solve : Cond.selects "RecurrentSeriesModel" (mY m_mo_solve) (mY m_mo_solve) ∈ TB := tb_s 11 (by decide +kernel) rfl
theorem ck_mo_settle : zCk m_mo_settle 1 := ⟨tb_t 369 (by decide +kernel) rfl, tb_t 6 (by decide +kernel) rfl, by decide, by decide, by decide +kernel⟩
theorem im_mo_settle : Cond.instanceMethod (mY m_mo_settle) ∈ TB := tb_t 368 (by decide +kernel) rfl
theorem sl_mo_settle : Cond.selects "RecurrentSeriesModel" (mY m_mo_settle) (mY m_mo_settle) ∈ TB := tb_s 9 (by decide +kernel) rfl
theorem ck_mo_give : zCk m_mo_give 1 := ⟨tb_t 353 (by decide +kernel) rfl, tb_t 6 (by decide +kernel) rfl, by decide, by decide, by decide +kernel⟩
theorem im_mo_give : Cond.instanceMethod (mY m_mo_give) ∈ TB := tb_t 351 (by decide +kernel) rfl
theorem sl_mo_give : Cond.selects "RecurrentSeriesModel" (mY m_mo_give) (mY m_mo_give) ∈ TB := tb_t 352 (by decide +kernel) rfl
theorem ck_mo_clear : zCk m_mo_clear 0 := ⟨tb_t 361 (by decide +kernel) rfl, tb_t 6 (by decide +kernel) rfl, by decide, by decide, by decide +kernel⟩
theorem im_mo_clear : Cond.instanceMethod (mY m_mo_clear) ∈ TB := tb_t 359 (by decide +kernel) rfl
theorem sl_mo_clear : Cond.selects "RecurrentSeriesModel" (mY m_mo_clear) (mY m_mo_clear) ∈ TB := tb_t 360 (by decide +kernel) rfl
theorem ck_mo_leaf : zCk m_mo_leaf 1 := ⟨tb_t 365 (by decide +kernel) rfl, tb_t 6 (by decide +kernel) rfl, by decide, by decide, by decide +kernel⟩
theorem im_mo_leaf : Cond.instanceMethod (mY m_mo_leaf) ∈ TB := tb_t 363 (by decide +kernel) rfl
theorem sl_mo_leaf : Cond.selects "RecurrentSeriesModel" (mY m_mo_leaf) (mY m_mo_leaf) ∈ TB := tb_t 364 (by decide +kernel) rfl
theorem ck_mo_refusal : zCk m_mo_refusal 2 := ⟨tb_t 405 (by decide +kernel) rfl, tb_t 6 (by decide +kernel) rfl, by decide, by decide, by decide +kernel⟩
theorem im_mo_refusal : Cond.instanceMethod (mY m_mo_refusal) ∈ TB := tb_t 404 (by decide +kernel) rfl
theorem sl_mo_refusal : Cond.selects "RecurrentSeriesModel" (mY m_mo_refusal) (mY m_mo_refusal) ∈ TB := tb_s 16 (by decide +kernel) rfl
theorem ck_mo_orderOf : zCk m_mo_orderOf 1 := ⟨tb_t 397 (by decide +kernel) rfl, tb_t 6 (by decide +kernel) rfl, by decide, by decide, by decide +kernel⟩
theorem im_mo_orderOf : Cond.instanceMethod (mY m_mo_orderOf) ∈ TB := tb_t 396 (by decide +kernel) rfl
theorem sl_mo_orderOf : Cond.selects "RecurrentSeriesModel" (mY m_mo_orderOf) (mY m_mo_orderOf) ∈ TB := tb_s 14 (by decide +kernel) rfl
theorem ck_mo_combine : zCk m_mo_combine 4 := ⟨tb_t 393 (by decide +kernel) rfl, tb_t 6 (by decide +kernel) rfl, by decide, by decide, by decide +kernel⟩
theorem im_mo_combine : Cond.instanceMethod (mY m_mo_combine) ∈ TB := tb_t 391 (by decide +kernel) rfl
theorem sl_mo_combine : Cond.selects "RecurrentSeriesModel" (mY m_mo_combine) (mY m_mo_combine) ∈ TB := tb_t 392 (by decide +kernel) rfl
theorem ck_mo_product : zCk m_mo_product 2 := ⟨tb_t 413 (by decide +kernel) rfl, tb_t 6 (by decide +kernel) rfl, by decide, by decide, by decide +kernel⟩
theorem im_mo_product : Cond.instanceMethod (mY m_mo_product) ∈ TB := tb_t 411 (by decide +kernel) rfl
theorem sl_mo_product : Cond.selects "RecurrentSeriesModel" (mY m_mo_product) (mY m_mo_product) ∈ TB := tb_t 412 (by decide +kernel) rfl
theorem ck_mo_pairwise : zCk m_mo_pairwise 2 := ⟨tb_t 417 (by decide +kernel) rfl, tb_t 6 (by decide +kernel) rfl, by decide, by decide, by decide +kernel⟩
theorem im_mo_pairwise : Cond.instanceMethod (mY m_mo_pairwise) ∈ TB := tb_t 415 (by decide +kernel) rfl
theorem sl_mo_pairwise : Cond.selects "RecurrentSeriesModel" (mY m_mo_pairwise) (mY m_mo_pairwise) ∈ TB := tb_t 416 (by decide +kernel) rfl
theorem ck_mo_derivative : zCk m_mo_derivative 1 := ⟨tb_t 421 (by decide +kernel) rfl, tb_t 6 (by decide +kernel) rfl, by decide, by decide, by decide +kernel⟩
theorem im_mo_derivative : Cond.instanceMethod (mY m_mo_derivative) ∈ TB := tb_t 419 (by decide +kernel) rfl
theorem sl_mo_derivative : Cond.selects "RecurrentSeriesModel" (mY m_mo_derivative) (mY m_mo_derivative) ∈ TB := tb_t 420 (by decide +kernel) rfl
theorem ck_mo_tail : zCk m_mo_tail 1 := ⟨tb_t 425 (by decide +kernel) rfl, tb_t 6 (by decide +kernel) rfl, by decide, by decide, by decide +kernel⟩
theorem im_mo_tail : Cond.instanceMethod (mY m_mo_tail) ∈ TB := tb_t 423 (by decide +kernel) rfl
theorem sl_mo_tail : Cond.selects "RecurrentSeriesModel" (mY m_mo_tail) (mY m_mo_tail) ∈ TB := tb_t 424 (by decide +kernel) rfl
theorem ck_mo_delay : zCk m_mo_delay 1 := ⟨tb_t 433 (by decide +kernel) rfl, tb_t 6 (by decide +kernel) rfl, by decide, by decide, by decide +kernel⟩
theorem im_mo_delay : Cond.instanceMethod (mY m_mo_delay) ∈ TB := tb_t 431 (by decide +kernel) rfl
theorem sl_mo_delay : Cond.selects "RecurrentSeriesModel" (mY m_mo_delay) (mY m_mo_delay) ∈ TB := tb_t 432 (by decide +kernel) rfl
theorem ck_mo_sums : zCk m_mo_sums 1 := ⟨tb_t 437 (by decide +kernel) rfl, tb_t 6 (by decide +kernel) rfl, by decide, by decide, by decide +kernel⟩
theorem im_mo_sums : Cond.instanceMethod (mY m_mo_sums) ∈ TB := tb_t 435 (by decide +kernel) rfl
theorem sl_mo_sums : Cond.selects "RecurrentSeriesModel" (mY m_mo_sums) (mY m_mo_sums) ∈ TB := tb_t 436 (by decide +kernel) rfl
theorem ck_mo_section : zCk m_mo_section 3 := ⟨tb_t 429 (by decide +kernel) rfl, tb_t 6 (by decide +kernel) rfl, by decide, by decide, by decide +kernel⟩
theorem im_mo_section : Cond.instanceMethod (mY m_mo_section) ∈ TB := tb_t 427 (by decide +kernel) rfl
theorem sl_mo_section : Cond.selects "RecurrentSeriesModel" (mY m_mo_section) (mY m_mo_section) ∈ TB := tb_t 428 (by decide +kernel) rfl
theorem ck_mo_spread : zCk m_mo_spread 2 := ⟨tb_t 442 (by decide +kernel) rfl, tb_t 6 (by decide +kernel) rfl, by decide, by decide, by decide +kernel⟩
theorem im_mo_spread : Cond.instanceMethod (mY m_mo_spread) ∈ TB := tb_t 440 (by decide +kernel) rfl
theorem sl_mo_spread : Cond.selects "RecurrentSeriesModel" (mY m_mo_spread) (mY m_mo_spread) ∈ TB := tb_t 441 (by decide +kernel) rfl
theorem ck_mo_forget : zCk m_mo_forget 0 := ⟨tb_t 446 (by decide +kernel) rfl, tb_t 6 (by decide +kernel) rfl, by decide, by decide, by decide +kernel⟩
theorem im_mo_forget : Cond.instanceMethod (mY m_mo_forget) ∈ TB := tb_t 444 (by decide +kernel) rfl
theorem sl_mo_forget : Cond.selects "RecurrentSeriesModel" (mY m_mo_forget) (mY m_mo_forget) ∈ TB := tb_t 445 (by decide +kernel) rfl
theorem ck_mo_count : zCk m_mo_count 0 := ⟨tb_t 450 (by decide +kernel) rfl, tb_t 6 (by decide +kernel) rfl, by decide, by decide, by decide +kernel⟩
theorem im_mo_count : Cond.instanceMethod (mY m_mo_count) ∈ TB := tb_t 448 (by decide +kernel) rfl
theorem sl_mo_count : Cond.selects "RecurrentSeriesModel" (mY m_mo_count) (mY m_mo_count) ∈ TB := tb_t 449 (by decide +kernel) rfl
theorem ck_mo_order : zCk m_mo_order 1 := ⟨tb_t 454 (by decide +kernel) rfl, tb_t 6 (by decide +kernel) rfl, by decide, by decide, by decide +kernel⟩
theorem im_mo_order : Cond.instanceMethod (mY m_mo_order) ∈ TB := tb_t 452 (by decide +kernel) rfl
theorem sl_mo_order : Cond.selects "RecurrentSeriesModel" (mY m_mo_order) (mY m_mo_order) ∈ TB := tb_t 453 (by decide +kernel) rfl
theorem ck_mo_coefficient : zCk m_mo_coefficient 2 := ⟨tb_t 458 (by decide +kernel) rfl, tb_t 6 (by decide +kernel) rfl, by decide, by decide, by decide +kernel⟩
theorem im_mo_coefficient : Cond.instanceMethod (mY m_mo_coefficient) ∈ TB := tb_t 456 (by decide +kernel) rfl
theorem sl_mo_coefficient : Cond.selects "RecurrentSeriesModel" (mY m_mo_coefficient) (mY m_mo_coefficient) ∈ TB := tb_t 457 (by decide +kernel) rfl
theorem ck_mo_makeStep : zCk m_mo_makeStep 2 := ⟨tb_t 466 (by decide +kernel) rfl, tb_t 6 (by decide +kernel) rfl, by decide, by decide, by decide +kernel⟩
theorem im_mo_makeStep : Cond.instanceMethod (mY m_mo_makeStep) ∈ TB := tb_t 465 (by decide +kernel) rfl
theorem sl_mo_makeStep : Cond.selects "RecurrentSeriesModel" (mY m_mo_makeStep) (mY m_mo_makeStep) ∈ TB := tb_s 18 (by decide +kernel) rfl
theorem ck_mo_applyStep : zCk m_mo_applyStep 1 := ⟨tb_t 470 (by decide +kernel) rfl, tb_t 6 (by decide +kernel) rfl, by decide, by decide, by decide +kernel⟩
theorem im_mo_applyStep : Cond.instanceMethod (mY m_mo_applyStep) ∈ TB := tb_t 469 (by decide +kernel) rfl
theorem sl_mo_applyStep : Cond.selects "RecurrentSeriesModel" (mY m_mo_applyStep) (mY m_mo_applyStep) ∈ TB := tb_s 19 (by decide +kernel) rfl
theorem ck_mo_squareStep : zCk m_mo_squareStep 1 := ⟨tb_t 474 (by decide +kernel) rfl, tb_t 6 (by decide +kernel) rfl, by decide, by decide, by decide +kernel⟩
theorem im_mo_squareStep : Cond.instanceMethod (mY m_mo_squareStep) ∈ TB := tb_t 473 (by decide +kernel) rfl
theorem sl_mo_squareStep : Cond.selects "RecurrentSeriesModel" (mY m_mo_squareStep) (mY m_mo_squareStep) ∈ TB := tb_s 20 (by decide +kernel) rfl
theorem ck_mo_term : zCk m_mo_term 2 := ⟨tb_t 462 (by decide +kernel) rfl, tb_t 6 (by decide +kernel) rfl, by decide, by decide, by decide +kernel⟩
theorem im_mo_term : Cond.instanceMethod (mY m_mo_term) ∈ TB := tb_t 460 (by decide +kernel) rfl
theorem sl_mo_term : Cond.selects "RecurrentSeriesModel" (mY m_mo_term) (mY m_mo_term) ∈ TB := tb_t 461 (by decide +kernel) rfl
theorem ck_mo_differ : zCk m_mo_differ 2 := ⟨tb_t 478 (by decide +kernel) rfl, tb_t 6 (by decide +kernel) rfl, by decide, by decide, by decide +kernel⟩
theorem im_mo_differ : Cond.instanceMethod (mY m_mo_differ) ∈ TB := tb_t 476 (by decide +kernel) rfl
theorem sl_mo_differ : Cond.selects "RecurrentSeriesModel" (mY m_mo_differ) (mY m_mo_differ) ∈ TB := tb_t 477 (by decide +kernel) rfl
theorem ck_mo_obeys : zCk m_mo_obeys 1 := ⟨tb_t 482 (by decide +kernel) rfl, tb_t 6 (by decide +kernel) rfl, by decide, by decide, by decide +kernel⟩
theorem im_mo_obeys : Cond.instanceMethod (mY m_mo_obeys) ∈ TB := tb_t 480 (by decide +kernel) rfl
theorem sl_mo_obeys : Cond.selects "RecurrentSeriesModel" (mY m_mo_obeys) (mY m_mo_obeys) ∈ TB := tb_t 481 (by decide +kernel) rfl
theorem ck_mo_shared : zCk m_mo_shared 2 := ⟨tb_t 486 (by decide +kernel) rfl, tb_t 6 (by decide +kernel) rfl, by decide, by decide, by decide +kernel⟩
theorem im_mo_shared : Cond.instanceMethod (mY m_mo_shared) ∈ TB := tb_t 484 (by decide +kernel) rfl
theorem sl_mo_shared : Cond.selects "RecurrentSeriesModel" (mY m_mo_shared) (mY m_mo_shared) ∈ TB := tb_t 485 (by decide +kernel) rfl
theorem ck_dv_init : zCk m_dv_init 0 := ⟨tb_t 62 (by decide +kernel) rfl, tb_t 4 (by decide +kernel) rfl, by decide, by decide, by decide +kernel⟩
theorem im_dv_init : Cond.instanceMethod (mY m_dv_init) ∈ TB := tb_t 61 (by decide +kernel) rfl
theorem ck_dv_commonDegree : zCk m_dv_commonDegree 2 := ⟨tb_t 293 (by decide +kernel) rfl, tb_t 4 (by decide +kernel) rfl, by decide, by decide, by decide +kernel⟩
theorem im_dv_commonDegree : Cond.instanceMethod (mY m_dv_commonDegree) ∈ TB := tb_t 291 (by decide +kernel) rfl
theorem sl_dv_commonDegree : Cond.selects "RecurrentSeries$Divider" (mY m_dv_commonDegree) (mY m_dv_commonDegree) ∈ TB := tb_t 292 (by decide +kernel) rfl
theorem ck_dv_load : zCk m_dv_load 2 := ⟨tb_t 296 (by decide +kernel) rfl, tb_t 4 (by decide +kernel) rfl, by decide, by decide, by decide +kernel⟩
theorem st_dv_load : Cond.static (mY m_dv_load) ∈ TB := tb_t 295 (by decide +kernel) rfl
theorem ck_dv_reduce : zCk m_dv_reduce 4 := ⟨tb_t 300 (by decide +kernel) rfl, tb_t 4 (by decide +kernel) rfl, by decide, by decide, by decide +kernel⟩
theorem st_dv_reduce : Cond.static (mY m_dv_reduce) ∈ TB := tb_t 299 (by decide +kernel) rfl
theorem ck_fi_init : zCk m_fi_init 0 := ⟨tb_t 23 (by decide +kernel) rfl, tb_t 2 (by decide +kernel) rfl, by decide, by decide, by decide +kernel⟩
theorem im_fi_init : Cond.instanceMethod (mY m_fi_init) ∈ TB := tb_t 22 (by decide +kernel) rfl
theorem ck_fi_find : zCk m_fi_find 3 := ⟨tb_t 161 (by decide +kernel) rfl, tb_t 2 (by decide +kernel) rfl, by decide, by decide, by decide +kernel⟩
theorem im_fi_find : Cond.instanceMethod (mY m_fi_find) ∈ TB := tb_t 159 (by decide +kernel) rfl
theorem sl_fi_find : Cond.selects "RecurrentSeries$Finder" (mY m_fi_find) (mY m_fi_find) ∈ TB := tb_t 160 (by decide +kernel) rfl
theorem ck_fi_mend : zCk m_fi_mend 3 := ⟨tb_t 180 (by decide +kernel) rfl, tb_t 2 (by decide +kernel) rfl, by decide, by decide, by decide +kernel⟩
theorem im_fi_mend : Cond.instanceMethod (mY m_fi_mend) ∈ TB := tb_t 179 (by decide +kernel) rfl
theorem sl_fi_mend : Cond.selects "RecurrentSeries$Finder" (mY m_fi_mend) (mY m_fi_mend) ∈ TB := tb_s 3 (by decide +kernel) rfl
theorem ck_fi_keepUnmended : zCk m_fi_keepUnmended 0 := ⟨tb_t 187 (by decide +kernel) rfl, tb_t 2 (by decide +kernel) rfl, by decide, by decide, by decide +kernel⟩
theorem im_fi_keepUnmended : Cond.instanceMethod (mY m_fi_keepUnmended) ∈ TB := tb_t 186 (by decide +kernel) rfl
theorem sl_fi_keepUnmended : Cond.selects "RecurrentSeries$Finder" (mY m_fi_keepUnmended) (mY m_fi_keepUnmended) ∈ TB := tb_s 4 (by decide +kernel) rfl
theorem ck_fi_erase : zCk m_fi_erase 1 := ⟨tb_t 164 (by decide +kernel) rfl, tb_t 2 (by decide +kernel) rfl, by decide, by decide, by decide +kernel⟩
theorem st_fi_erase : Cond.static (mY m_fi_erase) ∈ TB := tb_t 163 (by decide +kernel) rfl
theorem ck_nu_of : zCk m_nu_of 1 := ⟨tb_t 130 (by decide +kernel) rfl, tb_t 7 (by decide +kernel) rfl, by decide, by decide, by decide +kernel⟩
theorem st_nu_of : Cond.static (mY m_nu_of) ∈ TB := tb_t 129 (by decide +kernel) rfl
theorem ck_nu_plus : zCk m_nu_plus 2 := ⟨tb_t 183 (by decide +kernel) rfl, tb_t 7 (by decide +kernel) rfl, by decide, by decide, by decide +kernel⟩
theorem st_nu_plus : Cond.static (mY m_nu_plus) ∈ TB := tb_t 182 (by decide +kernel) rfl
theorem ck_nu_minus : zCk m_nu_minus 2 := ⟨tb_t 168 (by decide +kernel) rfl, tb_t 7 (by decide +kernel) rfl, by decide, by decide, by decide +kernel⟩
theorem st_nu_minus : Cond.static (mY m_nu_minus) ∈ TB := tb_t 167 (by decide +kernel) rfl
theorem ck_nu_times : zCk m_nu_times 2 := ⟨tb_t 175 (by decide +kernel) rfl, tb_t 7 (by decide +kernel) rfl, by decide, by decide, by decide +kernel⟩
theorem st_nu_times : Cond.static (mY m_nu_times) ∈ TB := tb_t 174 (by decide +kernel) rfl
theorem ck_nu_plusTimes : zCk m_nu_plusTimes 3 := ⟨tb_t 153 (by decide +kernel) rfl, tb_t 7 (by decide +kernel) rfl, by decide, by decide, by decide +kernel⟩
theorem st_nu_plusTimes : Cond.static (mY m_nu_plusTimes) ∈ TB := tb_t 152 (by decide +kernel) rfl
theorem ck_nu_inverse : zCk m_nu_inverse 1 := ⟨tb_t 171 (by decide +kernel) rfl, tb_t 7 (by decide +kernel) rfl, by decide, by decide, by decide +kernel⟩
theorem st_nu_inverse : Cond.static (mY m_nu_inverse) ∈ TB := tb_t 170 (by decide +kernel) rfl
theorem ck_nu_foretold : zCk m_nu_foretold 4 := ⟨tb_t 150 (by decide +kernel) rfl, tb_t 7 (by decide +kernel) rfl, by decide, by decide, by decide +kernel⟩
theorem st_nu_foretold : Cond.static (mY m_nu_foretold) ∈ TB := tb_t 149 (by decide +kernel) rfl
theorem ck_sk_init : zCk m_sk_init 0 := ⟨tb_t 40 (by decide +kernel) rfl, tb_t 3 (by decide +kernel) rfl, by decide, by decide, by decide +kernel⟩
theorem im_sk_init : Cond.instanceMethod (mY m_sk_init) ∈ TB := tb_t 39 (by decide +kernel) rfl
theorem ck_sk_seek : zCk m_sk_seek 2 := ⟨tb_t 259 (by decide +kernel) rfl, tb_t 3 (by decide +kernel) rfl, by decide, by decide, by decide +kernel⟩
theorem im_sk_seek : Cond.instanceMethod (mY m_sk_seek) ∈ TB := tb_t 257 (by decide +kernel) rfl
theorem sl_sk_seek : Cond.selects "RecurrentSeries$Seeker" (mY m_sk_seek) (mY m_sk_seek) ∈ TB := tb_t 258 (by decide +kernel) rfl
theorem ck_sk_load : zCk m_sk_load 1 := ⟨tb_t 263 (by decide +kernel) rfl, tb_t 3 (by decide +kernel) rfl, by decide, by decide, by decide +kernel⟩
theorem im_sk_load : Cond.instanceMethod (mY m_sk_load) ∈ TB := tb_t 262 (by decide +kernel) rfl
theorem sl_sk_load : Cond.selects "RecurrentSeries$Seeker" (mY m_sk_load) (mY m_sk_load) ∈ TB := tb_s 6 (by decide +kernel) rfl
theorem ck_sk_halve : zCk m_sk_halve 2 := ⟨tb_t 269 (by decide +kernel) rfl, tb_t 3 (by decide +kernel) rfl, by decide, by decide, by decide +kernel⟩
theorem im_sk_halve : Cond.instanceMethod (mY m_sk_halve) ∈ TB := tb_t 268 (by decide +kernel) rfl
theorem sl_sk_halve : Cond.selects "RecurrentSeries$Seeker" (mY m_sk_halve) (mY m_sk_halve) ∈ TB := tb_s 7 (by decide +kernel) rfl
theorem ck_sk_timesMirrored : zCk m_sk_timesMirrored 3 := ⟨tb_t 273 (by decide +kernel) rfl, tb_t 3 (by decide +kernel) rfl, by decide, by decide, by decide +kernel⟩
theorem im_sk_timesMirrored : Cond.instanceMethod (mY m_sk_timesMirrored) ∈ TB := tb_t 272 (by decide +kernel) rfl
theorem sl_sk_timesMirrored : Cond.selects "RecurrentSeries$Seeker" (mY m_sk_timesMirrored) (mY m_sk_timesMirrored) ∈ TB := tb_s 8 (by decide +kernel) rfl
theorem ck_se_init : zCk m_se_init 0 := ⟨tb_t 74 (by decide +kernel) rfl, tb_t 5 (by decide +kernel) rfl, by decide, by decide, by decide +kernel⟩
theorem im_se_init : Cond.instanceMethod (mY m_se_init) ∈ TB := tb_t 73 (by decide +kernel) rfl
theorem ck_se_writeTerms : zCk m_se_writeTerms 2 := ⟨tb_t 191 (by decide +kernel) rfl, tb_t 5 (by decide +kernel) rfl, by decide, by decide, by decide +kernel⟩
theorem im_se_writeTerms : Cond.instanceMethod (mY m_se_writeTerms) ∈ TB := tb_t 189 (by decide +kernel) rfl
theorem sl_se_writeTerms : Cond.selects "RecurrentSeries$Series" (mY m_se_writeTerms) (mY m_se_writeTerms) ∈ TB := tb_t 190 (by decide +kernel) rfl
theorem ck_ma_max : zCk m_ma_max 2 := ⟨tb_t 276 (by decide +kernel) rfl, tb_t 8 (by decide +kernel) rfl, by decide, by decide, by decide +kernel⟩
theorem st_ma_max : Cond.static (mY m_ma_max) ∈ TB := tb_t 275 (by decide +kernel) rfl
theorem lk_rs_3 : Cond.methodLink "RecurrentSeries" 3 Lib.objectInit ∈ TB := tb_t 14 (by decide +kernel) rfl
theorem lk_rs_27 : zLk "RecurrentSeries" 27 (mY m_fi_init) := Or.inr ⟨"RecurrentSeries", nb_t 21 (by decide +kernel) rfl⟩
theorem lk_rs_34 : zLk "RecurrentSeries" 34 (mY m_sk_init) := Or.inr ⟨"RecurrentSeries", nb_t 38 (by decide +kernel) rfl⟩
theorem lk_rs_41 : zLk "RecurrentSeries" 41 (mY m_dv_init) := Or.inr ⟨"RecurrentSeries", nb_t 60 (by decide +kernel) rfl⟩
theorem lk_rs_46 : zLk "RecurrentSeries" 46 (mY m_se_init) := Or.inr ⟨"RecurrentSeries", nb_t 72 (by decide +kernel) rfl⟩
theorem lk_rs_54 : zLk "RecurrentSeries" 54 (mY m_nu_of) := Or.inl (tb_t 128 (by decide +kernel) rfl)
theorem lk_rs_60 : zLk "RecurrentSeries" 60 (mY m_rs_numberFor) := Or.inl (tb_t 140 (by decide +kernel) rfl)
theorem lk_rs_64 : zLk "RecurrentSeries" 64 (mY m_rs_othersFit) := Or.inl (tb_t 144 (by decide +kernel) rfl)
theorem lk_rs_68 : zLk "RecurrentSeries" 68 (mY m_nu_foretold) := Or.inl (tb_t 148 (by decide +kernel) rfl)
theorem lk_rs_72 : zLk "RecurrentSeries" 72 (mY m_rs_enlist) := Or.inl (tb_t 154 (by decide +kernel) rfl)
theorem lk_rs_75 : zLk "RecurrentSeries" 75 (mY m_rs_isListed) := Or.inl (tb_t 197 (by decide +kernel) rfl)
theorem lk_rs_84 : zLk "RecurrentSeries" 84 (mY m_nu_times) := Or.inl (tb_t 201 (by decide +kernel) rfl)
theorem lk_rs_88 : zLk "RecurrentSeries" 88 (mY m_nu_plusTimes) := Or.inl (tb_t 202 (by decide +kernel) rfl)
theorem lk_rs_92 : zLk "RecurrentSeries" 92 (mY m_nu_plus) := Or.inl (tb_t 227 (by decide +kernel) rfl)
theorem lk_rs_95 : zLk "RecurrentSeries" 95 (mY m_se_writeTerms) := Or.inl (tb_t 188 (by decide +kernel) rfl)
theorem lk_rs_102 : zLk "RecurrentSeries" 102 (mY m_sk_seek) := Or.inl (tb_t 256 (by decide +kernel) rfl)
theorem lk_rs_106 : zLk "RecurrentSeries" 106 (mY m_dv_commonDegree) := Or.inl (tb_t 290 (by decide +kernel) rfl)
theorem lk_rs_110 : zLk "RecurrentSeries" 110 (mY m_fi_find) := Or.inl (tb_t 158 (by decide +kernel) rfl)
theorem lk_mo_1 : Cond.methodLink "RecurrentSeriesModel" 1 Lib.objectInit ∈ TB := tb_t 308 (by decide +kernel) rfl
theorem lk_mo_52 : zLk "RecurrentSeriesModel" 52 (mY m_mo_inverse) := Or.inl (tb_t 386 (by decide +kernel) rfl)
theorem lk_mo_56 : zLk "RecurrentSeriesModel" 56 (mY m_mo_swapRows) := Or.inl (tb_t 378 (by decide +kernel) rfl)
theorem lk_mo_60 : zLk "RecurrentSeriesModel" 60 (mY m_mo_clean) := Or.inl (tb_t 382 (by decide +kernel) rfl)
theorem lk_mo_64 : zLk "RecurrentSeriesModel" 64 (mY m_mo_ask) := Or.inl (tb_t 370 (by decide +kernel) rfl)
theorem lk_mo_67 : zLk "RecurrentSeriesModel" 67 (mY m_mo_solve) := Or.inl (tb_t 374 (by decide +kernel) rfl)
theorem lk_mo_74 : zLk "RecurrentSeriesModel" 74 (mY m_mo_number) := Or.inl (tb_t 354 (by decide +kernel) rfl)
theorem lk_mo_78 : zLk "RecurrentSeriesModel" 78 (mY m_mo_settle) := Or.inl (tb_t 366 (by decide +kernel) rfl)
theorem lk_mo_82 : zLk "RecurrentSeriesModel" 82 (mY m_mo_isIn) := Or.inl (tb_t 398 (by decide +kernel) rfl)
theorem lk_mo_86 : zLk "RecurrentSeriesModel" 86 (mY m_mo_orderOf) := Or.inl (tb_t 394 (by decide +kernel) rfl)
theorem lk_mo_89 : zLk "RecurrentSeriesModel" 89 (mY m_mo_refusal) := Or.inl (tb_t 402 (by decide +kernel) rfl)
theorem lk_mo_93 : zLk "RecurrentSeriesModel" 93 (mY m_mo_expand) := Or.inl (tb_t 406 (by decide +kernel) rfl)
theorem lk_mo_96 : zLk "RecurrentSeriesModel" 96 (mY m_mo_section) := Or.inl (tb_t 426 (by decide +kernel) rfl)
theorem lk_mo_100 : zLk "RecurrentSeriesModel" 100 (mY m_mo_makeStep) := Or.inl (tb_t 463 (by decide +kernel) rfl)
theorem lk_mo_104 : zLk "RecurrentSeriesModel" 104 (mY m_mo_applyStep) := Or.inl (tb_t 467 (by decide +kernel) rfl)
theorem lk_mo_108 : zLk "RecurrentSeriesModel" 108 (mY m_mo_squareStep) := Or.inl (tb_t 471 (by decide +kernel) rfl)
theorem lk_dv_3 : Cond.methodLink "RecurrentSeries$Divider" 3 Lib.objectInit ∈ TB := tb_t 63 (by decide +kernel) rfl
theorem lk_dv_18 : zLk "RecurrentSeries$Divider" 18 (mY m_dv_load) := Or.inl (tb_t 294 (by decide +kernel) rfl)
theorem lk_dv_28 : zLk "RecurrentSeries$Divider" 28 (mY m_dv_reduce) := Or.inl (tb_t 298 (by decide +kernel) rfl)
theorem lk_dv_35 : zLk "RecurrentSeries$Divider" 35 (mY m_nu_minus) := Or.inl (tb_t 297 (by decide +kernel) rfl)
theorem lk_dv_41 : zLk "RecurrentSeries$Divider" 41 (mY m_nu_inverse) := Or.inl (tb_t 301 (by decide +kernel) rfl)
theorem lk_dv_45 : zLk "RecurrentSeries$Divider" 45 (mY m_nu_times) := Or.inl (tb_t 302 (by decide +kernel) rfl)
theorem lk_fi_3 : Cond.methodLink "RecurrentSeries$Finder" 3 Lib.objectInit ∈ TB := tb_t 24 (by decide +kernel) rfl
theorem lk_fi_21 : zLk "RecurrentSeries$Finder" 21 (mY m_fi_erase) := Or.inl (tb_t 162 (by decide +kernel) rfl)
theorem lk_fi_25 : zLk "RecurrentSeries$Finder" 25 (mY m_nu_foretold) := Or.inl (tb_t 165 (by decide +kernel) rfl)
theorem lk_fi_31 : zLk "RecurrentSeries$Finder" 31 (mY m_nu_minus) := Or.inl (tb_t 166 (by decide +kernel) rfl)
theorem lk_fi_35 : zLk "RecurrentSeries$Finder" 35 (mY m_nu_inverse) := Or.inl (tb_t 169 (by decide +kernel) rfl)
theorem lk_fi_39 : zLk "RecurrentSeries$Finder" 39 (mY m_nu_times) := Or.inl (tb_t 176 (by decide +kernel) rfl)
theorem lk_fi_42 : zLk "RecurrentSeries$Finder" 42 (mY m_fi_mend) := Or.inl (tb_t 177 (by decide +kernel) rfl)
theorem lk_fi_46 : zLk "RecurrentSeries$Finder" 46 (mY m_fi_keepUnmended) := Or.inl (tb_t 184 (by decide +kernel) rfl)
theorem lk_fi_58 : zLk "RecurrentSeries$Finder" 58 (mY m_nu_plus) := Or.inl (tb_t 181 (by decide +kernel) rfl)
theorem lk_nu_13 : zLk "RecurrentSeries$Numbers" 13 (mY m_nu_times) := Or.inl (tb_t 173 (by decide +kernel) rfl)
theorem lk_nu_17 : zLk "RecurrentSeries$Numbers" 17 (mY m_nu_plusTimes) := Or.inl (tb_t 151 (by decide +kernel) rfl)
theorem lk_sk_3 : Cond.methodLink "RecurrentSeries$Seeker" 3 Lib.objectInit ∈ TB := tb_t 41 (by decide +kernel) rfl
theorem lk_sk_27 : zLk "RecurrentSeries$Seeker" 27 (mY m_sk_load) := Or.inl (tb_t 260 (by decide +kernel) rfl)
theorem lk_sk_37 : zLk "RecurrentSeries$Seeker" 37 (mY m_sk_halve) := Or.inl (tb_t 266 (by decide +kernel) rfl)
theorem lk_sk_44 : zLk "RecurrentSeries$Seeker" 44 (mY m_nu_minus) := Or.inl (tb_t 264 (by decide +kernel) rfl)
theorem lk_sk_53 : zLk "RecurrentSeries$Seeker" 53 (mY m_nu_foretold) := Or.inl (tb_t 265 (by decide +kernel) rfl)
theorem lk_sk_57 : zLk "RecurrentSeries$Seeker" 57 (mY m_sk_timesMirrored) := Or.inl (tb_t 270 (by decide +kernel) rfl)
theorem lk_sk_61 : zLk "RecurrentSeries$Seeker" 61 (mY m_ma_max) := Or.inl (tb_t 274 (by decide +kernel) rfl)
theorem lk_sk_67 : zLk "RecurrentSeries$Seeker" 67 (mY m_nu_plusTimes) := Or.inl (tb_t 277 (by decide +kernel) rfl)
theorem lk_se_3 : Cond.methodLink "RecurrentSeries$Series" 3 Lib.objectInit ∈ TB := tb_t 75 (by decide +kernel) rfl
theorem lk_se_22 : zLk "RecurrentSeries$Series" 22 (mY m_nu_foretold) := Or.inl (tb_t 192 (by decide +kernel) rfl)
theorem lk_la_9 : zLk "RecurrentSeriesLaw" 9 (mY m_rs_init) := Or.inl (tb_t 11 (by decide +kernel) rfl)
theorem lk_la_12 : zLk "RecurrentSeriesLaw" 12 (mY m_mo_init) := Or.inl (tb_t 305 (by decide +kernel) rfl)
theorem lk_la_13 : zLk "RecurrentSeriesLaw" 13 (mY m_rs_give) := Or.inl (tb_t 124 (by decide +kernel) rfl)
theorem lk_la_17 : zLk "RecurrentSeriesLaw" 17 (mY m_mo_give) := Or.inl (tb_t 350 (by decide +kernel) rfl)
theorem lk_la_18 : zLk "RecurrentSeriesLaw" 18 (mY m_rs_clear) := Or.inl (tb_t 132 (by decide +kernel) rfl)
theorem lk_la_22 : zLk "RecurrentSeriesLaw" 22 (mY m_mo_clear) := Or.inl (tb_t 358 (by decide +kernel) rfl)
theorem lk_la_23 : zLk "RecurrentSeriesLaw" 23 (mY m_rs_leaf) := Or.inl (tb_t 136 (by decide +kernel) rfl)
theorem lk_la_27 : zLk "RecurrentSeriesLaw" 27 (mY m_mo_leaf) := Or.inl (tb_t 362 (by decide +kernel) rfl)
theorem lk_la_28 : zLk "RecurrentSeriesLaw" 28 (mY m_rs_combine) := Or.inl (tb_t 193 (by decide +kernel) rfl)
theorem lk_la_32 : zLk "RecurrentSeriesLaw" 32 (mY m_mo_combine) := Or.inl (tb_t 390 (by decide +kernel) rfl)
theorem lk_la_33 : zLk "RecurrentSeriesLaw" 33 (mY m_rs_product) := Or.inl (tb_t 203 (by decide +kernel) rfl)
theorem lk_la_37 : zLk "RecurrentSeriesLaw" 37 (mY m_mo_product) := Or.inl (tb_t 410 (by decide +kernel) rfl)
theorem lk_la_38 : zLk "RecurrentSeriesLaw" 38 (mY m_rs_pairwise) := Or.inl (tb_t 207 (by decide +kernel) rfl)
theorem lk_la_41 : zLk "RecurrentSeriesLaw" 41 (mY m_mo_pairwise) := Or.inl (tb_t 414 (by decide +kernel) rfl)
theorem lk_la_42 : zLk "RecurrentSeriesLaw" 42 (mY m_rs_derivative) := Or.inl (tb_t 211 (by decide +kernel) rfl)
theorem lk_la_45 : zLk "RecurrentSeriesLaw" 45 (mY m_mo_derivative) := Or.inl (tb_t 418 (by decide +kernel) rfl)
theorem lk_la_46 : zLk "RecurrentSeriesLaw" 46 (mY m_rs_tail) := Or.inl (tb_t 215 (by decide +kernel) rfl)
theorem lk_la_49 : zLk "RecurrentSeriesLaw" 49 (mY m_mo_tail) := Or.inl (tb_t 422 (by decide +kernel) rfl)
theorem lk_la_50 : zLk "RecurrentSeriesLaw" 50 (mY m_rs_delay) := Or.inl (tb_t 219 (by decide +kernel) rfl)
theorem lk_la_53 : zLk "RecurrentSeriesLaw" 53 (mY m_mo_delay) := Or.inl (tb_t 430 (by decide +kernel) rfl)
theorem lk_la_54 : zLk "RecurrentSeriesLaw" 54 (mY m_rs_sums) := Or.inl (tb_t 223 (by decide +kernel) rfl)
theorem lk_la_57 : zLk "RecurrentSeriesLaw" 57 (mY m_mo_sums) := Or.inl (tb_t 434 (by decide +kernel) rfl)
theorem lk_la_58 : zLk "RecurrentSeriesLaw" 58 (mY m_rs_section) := Or.inl (tb_t 228 (by decide +kernel) rfl)
theorem lk_la_62 : zLk "RecurrentSeriesLaw" 62 (mY m_mo_section) := Or.inl (tb_t 438 (by decide +kernel) rfl)
theorem lk_la_63 : zLk "RecurrentSeriesLaw" 63 (mY m_rs_spread) := Or.inl (tb_t 232 (by decide +kernel) rfl)
theorem lk_la_66 : zLk "RecurrentSeriesLaw" 66 (mY m_mo_spread) := Or.inl (tb_t 439 (by decide +kernel) rfl)
theorem lk_la_67 : zLk "RecurrentSeriesLaw" 67 (mY m_rs_forget) := Or.inl (tb_t 236 (by decide +kernel) rfl)
theorem lk_la_71 : zLk "RecurrentSeriesLaw" 71 (mY m_mo_forget) := Or.inl (tb_t 443 (by decide +kernel) rfl)
theorem lk_la_72 : zLk "RecurrentSeriesLaw" 72 (mY m_rs_count) := Or.inl (tb_t 240 (by decide +kernel) rfl)
theorem lk_la_75 : zLk "RecurrentSeriesLaw" 75 (mY m_mo_count) := Or.inl (tb_t 447 (by decide +kernel) rfl)
theorem lk_la_76 : zLk "RecurrentSeriesLaw" 76 (mY m_rs_order) := Or.inl (tb_t 244 (by decide +kernel) rfl)
theorem lk_la_79 : zLk "RecurrentSeriesLaw" 79 (mY m_mo_order) := Or.inl (tb_t 451 (by decide +kernel) rfl)
theorem lk_la_80 : zLk "RecurrentSeriesLaw" 80 (mY m_rs_coefficient) := Or.inl (tb_t 248 (by decide +kernel) rfl)
theorem lk_la_83 : zLk "RecurrentSeriesLaw" 83 (mY m_mo_coefficient) := Or.inl (tb_t 455 (by decide +kernel) rfl)
theorem lk_la_86 : zLk "RecurrentSeriesLaw" 86 (mY m_rs_term) := Or.inl (tb_t 252 (by decide +kernel) rfl)
theorem lk_la_90 : zLk "RecurrentSeriesLaw" 90 (mY m_mo_term) := Or.inl (tb_t 459 (by decide +kernel) rfl)
theorem lk_la_91 : zLk "RecurrentSeriesLaw" 91 (mY m_rs_differ) := Or.inl (tb_t 278 (by decide +kernel) rfl)
theorem lk_la_94 : zLk "RecurrentSeriesLaw" 94 (mY m_mo_differ) := Or.inl (tb_t 475 (by decide +kernel) rfl)
theorem lk_la_95 : zLk "RecurrentSeriesLaw" 95 (mY m_rs_obeys) := Or.inl (tb_t 282 (by decide +kernel) rfl)
theorem lk_la_98 : zLk "RecurrentSeriesLaw" 98 (mY m_mo_obeys) := Or.inl (tb_t 479 (by decide +kernel) rfl)
theorem lk_la_99 : zLk "RecurrentSeriesLaw" 99 (mY m_rs_shared) := Or.inl (tb_t 286 (by decide +kernel) rfl)
theorem lk_la_102 : zLk "RecurrentSeriesLaw" 102 (mY m_mo_shared) := Or.inl (tb_t 483 (by decide +kernel) rfl)
theorem tb_obj1 : Cond.instanceMethod Lib.objectInit ∈ TB := tb_t 15 (by decide +kernel) rfl
theorem tb_obj2 : Cond.code Lib.objectInit ⟨#[0xb1]⟩ 1 none ∈ TB := tb_t 16 (by decide +kernel) rfl
theorem tb_arrL : Cond.arrayClass .long ∈ TB := tb_t 35 (by decide +kernel) rfl
theorem tb_arrI : Cond.arrayClass .int ∈ TB := tb_t 349 (by decide +kernel) rfl
theorem nb_over : Cond.arrayOver (.object "RecurrentSeries$Series") ∈ NB := nb_t 18 (by decide +kernel) rfl
theorem cl_nu_9 : Cond.constantLong "RecurrentSeries$Numbers" 9 (lN 2147483647) ∈ TB := tb_t 131 (by decide +kernel) rfl
theorem cl_nu_11 : Cond.constantLong "RecurrentSeries$Numbers" 11 (lN 2147483645) ∈ TB := tb_t 172 (by decide +kernel) rfl
theorem cl_mo_44 : Cond.constantLong "RecurrentSeriesModel" 44 (lN 2147483647) ∈ TB := tb_t 357 (by decide +kernel) rfl
theorem cl_mo_46 : Cond.constantLong "RecurrentSeriesModel" 46 (lN 2147483645) ∈ TB := tb_t 389 (by decide +kernel) rfl
theorem cl_la_84 : Cond.constantLong "RecurrentSeriesLaw" 84 (lN 4294967295) ∈ TB := tb_t 487 (by decide +kernel) rfl
theorem cn_rs_9 : Cond.classLink "RecurrentSeries" 9 "RecurrentSeries$Series" ∈ TB := tb_t 17 (by decide +kernel) rfl
theorem cn_rs_25 : Cond.classLink "RecurrentSeries" 25 "RecurrentSeries$Finder" ∈ TB := tb_t 19 (by decide +kernel) rfl
theorem cn_rs_32 : Cond.classLink "RecurrentSeries" 32 "RecurrentSeries$Seeker" ∈ TB := tb_t 36 (by decide +kernel) rfl
theorem cn_rs_39 : Cond.classLink "RecurrentSeries" 39 "RecurrentSeries$Divider" ∈ TB := tb_t 58 (by decide +kernel) rfl
theorem cn_la_7 : Cond.classLink "RecurrentSeriesLaw" 7 "RecurrentSeries" ∈ TB := tb_t 9 (by decide +kernel) rfl
theorem cn_la_10 : Cond.classLink "RecurrentSeriesLaw" 10 "RecurrentSeriesModel" ∈ TB := tb_t 303 (by decide +kernel) rfl
theorem nw_rs {own : String} {idx : Nat} (h : Cond.classLink own idx "RecurrentSeries" ∈ TB) : zNw own idx 0 9 [.null, .null, .null, .null, .null, .null, .null, .int 0, .int 0] := ⟨_, zT_rs, zY_rs, rfl, uw_rs, zY_rs_ok, h, tb_t 10 (by decide +kernel) rfl, tb_t 1 (by decide +kernel) rfl, fun b j hj => by
  match j, hj with
  | 0, _ => rfl
  | 1, _ => rfl
  | 2, _ => rfl
  | 3, _ => rfl
  | 4, _ => rfl
  | 5, _ => rfl
  | 6, _ => rfl
  | 7, _ => rfl
  | 8, _ => rfl
  | j + 9, hj => omega⟩
theorem nw_se {own : String} {idx : Nat} (h : Cond.classLink own idx "RecurrentSeries$Series" ∈ TB) : zNw own idx 1 3 [.int 0, .null, .null] := ⟨_, zT_se, zY_se, rfl, uw_se, zY_se_ok, h, tb_t 71 (by decide +kernel) rfl, tb_t 5 (by decide +kernel) rfl, fun b j hj => by
  match j, hj with
  | 0, _ => rfl
  | 1, _ => rfl
  | 2, _ => rfl
  | j + 3, hj => omega⟩
theorem nw_fi {own : String} {idx : Nat} (h : Cond.classLink own idx "RecurrentSeries$Finder" ∈ TB) : zNw own idx 2 3 [.null, .null, .null] := ⟨_, zT_fi, zY_fi, rfl, uw_fi, zY_fi_ok, h, tb_t 20 (by decide +kernel) rfl, tb_t 2 (by decide +kernel) rfl, fun b j hj => by
  match j, hj with
  | 0, _ => rfl
  | 1, _ => rfl
  | 2, _ => rfl
  | j + 3, hj => omega⟩
theorem nw_sk {own : String} {idx : Nat} (h : Cond.classLink own idx "RecurrentSeries$Seeker" ∈ TB) : zNw own idx 3 5 [.null, .null, .null, .null, .null] := ⟨_, zT_sk, zY_sk, rfl, uw_sk, zY_sk_ok, h, tb_t 37 (by decide +kernel) rfl, tb_t 3 (by decide +kernel) rfl, fun b j hj => by
  match j, hj with
  | 0, _ => rfl
  | 1, _ => rfl
  | 2, _ => rfl
  | 3, _ => rfl
  | 4, _ => rfl
  | j + 5, hj => omega⟩
theorem nw_dv {own : String} {idx : Nat} (h : Cond.classLink own idx "RecurrentSeries$Divider" ∈ TB) : zNw own idx 4 2 [.null, .null] := ⟨_, zT_dv, zY_dv, rfl, uw_dv, zY_dv_ok, h, tb_t 59 (by decide +kernel) rfl, tb_t 4 (by decide +kernel) rfl, fun b j hj => by
  match j, hj with
  | 0, _ => rfl
  | 1, _ => rfl
  | j + 2, hj => omega⟩
theorem nw_mo {own : String} {idx : Nat} (h : Cond.classLink own idx "RecurrentSeriesModel" ∈ TB) : zNw own idx 5 13 [.int 0, .int 0, .null, .null, .null, .null, .null, .null, .null, .null, .null, .null, .null] := ⟨_, zT_mo, zY_mo, rfl, uw_mo, zY_mo_ok, h, tb_t 304 (by decide +kernel) rfl, tb_t 6 (by decide +kernel) rfl, fun b j hj => by
  match j, hj with
  | 0, _ => rfl
  | 1, _ => rfl
  | 2, _ => rfl
  | 3, _ => rfl
  | 4, _ => rfl
  | 5, _ => rfl
  | 6, _ => rfl
  | 7, _ => rfl
  | 8, _ => rfl
  | 9, _ => rfl
  | 10, _ => rfl
  | 11, _ => rfl
  | 12, _ => rfl
  | j + 13, hj => omega⟩
/-- an exact end -/
def zEq (r : Option Value) (n : Nat) (σ : zWd) : Option Value → Nat → zWd → Prop := fun r' n' σ' => r' = r ∧ n' = n ∧ σ' = σ
section ZC
variable {M M' : zMI} {Po Po' : Option Value → Nat → zWd → Prop} {n n' pc q idx : Nat} {σ σ' : zWd} {lv : List (Option Value)} {rest : List Value}
theorem z_gS0 (hd : decode (mB M) pc = .ok (.invokestatic idx, 3)) (hq : pc + 3 = q) (hM : Ct M' [] n σ Po') (hk : zCk M' 0) (hl : zLk (mY M).cls idx (mY M')) (hst : Cond.static (mY M') ∈ TB) (hR : zFit M M') (hcat : (rest.map fun v => v.category).sum ≤ 8) (h0 : (mR M').cells = 0) (h1 : (mR M').slots = 0) (k : ∀ (r : Option Value) (m : Nat) (τ : zWd), Po' r m τ → Z M Po 0 0 m τ q lv (r.toList ++ rest)) : Z M Po 0 0 n σ pc lv (rest) := z_callS (As := []) hd hq hM hk hl hst hR hcat (by omega) (by omega) (fun r m τ h => by rw [h0, h1]; exact k r m τ h)
theorem z_cS0 {v : Value} (hd : decode (mB M) pc = .ok (.invokestatic idx, 3)) (hq : pc + 3 = q) (hM : Ct M' [] n σ (zEq (some v) n' σ')) (hk : zCk M' 0) (hl : zLk (mY M).cls idx (mY M')) (hst : Cond.static (mY M') ∈ TB) (hR : zFit M M') (hcat : (rest.map fun v => v.category).sum ≤ 8) (h0 : (mR M').cells = 0) (h1 : (mR M').slots = 0) (k : Z M Po 0 0 n' σ' q lv (v :: rest)) : Z M Po 0 0 n σ pc lv (rest) := z_callS (As := []) hd hq hM hk hl hst hR hcat (by omega) (by omega) (fun r m τ h => by rw [h0, h1]; obtain ⟨rfl, rfl, rfl⟩ := h; exact k)
theorem z_cS0v (hd : decode (mB M) pc = .ok (.invokestatic idx, 3)) (hq : pc + 3 = q) (hM : Ct M' [] n σ (zEq none n' σ')) (hk : zCk M' 0) (hl : zLk (mY M).cls idx (mY M')) (hst : Cond.static (mY M') ∈ TB) (hR : zFit M M') (hcat : (rest.map fun v => v.category).sum ≤ 8) (h0 : (mR M').cells = 0) (h1 : (mR M').slots = 0) (k : Z M Po 0 0 n' σ' q lv rest) : Z M Po 0 0 n σ pc lv (rest) := z_callS (As := []) hd hq hM hk hl hst hR hcat (by omega) (by omega) (fun r m τ h => by rw [h0, h1]; obtain ⟨rfl, rfl, rfl⟩ := h; exact k)
theorem z_gV0 {i ci : Nat} {fs : List Value} {vc : vw_C} (hd : decode (mB M) pc = .ok (.invokevirtual idx, 3)) (hq : pc + 3 = q) (hM : Ct M' [.ref i] n σ Po') (hs : σ i = zO ci fs) (hi : i < n) (hvc : zCl[ci]? = some vc) (hk : zCk M' 0) (hl : zLk (mY M).cls idx (mY M')) (hst : Cond.instanceMethod (mY M') ∈ TB) (hsel : Cond.selects vc.1 (mY M') (mY M') ∈ TB) (hR : zFit M M') (hcat : (rest.map fun v => v.category).sum ≤ 8) (h0 : (mR M').cells = 0) (h1 : (mR M').slots = 0) (k : ∀ (r : Option Value) (m : Nat) (τ : zWd), Po' r m τ → Z M Po 0 0 m τ q lv (r.toList ++ rest)) : Z M Po 0 0 n σ pc lv (.ref i :: rest) := z_callV (As := []) hd hq hM hs hi hvc hk hl hst hsel hR hcat (by omega) (by omega) (fun r m τ h => by rw [h0, h1]; exact k r m τ h)
theorem z_cV0 {v : Value} {i ci : Nat} {fs : List Value} {vc : vw_C} (hd : decode (mB M) pc = .ok (.invokevirtual idx, 3)) (hq : pc + 3 = q) (hM : Ct M' [.ref i] n σ (zEq (some v) n' σ')) (hs : σ i = zO ci fs) (hi : i < n) (hvc : zCl[ci]? = some vc) (hk : zCk M' 0) (hl : zLk (mY M).cls idx (mY M')) (hst : Cond.instanceMethod (mY M') ∈ TB) (hsel : Cond.selects vc.1 (mY M') (mY M') ∈ TB) (hR : zFit M M') (hcat : (rest.map fun v => v.category).sum ≤ 8) (h0 : (mR M').cells = 0) (h1 : (mR M').slots = 0) (k : Z M Po 0 0 n' σ' q lv (v :: rest)) : Z M Po 0 0 n σ pc lv (.ref i :: rest) := z_callV (As := []) hd hq hM hs hi hvc hk hl hst hsel hR hcat (by omega) (by omega) (fun r m τ h => by rw [h0, h1]; obtain ⟨rfl, rfl, rfl⟩ := h; exact k)
theorem z_cV0v {i ci : Nat} {fs : List Value} {vc : vw_C} (hd : decode (mB M) pc = .ok (.invokevirtual idx, 3)) (hq : pc + 3 = q) (hM : Ct M' [.ref i] n σ (zEq none n' σ')) (hs : σ i = zO ci fs) (hi : i < n) (hvc : zCl[ci]? = some vc) (hk : zCk M' 0) (hl : zLk (mY M).cls idx (mY M')) (hst : Cond.instanceMethod (mY M') ∈ TB) (hsel : Cond.selects vc.1 (mY M') (mY M') ∈ TB) (hR : zFit M M') (hcat : (rest.map fun v => v.category).sum ≤ 8) (h0 : (mR M').cells = 0) (h1 : (mR M').slots = 0) (k : Z M Po 0 0 n' σ' q lv rest) : Z M Po 0 0 n σ pc lv (.ref i :: rest) := z_callV (As := []) hd hq hM hs hi hvc hk hl hst hsel hR hcat (by omega) (by omega) (fun r m τ h => by rw [h0, h1]; obtain ⟨rfl, rfl, rfl⟩ := h; exact k)
theorem z_gS1 {a0 : Value} (hd : decode (mB M) pc = .ok (.invokestatic idx, 3)) (hq : pc + 3 = q) (hM : Ct M' [a0] n σ Po') (hk : zCk M' 1) (hl : zLk (mY M).cls idx (mY M')) (hst : Cond.static (mY M') ∈ TB) (hR : zFit M M') (hcat : (rest.map fun v => v.category).sum ≤ 8) (h0 : (mR M').cells = 0) (h1 : (mR M').slots = 0) (k : ∀ (r : Option Value) (m : Nat) (τ : zWd), Po' r m τ → Z M Po 0 0 m τ q lv (r.toList ++ rest)) : Z M Po 0 0 n σ pc lv (a0 :: rest) := z_callS (As := [a0]) hd hq hM hk hl hst hR hcat (by omega) (by omega) (fun r m τ h => by rw [h0, h1]; exact k r m τ h)
theorem z_cS1 {a0 : Value} {v : Value} (hd : decode (mB M) pc = .ok (.invokestatic idx, 3)) (hq : pc + 3 = q) (hM : Ct M' [a0] n σ (zEq (some v) n' σ')) (hk : zCk M' 1) (hl : zLk (mY M).cls idx (mY M')) (hst : Cond.static (mY M') ∈ TB) (hR : zFit M M') (hcat : (rest.map fun v => v.category).sum ≤ 8) (h0 : (mR M').cells = 0) (h1 : (mR M').slots = 0) (k : Z M Po 0 0 n' σ' q lv (v :: rest)) : Z M Po 0 0 n σ pc lv (a0 :: rest) := z_callS (As := [a0]) hd hq hM hk hl hst hR hcat (by omega) (by omega) (fun r m τ h => by rw [h0, h1]; obtain ⟨rfl, rfl, rfl⟩ := h; exact k)
theorem z_cS1v {a0 : Value} (hd : decode (mB M) pc = .ok (.invokestatic idx, 3)) (hq : pc + 3 = q) (hM : Ct M' [a0] n σ (zEq none n' σ')) (hk : zCk M' 1) (hl : zLk (mY M).cls idx (mY M')) (hst : Cond.static (mY M') ∈ TB) (hR : zFit M M') (hcat : (rest.map fun v => v.category).sum ≤ 8) (h0 : (mR M').cells = 0) (h1 : (mR M').slots = 0) (k : Z M Po 0 0 n' σ' q lv rest) : Z M Po 0 0 n σ pc lv (a0 :: rest) := z_callS (As := [a0]) hd hq hM hk hl hst hR hcat (by omega) (by omega) (fun r m τ h => by rw [h0, h1]; obtain ⟨rfl, rfl, rfl⟩ := h; exact k)
theorem z_gV1 {a0 : Value} {i ci : Nat} {fs : List Value} {vc : vw_C} (hd : decode (mB M) pc = .ok (.invokevirtual idx, 3)) (hq : pc + 3 = q) (hM : Ct M' [.ref i, a0] n σ Po') (hs : σ i = zO ci fs) (hi : i < n) (hvc : zCl[ci]? = some vc) (hk : zCk M' 1) (hl : zLk (mY M).cls idx (mY M')) (hst : Cond.instanceMethod (mY M') ∈ TB) (hsel : Cond.selects vc.1 (mY M') (mY M') ∈ TB) (hR : zFit M M') (hcat : (rest.map fun v => v.category).sum ≤ 8) (h0 : (mR M').cells = 0) (h1 : (mR M').slots = 0) (k : ∀ (r : Option Value) (m : Nat) (τ : zWd), Po' r m τ → Z M Po 0 0 m τ q lv (r.toList ++ rest)) : Z M Po 0 0 n σ pc lv (a0 :: .ref i :: rest) := z_callV (As := [a0]) hd hq hM hs hi hvc hk hl hst hsel hR hcat (by omega) (by omega) (fun r m τ h => by rw [h0, h1]; exact k r m τ h)
theorem z_cV1 {a0 : Value} {v : Value} {i ci : Nat} {fs : List Value} {vc : vw_C} (hd : decode (mB M) pc = .ok (.invokevirtual idx, 3)) (hq : pc + 3 = q) (hM : Ct M' [.ref i, a0] n σ (zEq (some v) n' σ')) (hs : σ i = zO ci fs) (hi : i < n) (hvc : zCl[ci]? = some vc) (hk : zCk M' 1) (hl : zLk (mY M).cls idx (mY M')) (hst : Cond.instanceMethod (mY M') ∈ TB) (hsel : Cond.selects vc.1 (mY M') (mY M') ∈ TB) (hR : zFit M M') (hcat : (rest.map fun v => v.category).sum ≤ 8) (h0 : (mR M').cells = 0) (h1 : (mR M').slots = 0) (k : Z M Po 0 0 n' σ' q lv (v :: rest)) : Z M Po 0 0 n σ pc lv (a0 :: .ref i :: rest) := z_callV (As := [a0]) hd hq hM hs hi hvc hk hl hst hsel hR hcat (by omega) (by omega) (fun r m τ h => by rw [h0, h1]; obtain ⟨rfl, rfl, rfl⟩ := h; exact k)
theorem z_cV1v {a0 : Value} {i ci : Nat} {fs : List Value} {vc : vw_C} (hd : decode (mB M) pc = .ok (.invokevirtual idx, 3)) (hq : pc + 3 = q) (hM : Ct M' [.ref i, a0] n σ (zEq none n' σ')) (hs : σ i = zO ci fs) (hi : i < n) (hvc : zCl[ci]? = some vc) (hk : zCk M' 1) (hl : zLk (mY M).cls idx (mY M')) (hst : Cond.instanceMethod (mY M') ∈ TB) (hsel : Cond.selects vc.1 (mY M') (mY M') ∈ TB) (hR : zFit M M') (hcat : (rest.map fun v => v.category).sum ≤ 8) (h0 : (mR M').cells = 0) (h1 : (mR M').slots = 0) (k : Z M Po 0 0 n' σ' q lv rest) : Z M Po 0 0 n σ pc lv (a0 :: .ref i :: rest) := z_callV (As := [a0]) hd hq hM hs hi hvc hk hl hst hsel hR hcat (by omega) (by omega) (fun r m τ h => by rw [h0, h1]; obtain ⟨rfl, rfl, rfl⟩ := h; exact k)
theorem z_gS2 {a0 a1 : Value} (hd : decode (mB M) pc = .ok (.invokestatic idx, 3)) (hq : pc + 3 = q) (hM : Ct M' [a0, a1] n σ Po') (hk : zCk M' 2) (hl : zLk (mY M).cls idx (mY M')) (hst : Cond.static (mY M') ∈ TB) (hR : zFit M M') (hcat : (rest.map fun v => v.category).sum ≤ 8) (h0 : (mR M').cells = 0) (h1 : (mR M').slots = 0) (k : ∀ (r : Option Value) (m : Nat) (τ : zWd), Po' r m τ → Z M Po 0 0 m τ q lv (r.toList ++ rest)) : Z M Po 0 0 n σ pc lv (a1 :: a0 :: rest) := z_callS (As := [a0, a1]) hd hq hM hk hl hst hR hcat (by omega) (by omega) (fun r m τ h => by rw [h0, h1]; exact k r m τ h)
theorem z_cS2 {a0 a1 : Value} {v : Value} (hd : decode (mB M) pc = .ok (.invokestatic idx, 3)) (hq : pc + 3 = q) (hM : Ct M' [a0, a1] n σ (zEq (some v) n' σ')) (hk : zCk M' 2) (hl : zLk (mY M).cls idx (mY M')) (hst : Cond.static (mY M') ∈ TB) (hR : zFit M M') (hcat : (rest.map fun v => v.category).sum ≤ 8) (h0 : (mR M').cells = 0) (h1 : (mR M').slots = 0) (k : Z M Po 0 0 n' σ' q lv (v :: rest)) : Z M Po 0 0 n σ pc lv (a1 :: a0 :: rest) := z_callS (As := [a0, a1]) hd hq hM hk hl hst hR hcat (by omega) (by omega) (fun r m τ h => by rw [h0, h1]; obtain ⟨rfl, rfl, rfl⟩ := h; exact k)
theorem z_cS2v {a0 a1 : Value} (hd : decode (mB M) pc = .ok (.invokestatic idx, 3)) (hq : pc + 3 = q) (hM : Ct M' [a0, a1] n σ (zEq none n' σ')) (hk : zCk M' 2) (hl : zLk (mY M).cls idx (mY M')) (hst : Cond.static (mY M') ∈ TB) (hR : zFit M M') (hcat : (rest.map fun v => v.category).sum ≤ 8) (h0 : (mR M').cells = 0) (h1 : (mR M').slots = 0) (k : Z M Po 0 0 n' σ' q lv rest) : Z M Po 0 0 n σ pc lv (a1 :: a0 :: rest) := z_callS (As := [a0, a1]) hd hq hM hk hl hst hR hcat (by omega) (by omega) (fun r m τ h => by rw [h0, h1]; obtain ⟨rfl, rfl, rfl⟩ := h; exact k)
theorem z_gV2 {a0 a1 : Value} {i ci : Nat} {fs : List Value} {vc : vw_C} (hd : decode (mB M) pc = .ok (.invokevirtual idx, 3)) (hq : pc + 3 = q) (hM : Ct M' [.ref i, a0, a1] n σ Po') (hs : σ i = zO ci fs) (hi : i < n) (hvc : zCl[ci]? = some vc) (hk : zCk M' 2) (hl : zLk (mY M).cls idx (mY M')) (hst : Cond.instanceMethod (mY M') ∈ TB) (hsel : Cond.selects vc.1 (mY M') (mY M') ∈ TB) (hR : zFit M M') (hcat : (rest.map fun v => v.category).sum ≤ 8) (h0 : (mR M').cells = 0) (h1 : (mR M').slots = 0) (k : ∀ (r : Option Value) (m : Nat) (τ : zWd), Po' r m τ → Z M Po 0 0 m τ q lv (r.toList ++ rest)) : Z M Po 0 0 n σ pc lv (a1 :: a0 :: .ref i :: rest) := z_callV (As := [a0, a1]) hd hq hM hs hi hvc hk hl hst hsel hR hcat (by omega) (by omega) (fun r m τ h => by rw [h0, h1]; exact k r m τ h)
theorem z_cV2 {a0 a1 : Value} {v : Value} {i ci : Nat} {fs : List Value} {vc : vw_C} (hd : decode (mB M) pc = .ok (.invokevirtual idx, 3)) (hq : pc + 3 = q) (hM : Ct M' [.ref i, a0, a1] n σ (zEq (some v) n' σ')) (hs : σ i = zO ci fs) (hi : i < n) (hvc : zCl[ci]? = some vc) (hk : zCk M' 2) (hl : zLk (mY M).cls idx (mY M')) (hst : Cond.instanceMethod (mY M') ∈ TB) (hsel : Cond.selects vc.1 (mY M') (mY M') ∈ TB) (hR : zFit M M') (hcat : (rest.map fun v => v.category).sum ≤ 8) (h0 : (mR M').cells = 0) (h1 : (mR M').slots = 0) (k : Z M Po 0 0 n' σ' q lv (v :: rest)) : Z M Po 0 0 n σ pc lv (a1 :: a0 :: .ref i :: rest) := z_callV (As := [a0, a1]) hd hq hM hs hi hvc hk hl hst hsel hR hcat (by omega) (by omega) (fun r m τ h => by rw [h0, h1]; obtain ⟨rfl, rfl, rfl⟩ := h; exact k)
theorem z_cV2v {a0 a1 : Value} {i ci : Nat} {fs : List Value} {vc : vw_C} (hd : decode (mB M) pc = .ok (.invokevirtual idx, 3)) (hq : pc + 3 = q) (hM : Ct M' [.ref i, a0, a1] n σ (zEq none n' σ')) (hs : σ i = zO ci fs) (hi : i < n) (hvc : zCl[ci]? = some vc) (hk : zCk M' 2) (hl : zLk (mY M).cls idx (mY M')) (hst : Cond.instanceMethod (mY M') ∈ TB) (hsel : Cond.selects vc.1 (mY M') (mY M') ∈ TB) (hR : zFit M M') (hcat : (rest.map fun v => v.category).sum ≤ 8) (h0 : (mR M').cells = 0) (h1 : (mR M').slots = 0) (k : Z M Po 0 0 n' σ' q lv rest) : Z M Po 0 0 n σ pc lv (a1 :: a0 :: .ref i :: rest) := z_callV (As := [a0, a1]) hd hq hM hs hi hvc hk hl hst hsel hR hcat (by omega) (by omega) (fun r m τ h => by rw [h0, h1]; obtain ⟨rfl, rfl, rfl⟩ := h; exact k)
theorem z_gS3 {a0 a1 a2 : Value} (hd : decode (mB M) pc = .ok (.invokestatic idx, 3)) (hq : pc + 3 = q) (hM : Ct M' [a0, a1, a2] n σ Po') (hk : zCk M' 3) (hl : zLk (mY M).cls idx (mY M')) (hst : Cond.static (mY M') ∈ TB) (hR : zFit M M') (hcat : (rest.map fun v => v.category).sum ≤ 8) (h0 : (mR M').cells = 0) (h1 : (mR M').slots = 0) (k : ∀ (r : Option Value) (m : Nat) (τ : zWd), Po' r m τ → Z M Po 0 0 m τ q lv (r.toList ++ rest)) : Z M Po 0 0 n σ pc lv (a2 :: a1 :: a0 :: rest) := z_callS (As := [a0, a1, a2]) hd hq hM hk hl hst hR hcat (by omega) (by omega) (fun r m τ h => by rw [h0, h1]; exact k r m τ h)
theorem z_cS3 {a0 a1 a2 : Value} {v : Value} (hd : decode (mB M) pc = .ok (.invokestatic idx, 3)) (hq : pc + 3 = q) (hM : Ct M' [a0, a1, a2] n σ (zEq (some v) n' σ')) (hk : zCk M' 3) (hl : zLk (mY M).cls idx (mY M')) (hst : Cond.static (mY M') ∈ TB) (hR : zFit M M') (hcat : (rest.map fun v => v.category).sum ≤ 8) (h0 : (mR M').cells = 0) (h1 : (mR M').slots = 0) (k : Z M Po 0 0 n' σ' q lv (v :: rest)) : Z M Po 0 0 n σ pc lv (a2 :: a1 :: a0 :: rest) := z_callS (As := [a0, a1, a2]) hd hq hM hk hl hst hR hcat (by omega) (by omega) (fun r m τ h => by rw [h0, h1]; obtain ⟨rfl, rfl, rfl⟩ := h; exact k)
theorem z_cS3v {a0 a1 a2 : Value} (hd : decode (mB M) pc = .ok (.invokestatic idx, 3)) (hq : pc + 3 = q) (hM : Ct M' [a0, a1, a2] n σ (zEq none n' σ')) (hk : zCk M' 3) (hl : zLk (mY M).cls idx (mY M')) (hst : Cond.static (mY M') ∈ TB) (hR : zFit M M') (hcat : (rest.map fun v => v.category).sum ≤ 8) (h0 : (mR M').cells = 0) (h1 : (mR M').slots = 0) (k : Z M Po 0 0 n' σ' q lv rest) : Z M Po 0 0 n σ pc lv (a2 :: a1 :: a0 :: rest) := z_callS (As := [a0, a1, a2]) hd hq hM hk hl hst hR hcat (by omega) (by omega) (fun r m τ h => by rw [h0, h1]; obtain ⟨rfl, rfl, rfl⟩ := h; exact k)
theorem z_gV3 {a0 a1 a2 : Value} {i ci : Nat} {fs : List Value} {vc : vw_C} (hd : decode (mB M) pc = .ok (.invokevirtual idx, 3)) (hq : pc + 3 = q) (hM : Ct M' [.ref i, a0, a1, a2] n σ Po') (hs : σ i = zO ci fs) (hi : i < n) (hvc : zCl[ci]? = some vc) (hk : zCk M' 3) (hl : zLk (mY M).cls idx (mY M')) (hst : Cond.instanceMethod (mY M') ∈ TB) (hsel : Cond.selects vc.1 (mY M') (mY M') ∈ TB) (hR : zFit M M') (hcat : (rest.map fun v => v.category).sum ≤ 8) (h0 : (mR M').cells = 0) (h1 : (mR M').slots = 0) (k : ∀ (r : Option Value) (m : Nat) (τ : zWd), Po' r m τ → Z M Po 0 0 m τ q lv (r.toList ++ rest)) : Z M Po 0 0 n σ pc lv (a2 :: a1 :: a0 :: .ref i :: rest) := z_callV (As := [a0, a1, a2]) hd hq hM hs hi hvc hk hl hst hsel hR hcat (by omega) (by omega) (fun r m τ h => by rw [h0, h1]; exact k r m τ h)
theorem z_cV3 {a0 a1 a2 : Value} {v : Value} {i ci : Nat} {fs : List Value} {vc : vw_C} (hd : decode (mB M) pc = .ok (.invokevirtual idx, 3)) (hq : pc + 3 = q) (hM : Ct M' [.ref i, a0, a1, a2] n σ (zEq (some v) n' σ')) (hs : σ i = zO ci fs) (hi : i < n) (hvc : zCl[ci]? = some vc) (hk : zCk M' 3) (hl : zLk (mY M).cls idx (mY M')) (hst : Cond.instanceMethod (mY M') ∈ TB) (hsel : Cond.selects vc.1 (mY M') (mY M') ∈ TB) (hR : zFit M M') (hcat : (rest.map fun v => v.category).sum ≤ 8) (h0 : (mR M').cells = 0) (h1 : (mR M').slots = 0) (k : Z M Po 0 0 n' σ' q lv (v :: rest)) : Z M Po 0 0 n σ pc lv (a2 :: a1 :: a0 :: .ref i :: rest) := z_callV (As := [a0, a1, a2]) hd hq hM hs hi hvc hk hl hst hsel hR hcat (by omega) (by omega) (fun r m τ h => by rw [h0, h1]; obtain ⟨rfl, rfl, rfl⟩ := h; exact k)
theorem z_cV3v {a0 a1 a2 : Value} {i ci : Nat} {fs : List Value} {vc : vw_C} (hd : decode (mB M) pc = .ok (.invokevirtual idx, 3)) (hq : pc + 3 = q) (hM : Ct M' [.ref i, a0, a1, a2] n σ (zEq none n' σ')) (hs : σ i = zO ci fs) (hi : i < n) (hvc : zCl[ci]? = some vc) (hk : zCk M' 3) (hl : zLk (mY M).cls idx (mY M')) (hst : Cond.instanceMethod (mY M') ∈ TB) (hsel : Cond.selects vc.1 (mY M') (mY M') ∈ TB) (hR : zFit M M') (hcat : (rest.map fun v => v.category).sum ≤ 8) (h0 : (mR M').cells = 0) (h1 : (mR M').slots = 0) (k : Z M Po 0 0 n' σ' q lv rest) : Z M Po 0 0 n σ pc lv (a2 :: a1 :: a0 :: .ref i :: rest) := z_callV (As := [a0, a1, a2]) hd hq hM hs hi hvc hk hl hst hsel hR hcat (by omega) (by omega) (fun r m τ h => by rw [h0, h1]; obtain ⟨rfl, rfl, rfl⟩ := h; exact k)
theorem z_gS4 {a0 a1 a2 a3 : Value} (hd : decode (mB M) pc = .ok (.invokestatic idx, 3)) (hq : pc + 3 = q) (hM : Ct M' [a0, a1, a2, a3] n σ Po') (hk : zCk M' 4) (hl : zLk (mY M).cls idx (mY M')) (hst : Cond.static (mY M') ∈ TB) (hR : zFit M M') (hcat : (rest.map fun v => v.category).sum ≤ 8) (h0 : (mR M').cells = 0) (h1 : (mR M').slots = 0) (k : ∀ (r : Option Value) (m : Nat) (τ : zWd), Po' r m τ → Z M Po 0 0 m τ q lv (r.toList ++ rest)) : Z M Po 0 0 n σ pc lv (a3 :: a2 :: a1 :: a0 :: rest) := z_callS (As := [a0, a1, a2, a3]) hd hq hM hk hl hst hR hcat (by omega) (by omega) (fun r m τ h => by rw [h0, h1]; exact k r m τ h)
theorem z_cS4 {a0 a1 a2 a3 : Value} {v : Value} (hd : decode (mB M) pc = .ok (.invokestatic idx, 3)) (hq : pc + 3 = q) (hM : Ct M' [a0, a1, a2, a3] n σ (zEq (some v) n' σ')) (hk : zCk M' 4) (hl : zLk (mY M).cls idx (mY M')) (hst : Cond.static (mY M') ∈ TB) (hR : zFit M M') (hcat : (rest.map fun v => v.category).sum ≤ 8) (h0 : (mR M').cells = 0) (h1 : (mR M').slots = 0) (k : Z M Po 0 0 n' σ' q lv (v :: rest)) : Z M Po 0 0 n σ pc lv (a3 :: a2 :: a1 :: a0 :: rest) := z_callS (As := [a0, a1, a2, a3]) hd hq hM hk hl hst hR hcat (by omega) (by omega) (fun r m τ h => by rw [h0, h1]; obtain ⟨rfl, rfl, rfl⟩ := h; exact k)
theorem z_cS4v {a0 a1 a2 a3 : Value} (hd : decode (mB M) pc = .ok (.invokestatic idx, 3)) (hq : pc + 3 = q) (hM : Ct M' [a0, a1, a2, a3] n σ (zEq none n' σ')) (hk : zCk M' 4) (hl : zLk (mY M).cls idx (mY M')) (hst : Cond.static (mY M') ∈ TB) (hR : zFit M M') (hcat : (rest.map fun v => v.category).sum ≤ 8) (h0 : (mR M').cells = 0) (h1 : (mR M').slots = 0) (k : Z M Po 0 0 n' σ' q lv rest) : Z M Po 0 0 n σ pc lv (a3 :: a2 :: a1 :: a0 :: rest) := z_callS (As := [a0, a1, a2, a3]) hd hq hM hk hl hst hR hcat (by omega) (by omega) (fun r m τ h => by rw [h0, h1]; obtain ⟨rfl, rfl, rfl⟩ := h; exact k)
theorem z_gV4 {a0 a1 a2 a3 : Value} {i ci : Nat} {fs : List Value} {vc : vw_C} (hd : decode (mB M) pc = .ok (.invokevirtual idx, 3)) (hq : pc + 3 = q) (hM : Ct M' [.ref i, a0, a1, a2, a3] n σ Po') (hs : σ i = zO ci fs) (hi : i < n) (hvc : zCl[ci]? = some vc) (hk : zCk M' 4) (hl : zLk (mY M).cls idx (mY M')) (hst : Cond.instanceMethod (mY M') ∈ TB) (hsel : Cond.selects vc.1 (mY M') (mY M') ∈ TB) (hR : zFit M M') (hcat : (rest.map fun v => v.category).sum ≤ 8) (h0 : (mR M').cells = 0) (h1 : (mR M').slots = 0) (k : ∀ (r : Option Value) (m : Nat) (τ : zWd), Po' r m τ → Z M Po 0 0 m τ q lv (r.toList ++ rest)) : Z M Po 0 0 n σ pc lv (a3 :: a2 :: a1 :: a0 :: .ref i :: rest) := z_callV (As := [a0, a1, a2, a3]) hd hq hM hs hi hvc hk hl hst hsel hR hcat (by omega) (by omega) (fun r m τ h => by rw [h0, h1]; exact k r m τ h)
theorem z_cV4 {a0 a1 a2 a3 : Value} {v : Value} {i ci : Nat} {fs : List Value} {vc : vw_C} (hd : decode (mB M) pc = .ok (.invokevirtual idx, 3)) (hq : pc + 3 = q) (hM : Ct M' [.ref i, a0, a1, a2, a3] n σ (zEq (some v) n' σ')) (hs : σ i = zO ci fs) (hi : i < n) (hvc : zCl[ci]? = some vc) (hk : zCk M' 4) (hl : zLk (mY M).cls idx (mY M')) (hst : Cond.instanceMethod (mY M') ∈ TB) (hsel : Cond.selects vc.1 (mY M') (mY M') ∈ TB) (hR : zFit M M') (hcat : (rest.map fun v => v.category).sum ≤ 8) (h0 : (mR M').cells = 0) (h1 : (mR M').slots = 0) (k : Z M Po 0 0 n' σ' q lv (v :: rest)) : Z M Po 0 0 n σ pc lv (a3 :: a2 :: a1 :: a0 :: .ref i :: rest) := z_callV (As := [a0, a1, a2, a3]) hd hq hM hs hi hvc hk hl hst hsel hR hcat (by omega) (by omega) (fun r m τ h => by rw [h0, h1]; obtain ⟨rfl, rfl, rfl⟩ := h; exact k)
theorem z_cV4v {a0 a1 a2 a3 : Value} {i ci : Nat} {fs : List Value} {vc : vw_C} (hd : decode (mB M) pc = .ok (.invokevirtual idx, 3)) (hq : pc + 3 = q) (hM : Ct M' [.ref i, a0, a1, a2, a3] n σ (zEq none n' σ')) (hs : σ i = zO ci fs) (hi : i < n) (hvc : zCl[ci]? = some vc) (hk : zCk M' 4) (hl : zLk (mY M).cls idx (mY M')) (hst : Cond.instanceMethod (mY M') ∈ TB) (hsel : Cond.selects vc.1 (mY M') (mY M') ∈ TB) (hR : zFit M M') (hcat : (rest.map fun v => v.category).sum ≤ 8) (h0 : (mR M').cells = 0) (h1 : (mR M').slots = 0) (k : Z M Po 0 0 n' σ' q lv rest) : Z M Po 0 0 n σ pc lv (a3 :: a2 :: a1 :: a0 :: .ref i :: rest) := z_callV (As := [a0, a1, a2, a3]) hd hq hM hs hi hvc hk hl hst hsel hR hcat (by omega) (by omega) (fun r m τ h => by rw [h0, h1]; obtain ⟨rfl, rfl, rfl⟩ := h; exact k)
theorem z_gS5 {a0 a1 a2 a3 a4 : Value} (hd : decode (mB M) pc = .ok (.invokestatic idx, 3)) (hq : pc + 3 = q) (hM : Ct M' [a0, a1, a2, a3, a4] n σ Po') (hk : zCk M' 5) (hl : zLk (mY M).cls idx (mY M')) (hst : Cond.static (mY M') ∈ TB) (hR : zFit M M') (hcat : (rest.map fun v => v.category).sum ≤ 8) (h0 : (mR M').cells = 0) (h1 : (mR M').slots = 0) (k : ∀ (r : Option Value) (m : Nat) (τ : zWd), Po' r m τ → Z M Po 0 0 m τ q lv (r.toList ++ rest)) : Z M Po 0 0 n σ pc lv (a4 :: a3 :: a2 :: a1 :: a0 :: rest) := z_callS (As := [a0, a1, a2, a3, a4]) hd hq hM hk hl hst hR hcat (by omega) (by omega) (fun r m τ h => by rw [h0, h1]; exact k r m τ h)
theorem z_cS5 {a0 a1 a2 a3 a4 : Value} {v : Value} (hd : decode (mB M) pc = .ok (.invokestatic idx, 3)) (hq : pc + 3 = q) (hM : Ct M' [a0, a1, a2, a3, a4] n σ (zEq (some v) n' σ')) (hk : zCk M' 5) (hl : zLk (mY M).cls idx (mY M')) (hst : Cond.static (mY M') ∈ TB) (hR : zFit M M') (hcat : (rest.map fun v => v.category).sum ≤ 8) (h0 : (mR M').cells = 0) (h1 : (mR M').slots = 0) (k : Z M Po 0 0 n' σ' q lv (v :: rest)) : Z M Po 0 0 n σ pc lv (a4 :: a3 :: a2 :: a1 :: a0 :: rest) := z_callS (As := [a0, a1, a2, a3, a4]) hd hq hM hk hl hst hR hcat (by omega) (by omega) (fun r m τ h => by rw [h0, h1]; obtain ⟨rfl, rfl, rfl⟩ := h; exact k)
theorem z_cS5v {a0 a1 a2 a3 a4 : Value} (hd : decode (mB M) pc = .ok (.invokestatic idx, 3)) (hq : pc + 3 = q) (hM : Ct M' [a0, a1, a2, a3, a4] n σ (zEq none n' σ')) (hk : zCk M' 5) (hl : zLk (mY M).cls idx (mY M')) (hst : Cond.static (mY M') ∈ TB) (hR : zFit M M') (hcat : (rest.map fun v => v.category).sum ≤ 8) (h0 : (mR M').cells = 0) (h1 : (mR M').slots = 0) (k : Z M Po 0 0 n' σ' q lv rest) : Z M Po 0 0 n σ pc lv (a4 :: a3 :: a2 :: a1 :: a0 :: rest) := z_callS (As := [a0, a1, a2, a3, a4]) hd hq hM hk hl hst hR hcat (by omega) (by omega) (fun r m τ h => by rw [h0, h1]; obtain ⟨rfl, rfl, rfl⟩ := h; exact k)
theorem z_gV5 {a0 a1 a2 a3 a4 : Value} {i ci : Nat} {fs : List Value} {vc : vw_C} (hd : decode (mB M) pc = .ok (.invokevirtual idx, 3)) (hq : pc + 3 = q) (hM : Ct M' [.ref i, a0, a1, a2, a3, a4] n σ Po') (hs : σ i = zO ci fs) (hi : i < n) (hvc : zCl[ci]? = some vc) (hk : zCk M' 5) (hl : zLk (mY M).cls idx (mY M')) (hst : Cond.instanceMethod (mY M') ∈ TB) (hsel : Cond.selects vc.1 (mY M') (mY M') ∈ TB) (hR : zFit M M') (hcat : (rest.map fun v => v.category).sum ≤ 8) (h0 : (mR M').cells = 0) (h1 : (mR M').slots = 0) (k : ∀ (r : Option Value) (m : Nat) (τ : zWd), Po' r m τ → Z M Po 0 0 m τ q lv (r.toList ++ rest)) : Z M Po 0 0 n σ pc lv (a4 :: a3 :: a2 :: a1 :: a0 :: .ref i :: rest) := z_callV (As := [a0, a1, a2, a3, a4]) hd hq hM hs hi hvc hk hl hst hsel hR hcat (by omega) (by omega) (fun r m τ h => by rw [h0, h1]; exact k r m τ h)
theorem z_cV5 {a0 a1 a2 a3 a4 : Value} {v : Value} {i ci : Nat} {fs : List Value} {vc : vw_C} (hd : decode (mB M) pc = .ok (.invokevirtual idx, 3)) (hq : pc + 3 = q) (hM : Ct M' [.ref i, a0, a1, a2, a3, a4] n σ (zEq (some v) n' σ')) (hs : σ i = zO ci fs) (hi : i < n) (hvc : zCl[ci]? = some vc) (hk : zCk M' 5) (hl : zLk (mY M).cls idx (mY M')) (hst : Cond.instanceMethod (mY M') ∈ TB) (hsel : Cond.selects vc.1 (mY M') (mY M') ∈ TB) (hR : zFit M M') (hcat : (rest.map fun v => v.category).sum ≤ 8) (h0 : (mR M').cells = 0) (h1 : (mR M').slots = 0) (k : Z M Po 0 0 n' σ' q lv (v :: rest)) : Z M Po 0 0 n σ pc lv (a4 :: a3 :: a2 :: a1 :: a0 :: .ref i :: rest) := z_callV (As := [a0, a1, a2, a3, a4]) hd hq hM hs hi hvc hk hl hst hsel hR hcat (by omega) (by omega) (fun r m τ h => by rw [h0, h1]; obtain ⟨rfl, rfl, rfl⟩ := h; exact k)
theorem z_cV5v {a0 a1 a2 a3 a4 : Value} {i ci : Nat} {fs : List Value} {vc : vw_C} (hd : decode (mB M) pc = .ok (.invokevirtual idx, 3)) (hq : pc + 3 = q) (hM : Ct M' [.ref i, a0, a1, a2, a3, a4] n σ (zEq none n' σ')) (hs : σ i = zO ci fs) (hi : i < n) (hvc : zCl[ci]? = some vc) (hk : zCk M' 5) (hl : zLk (mY M).cls idx (mY M')) (hst : Cond.instanceMethod (mY M') ∈ TB) (hsel : Cond.selects vc.1 (mY M') (mY M') ∈ TB) (hR : zFit M M') (hcat : (rest.map fun v => v.category).sum ≤ 8) (h0 : (mR M').cells = 0) (h1 : (mR M').slots = 0) (k : Z M Po 0 0 n' σ' q lv rest) : Z M Po 0 0 n σ pc lv (a4 :: a3 :: a2 :: a1 :: a0 :: .ref i :: rest) := z_callV (As := [a0, a1, a2, a3, a4]) hd hq hM hs hi hvc hk hl hst hsel hR hcat (by omega) (by omega) (fun r m τ h => by rw [h0, h1]; obtain ⟨rfl, rfl, rfl⟩ := h; exact k)
theorem z_gS6 {a0 a1 a2 a3 a4 a5 : Value} (hd : decode (mB M) pc = .ok (.invokestatic idx, 3)) (hq : pc + 3 = q) (hM : Ct M' [a0, a1, a2, a3, a4, a5] n σ Po') (hk : zCk M' 6) (hl : zLk (mY M).cls idx (mY M')) (hst : Cond.static (mY M') ∈ TB) (hR : zFit M M') (hcat : (rest.map fun v => v.category).sum ≤ 8) (h0 : (mR M').cells = 0) (h1 : (mR M').slots = 0) (k : ∀ (r : Option Value) (m : Nat) (τ : zWd), Po' r m τ → Z M Po 0 0 m τ q lv (r.toList ++ rest)) : Z M Po 0 0 n σ pc lv (a5 :: a4 :: a3 :: a2 :: a1 :: a0 :: rest) := z_callS (As := [a0, a1, a2, a3, a4, a5]) hd hq hM hk hl hst hR hcat (by omega) (by omega) (fun r m τ h => by rw [h0, h1]; exact k r m τ h)
theorem z_cS6 {a0 a1 a2 a3 a4 a5 : Value} {v : Value} (hd : decode (mB M) pc = .ok (.invokestatic idx, 3)) (hq : pc + 3 = q) (hM : Ct M' [a0, a1, a2, a3, a4, a5] n σ (zEq (some v) n' σ')) (hk : zCk M' 6) (hl : zLk (mY M).cls idx (mY M')) (hst : Cond.static (mY M') ∈ TB) (hR : zFit M M') (hcat : (rest.map fun v => v.category).sum ≤ 8) (h0 : (mR M').cells = 0) (h1 : (mR M').slots = 0) (k : Z M Po 0 0 n' σ' q lv (v :: rest)) : Z M Po 0 0 n σ pc lv (a5 :: a4 :: a3 :: a2 :: a1 :: a0 :: rest) := z_callS (As := [a0, a1, a2, a3, a4, a5]) hd hq hM hk hl hst hR hcat (by omega) (by omega) (fun r m τ h => by rw [h0, h1]; obtain ⟨rfl, rfl, rfl⟩ := h; exact k)
theorem z_cS6v {a0 a1 a2 a3 a4 a5 : Value} (hd : decode (mB M) pc = .ok (.invokestatic idx, 3)) (hq : pc + 3 = q) (hM : Ct M' [a0, a1, a2, a3, a4, a5] n σ (zEq none n' σ')) (hk : zCk M' 6) (hl : zLk (mY M).cls idx (mY M')) (hst : Cond.static (mY M') ∈ TB) (hR : zFit M M') (hcat : (rest.map fun v => v.category).sum ≤ 8) (h0 : (mR M').cells = 0) (h1 : (mR M').slots = 0) (k : Z M Po 0 0 n' σ' q lv rest) : Z M Po 0 0 n σ pc lv (a5 :: a4 :: a3 :: a2 :: a1 :: a0 :: rest) := z_callS (As := [a0, a1, a2, a3, a4, a5]) hd hq hM hk hl hst hR hcat (by omega) (by omega) (fun r m τ h => by rw [h0, h1]; obtain ⟨rfl, rfl, rfl⟩ := h; exact k)
theorem z_gV6 {a0 a1 a2 a3 a4 a5 : Value} {i ci : Nat} {fs : List Value} {vc : vw_C} (hd : decode (mB M) pc = .ok (.invokevirtual idx, 3)) (hq : pc + 3 = q) (hM : Ct M' [.ref i, a0, a1, a2, a3, a4, a5] n σ Po') (hs : σ i = zO ci fs) (hi : i < n) (hvc : zCl[ci]? = some vc) (hk : zCk M' 6) (hl : zLk (mY M).cls idx (mY M')) (hst : Cond.instanceMethod (mY M') ∈ TB) (hsel : Cond.selects vc.1 (mY M') (mY M') ∈ TB) (hR : zFit M M') (hcat : (rest.map fun v => v.category).sum ≤ 8) (h0 : (mR M').cells = 0) (h1 : (mR M').slots = 0) (k : ∀ (r : Option Value) (m : Nat) (τ : zWd), Po' r m τ → Z M Po 0 0 m τ q lv (r.toList ++ rest)) : Z M Po 0 0 n σ pc lv (a5 :: a4 :: a3 :: a2 :: a1 :: a0 :: .ref i :: rest) := z_callV (As := [a0, a1, a2, a3, a4, a5]) hd hq hM hs hi hvc hk hl hst hsel hR hcat (by omega) (by omega) (fun r m τ h => by rw [h0, h1]; exact k r m τ h)
theorem z_cV6 {a0 a1 a2 a3 a4 a5 : Value} {v : Value} {i ci : Nat} {fs : List Value} {vc : vw_C} (hd : decode (mB M) pc = .ok (.invokevirtual idx, 3)) (hq : pc + 3 = q) (hM : Ct M' [.ref i, a0, a1, a2, a3, a4, a5] n σ (zEq (some v) n' σ')) (hs : σ i = zO ci fs) (hi : i < n) (hvc : zCl[ci]? = some vc) (hk : zCk M' 6) (hl : zLk (mY M).cls idx (mY M')) (hst : Cond.instanceMethod (mY M') ∈ TB) (hsel : Cond.selects vc.1 (mY M') (mY M') ∈ TB) (hR : zFit M M') (hcat : (rest.map fun v => v.category).sum ≤ 8) (h0 : (mR M').cells = 0) (h1 : (mR M').slots = 0) (k : Z M Po 0 0 n' σ' q lv (v :: rest)) : Z M Po 0 0 n σ pc lv (a5 :: a4 :: a3 :: a2 :: a1 :: a0 :: .ref i :: rest) := z_callV (As := [a0, a1, a2, a3, a4, a5]) hd hq hM hs hi hvc hk hl hst hsel hR hcat (by omega) (by omega) (fun r m τ h => by rw [h0, h1]; obtain ⟨rfl, rfl, rfl⟩ := h; exact k)
theorem z_cV6v {a0 a1 a2 a3 a4 a5 : Value} {i ci : Nat} {fs : List Value} {vc : vw_C} (hd : decode (mB M) pc = .ok (.invokevirtual idx, 3)) (hq : pc + 3 = q) (hM : Ct M' [.ref i, a0, a1, a2, a3, a4, a5] n σ (zEq none n' σ')) (hs : σ i = zO ci fs) (hi : i < n) (hvc : zCl[ci]? = some vc) (hk : zCk M' 6) (hl : zLk (mY M).cls idx (mY M')) (hst : Cond.instanceMethod (mY M') ∈ TB) (hsel : Cond.selects vc.1 (mY M') (mY M') ∈ TB) (hR : zFit M M') (hcat : (rest.map fun v => v.category).sum ≤ 8) (h0 : (mR M').cells = 0) (h1 : (mR M').slots = 0) (k : Z M Po 0 0 n' σ' q lv rest) : Z M Po 0 0 n σ pc lv (a5 :: a4 :: a3 :: a2 :: a1 :: a0 :: .ref i :: rest) := z_callV (As := [a0, a1, a2, a3, a4, a5]) hd hq hM hs hi hvc hk hl hst hsel hR hcat (by omega) (by omega) (fun r m τ h => by rw [h0, h1]; obtain ⟨rfl, rfl, rfl⟩ := h; exact k)
end ZC
end
