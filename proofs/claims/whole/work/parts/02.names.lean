/-! Names: classes with their fields in the order of the slots, methods with their code, types and rooms -/
def zT_rs : u_T := fun k => match k with
  | 0 => ("RecurrentSeries", "list", "[LRecurrentSeries$Series;", true)
  | 1 => ("RecurrentSeries", "row", "[J", true)
  | 2 => ("RecurrentSeries", "made", "[J", true)
  | 3 => ("RecurrentSeries", "walk", "[J", true)
  | 4 => ("RecurrentSeries", "finder", "LRecurrentSeries$Finder;", true)
  | 5 => ("RecurrentSeries", "seeker", "LRecurrentSeries$Seeker;", true)
  | 6 => ("RecurrentSeries", "divider", "LRecurrentSeries$Divider;", true)
  | 7 => ("RecurrentSeries", "listed", "I", false)
  | _ => ("RecurrentSeries", "given", "I", false)
def zY_rs : Nat → FieldType := fun k => match k with
  | 0 => .array (.object "RecurrentSeries$Series")
  | 1 => .array .long
  | 2 => .array .long
  | 3 => .array .long
  | 4 => .object "RecurrentSeries$Finder"
  | 5 => .object "RecurrentSeries$Seeker"
  | 6 => .object "RecurrentSeries$Divider"
  | 7 => .int
  | _ => .int
theorem zY_rs_ok : ∀ k, k < 9 → parseFieldDescriptor (zT_rs k).2.2.1 = some (zY_rs k) := by decide +kernel
theorem zT_rs_nm : ∀ a, a < 9 → ∀ b, b < 9 → a ≠ b → (zT_rs a).2.1 ≠ (zT_rs b).2.1 := by decide +kernel
def zT_se : u_T := fun k => match k with
  | 0 => ("RecurrentSeries$Series", "order", "I", false)
  | 1 => ("RecurrentSeries$Series", "coefficients", "[J", true)
  | _ => ("RecurrentSeries$Series", "terms", "[J", true)
def zY_se : Nat → FieldType := fun k => match k with
  | 0 => .int
  | 1 => .array .long
  | _ => .array .long
theorem zY_se_ok : ∀ k, k < 3 → parseFieldDescriptor (zT_se k).2.2.1 = some (zY_se k) := by decide +kernel
theorem zT_se_nm : ∀ a, a < 3 → ∀ b, b < 3 → a ≠ b → (zT_se a).2.1 ≠ (zT_se b).2.1 := by decide +kernel
def zT_fi : u_T := fun k => match k with
  | 0 => ("RecurrentSeries$Finder", "now", "[J", false)
  | 1 => ("RecurrentSeries$Finder", "before", "[J", false)
  | _ => ("RecurrentSeries$Finder", "spare", "[J", false)
def zY_fi : Nat → FieldType := fun k => match k with
  | 0 => .array .long
  | 1 => .array .long
  | _ => .array .long
theorem zY_fi_ok : ∀ k, k < 3 → parseFieldDescriptor (zT_fi k).2.2.1 = some (zY_fi k) := by decide +kernel
theorem zT_fi_nm : ∀ a, a < 3 → ∀ b, b < 3 → a ≠ b → (zT_fi a).2.1 ≠ (zT_fi b).2.1 := by decide +kernel
def zT_sk : u_T := fun k => match k with
  | 0 => ("RecurrentSeries$Seeker", "top", "[J", false)
  | 1 => ("RecurrentSeries$Seeker", "bottom", "[J", false)
  | 2 => ("RecurrentSeries$Seeker", "nextTop", "[J", false)
  | 3 => ("RecurrentSeries$Seeker", "nextBottom", "[J", false)
  | _ => ("RecurrentSeries$Seeker", "mirrored", "[J", true)
def zY_sk : Nat → FieldType := fun k => match k with
  | 0 => .array .long
  | 1 => .array .long
  | 2 => .array .long
  | 3 => .array .long
  | _ => .array .long
theorem zY_sk_ok : ∀ k, k < 5 → parseFieldDescriptor (zT_sk k).2.2.1 = some (zY_sk k) := by decide +kernel
theorem zT_sk_nm : ∀ a, a < 5 → ∀ b, b < 5 → a ≠ b → (zT_sk a).2.1 ≠ (zT_sk b).2.1 := by decide +kernel
def zT_dv : u_T := fun k => match k with
  | 0 => ("RecurrentSeries$Divider", "first", "[J", true)
  | _ => ("RecurrentSeries$Divider", "second", "[J", true)
def zY_dv : Nat → FieldType := fun k => match k with
  | 0 => .array .long
  | _ => .array .long
theorem zY_dv_ok : ∀ k, k < 2 → parseFieldDescriptor (zT_dv k).2.2.1 = some (zY_dv k) := by decide +kernel
theorem zT_dv_nm : ∀ a, a < 2 → ∀ b, b < 2 → a ≠ b → (zT_dv a).2.1 ≠ (zT_dv b).2.1 := by decide +kernel
def zT_mo : u_T := fun k => match k with
  | 0 => ("RecurrentSeriesModel", "size", "I", false)
  | 1 => ("RecurrentSeriesModel", "given", "I", false)
  | 2 => ("RecurrentSeriesModel", "row", "[J", true)
  | 3 => ("RecurrentSeriesModel", "orders", "[I", true)
  | 4 => ("RecurrentSeriesModel", "coefs", "[J", true)
  | 5 => ("RecurrentSeriesModel", "firsts", "[J", true)
  | 6 => ("RecurrentSeriesModel", "t", "[J", true)
  | 7 => ("RecurrentSeriesModel", "grid", "[J", true)
  | 8 => ("RecurrentSeriesModel", "pivot", "[I", true)
  | 9 => ("RecurrentSeriesModel", "step", "[J", true)
  | 10 => ("RecurrentSeriesModel", "square", "[J", true)
  | 11 => ("RecurrentSeriesModel", "vector", "[J", true)
  | _ => ("RecurrentSeriesModel", "moved", "[J", true)
def zY_mo : Nat → FieldType := fun k => match k with
  | 0 => .int
  | 1 => .int
  | 2 => .array .long
  | 3 => .array .int
  | 4 => .array .long
  | 5 => .array .long
  | 6 => .array .long
  | 7 => .array .long
  | 8 => .array .int
  | 9 => .array .long
  | 10 => .array .long
  | 11 => .array .long
  | _ => .array .long
theorem zY_mo_ok : ∀ k, k < 13 → parseFieldDescriptor (zT_mo k).2.2.1 = some (zY_mo k) := by decide +kernel
theorem zT_mo_nm : ∀ a, a < 13 → ∀ b, b < 13 → a ≠ b → (zT_mo a).2.1 ≠ (zT_mo b).2.1 := by decide +kernel
abbrev zCl : List vw_C := [("RecurrentSeries", zT_rs, 9), ("RecurrentSeries$Series", zT_se, 3), ("RecurrentSeries$Finder", zT_fi, 3), ("RecurrentSeries$Seeker", zT_sk, 5), ("RecurrentSeries$Divider", zT_dv, 2), ("RecurrentSeriesModel", zT_mo, 13)]
abbrev zMI : Type := MethodName × ByteArray × Nat × Option FieldType × Room
abbrev m_rs_init : zMI := (⟨"RecurrentSeries", "<init>", "()V"⟩, prog_1_method_1_code, 2, none, { frames := 2, cells := 77, slots := 5514, locals := 40 })
abbrev m_rs_give : zMI := (⟨"RecurrentSeries", "give", "(I)Z"⟩, prog_1_method_2_code, 2, some FieldType.boolean, { frames := 1, cells := 0, slots := 0, locals := 22 })
abbrev m_rs_clear : zMI := (⟨"RecurrentSeries", "clear", "()I"⟩, prog_1_method_3_code, 2, some FieldType.int, { frames := 0, cells := 0, slots := 0, locals := 0 })
abbrev m_rs_leaf : zMI := (⟨"RecurrentSeries", "leaf", "(I)I"⟩, prog_1_method_4_code, 4, some FieldType.int, { frames := 4, cells := 0, slots := 0, locals := 107 })
abbrev m_rs_combine : zMI := (⟨"RecurrentSeries", "combine", "(IIII)I"⟩, prog_1_method_5_code, 14, some FieldType.int, { frames := 4, cells := 0, slots := 0, locals := 107 })
abbrev m_rs_product : zMI := (⟨"RecurrentSeries", "product", "(II)I"⟩, prog_1_method_6_code, 11, some FieldType.int, { frames := 4, cells := 0, slots := 0, locals := 107 })
abbrev m_rs_pairwise : zMI := (⟨"RecurrentSeries", "pairwise", "(II)I"⟩, prog_1_method_7_code, 8, some FieldType.int, { frames := 4, cells := 0, slots := 0, locals := 107 })
abbrev m_rs_derivative : zMI := (⟨"RecurrentSeries", "derivative", "(I)I"⟩, prog_1_method_8_code, 6, some FieldType.int, { frames := 4, cells := 0, slots := 0, locals := 107 })
abbrev m_rs_tail : zMI := (⟨"RecurrentSeries", "tail", "(I)I"⟩, prog_1_method_9_code, 6, some FieldType.int, { frames := 4, cells := 0, slots := 0, locals := 107 })
abbrev m_rs_delay : zMI := (⟨"RecurrentSeries", "delay", "(I)I"⟩, prog_1_method_10_code, 6, some FieldType.int, { frames := 4, cells := 0, slots := 0, locals := 107 })
abbrev m_rs_sums : zMI := (⟨"RecurrentSeries", "sums", "(I)I"⟩, prog_1_method_11_code, 8, some FieldType.int, { frames := 4, cells := 0, slots := 0, locals := 107 })
abbrev m_rs_section : zMI := (⟨"RecurrentSeries", "section", "(III)I"⟩, prog_1_method_12_code, 8, some FieldType.int, { frames := 4, cells := 0, slots := 0, locals := 107 })
abbrev m_rs_spread : zMI := (⟨"RecurrentSeries", "spread", "(II)I"⟩, prog_1_method_13_code, 7, some FieldType.int, { frames := 4, cells := 0, slots := 0, locals := 107 })
abbrev m_rs_forget : zMI := (⟨"RecurrentSeries", "forget", "()Z"⟩, prog_1_method_14_code, 1, some FieldType.boolean, { frames := 0, cells := 0, slots := 0, locals := 0 })
abbrev m_rs_count : zMI := (⟨"RecurrentSeries", "count", "()I"⟩, prog_1_method_15_code, 1, some FieldType.int, { frames := 0, cells := 0, slots := 0, locals := 0 })
abbrev m_rs_order : zMI := (⟨"RecurrentSeries", "order", "(I)I"⟩, prog_1_method_16_code, 2, some FieldType.int, { frames := 1, cells := 0, slots := 0, locals := 21 })
abbrev m_rs_coefficient : zMI := (⟨"RecurrentSeries", "coefficient", "(II)I"⟩, prog_1_method_17_code, 3, some FieldType.int, { frames := 1, cells := 0, slots := 0, locals := 21 })
abbrev m_rs_term : zMI := (⟨"RecurrentSeries", "term", "(IJ)I"⟩, prog_1_method_18_code, 4, some FieldType.int, { frames := 4, cells := 0, slots := 0, locals := 99 })
abbrev m_rs_differ : zMI := (⟨"RecurrentSeries", "differ", "(II)I"⟩, prog_1_method_19_code, 6, some FieldType.int, { frames := 1, cells := 0, slots := 0, locals := 21 })
abbrev m_rs_obeys : zMI := (⟨"RecurrentSeries", "obeys", "(I)Z"⟩, prog_1_method_20_code, 4, some FieldType.boolean, { frames := 2, cells := 0, slots := 0, locals := 51 })
abbrev m_rs_shared : zMI := (⟨"RecurrentSeries", "shared", "(II)I"⟩, prog_1_method_21_code, 5, some FieldType.int, { frames := 4, cells := 0, slots := 0, locals := 109 })
abbrev m_rs_isListed : zMI := (⟨"RecurrentSeries", "isListed", "(I)Z"⟩, prog_1_method_22_code, 2, some FieldType.boolean, { frames := 0, cells := 0, slots := 0, locals := 0 })
abbrev m_rs_numberFor : zMI := (⟨"RecurrentSeries", "numberFor", "(I)I"⟩, prog_1_method_23_code, 2, some FieldType.int, { frames := 0, cells := 0, slots := 0, locals := 0 })
abbrev m_rs_othersFit : zMI := (⟨"RecurrentSeries", "othersFit", "(I)Z"⟩, prog_1_method_24_code, 3, some FieldType.boolean, { frames := 2, cells := 0, slots := 0, locals := 51 })
abbrev m_rs_enlist : zMI := (⟨"RecurrentSeries", "enlist", "(I)I"⟩, prog_1_method_25_code, 4, some FieldType.int, { frames := 3, cells := 0, slots := 0, locals := 84 })
abbrev m_mo_init : zMI := (⟨"RecurrentSeriesModel", "<init>", "()V"⟩, prog_8_method_1_code, 1, none, { frames := 1, cells := 11, slots := 7020, locals := 20 })
abbrev m_mo_number : zMI := (⟨"RecurrentSeriesModel", "number", "(I)J"⟩, prog_8_method_2_code, 3, some FieldType.long, { frames := 0, cells := 0, slots := 0, locals := 0 })
abbrev m_mo_inverse : zMI := (⟨"RecurrentSeriesModel", "inverse", "(J)J"⟩, prog_8_method_3_code, 8, some FieldType.long, { frames := 0, cells := 0, slots := 0, locals := 0 })
abbrev m_mo_isIn : zMI := (⟨"RecurrentSeriesModel", "isIn", "(I)Z"⟩, prog_8_method_4_code, 2, some FieldType.boolean, { frames := 0, cells := 0, slots := 0, locals := 0 })
abbrev m_mo_expand : zMI := (⟨"RecurrentSeriesModel", "expand", "(III)V"⟩, prog_8_method_5_code, 9, none, { frames := 0, cells := 0, slots := 0, locals := 0 })
abbrev m_mo_ask : zMI := (⟨"RecurrentSeriesModel", "ask", "(IIII)V"⟩, prog_8_method_6_code, 8, none, { frames := 0, cells := 0, slots := 0, locals := 0 })
abbrev m_mo_swapRows : zMI := (⟨"RecurrentSeriesModel", "swapRows", "(III)V"⟩, prog_8_method_7_code, 7, none, { frames := 0, cells := 0, slots := 0, locals := 0 })
abbrev m_mo_clean : zMI := (⟨"RecurrentSeriesModel", "clean", "(IIII)V"⟩, prog_8_method_8_code, 13, none, { frames := 1, cells := 0, slots := 0, locals := 27 })
abbrev m_mo_solve : zMI := (⟨"RecurrentSeriesModel", "solve", "(II)Z"⟩, prog_8_method_9_code, 6, some FieldType.boolean, { frames := 2, cells := 0, slots := 0, locals := 59 })
abbrev m_mo_settle : zMI := (⟨"RecurrentSeriesModel", "settle", "(I)I"⟩, prog_8_method_10_code, 4, some FieldType.int, { frames := 3, cells := 0, slots := 0, locals := 84 })
abbrev m_mo_give : zMI := (⟨"RecurrentSeriesModel", "give", "(I)Z"⟩, prog_8_method_11_code, 2, some FieldType.boolean, { frames := 1, cells := 0, slots := 0, locals := 22 })
abbrev m_mo_clear : zMI := (⟨"RecurrentSeriesModel", "clear", "()I"⟩, prog_8_method_12_code, 2, some FieldType.int, { frames := 0, cells := 0, slots := 0, locals := 0 })
abbrev m_mo_leaf : zMI := (⟨"RecurrentSeriesModel", "leaf", "(I)I"⟩, prog_8_method_13_code, 6, some FieldType.int, { frames := 4, cells := 0, slots := 0, locals := 107 })
abbrev m_mo_refusal : zMI := (⟨"RecurrentSeriesModel", "refusal", "(ZI)I"⟩, prog_8_method_14_code, 3, some FieldType.int, { frames := 0, cells := 0, slots := 0, locals := 0 })
abbrev m_mo_orderOf : zMI := (⟨"RecurrentSeriesModel", "orderOf", "(I)I"⟩, prog_8_method_15_code, 2, some FieldType.int, { frames := 1, cells := 0, slots := 0, locals := 21 })
abbrev m_mo_combine : zMI := (⟨"RecurrentSeriesModel", "combine", "(IIII)I"⟩, prog_8_method_16_code, 12, some FieldType.int, { frames := 4, cells := 0, slots := 0, locals := 107 })
abbrev m_mo_product : zMI := (⟨"RecurrentSeriesModel", "product", "(II)I"⟩, prog_8_method_17_code, 9, some FieldType.int, { frames := 4, cells := 0, slots := 0, locals := 107 })
abbrev m_mo_pairwise : zMI := (⟨"RecurrentSeriesModel", "pairwise", "(II)I"⟩, prog_8_method_18_code, 6, some FieldType.int, { frames := 4, cells := 0, slots := 0, locals := 107 })
abbrev m_mo_derivative : zMI := (⟨"RecurrentSeriesModel", "derivative", "(I)I"⟩, prog_8_method_19_code, 5, some FieldType.int, { frames := 4, cells := 0, slots := 0, locals := 107 })
abbrev m_mo_tail : zMI := (⟨"RecurrentSeriesModel", "tail", "(I)I"⟩, prog_8_method_20_code, 2, some FieldType.int, { frames := 5, cells := 0, slots := 0, locals := 133 })
abbrev m_mo_delay : zMI := (⟨"RecurrentSeriesModel", "delay", "(I)I"⟩, prog_8_method_21_code, 5, some FieldType.int, { frames := 4, cells := 0, slots := 0, locals := 107 })
abbrev m_mo_sums : zMI := (⟨"RecurrentSeriesModel", "sums", "(I)I"⟩, prog_8_method_22_code, 7, some FieldType.int, { frames := 4, cells := 0, slots := 0, locals := 107 })
abbrev m_mo_section : zMI := (⟨"RecurrentSeriesModel", "section", "(III)I"⟩, prog_8_method_23_code, 7, some FieldType.int, { frames := 4, cells := 0, slots := 0, locals := 107 })
abbrev m_mo_spread : zMI := (⟨"RecurrentSeriesModel", "spread", "(II)I"⟩, prog_8_method_24_code, 7, some FieldType.int, { frames := 4, cells := 0, slots := 0, locals := 107 })
abbrev m_mo_forget : zMI := (⟨"RecurrentSeriesModel", "forget", "()Z"⟩, prog_8_method_25_code, 1, some FieldType.boolean, { frames := 0, cells := 0, slots := 0, locals := 0 })
abbrev m_mo_count : zMI := (⟨"RecurrentSeriesModel", "count", "()I"⟩, prog_8_method_26_code, 1, some FieldType.int, { frames := 0, cells := 0, slots := 0, locals := 0 })
abbrev m_mo_order : zMI := (⟨"RecurrentSeriesModel", "order", "(I)I"⟩, prog_8_method_27_code, 2, some FieldType.int, { frames := 1, cells := 0, slots := 0, locals := 21 })
abbrev m_mo_coefficient : zMI := (⟨"RecurrentSeriesModel", "coefficient", "(II)I"⟩, prog_8_method_28_code, 3, some FieldType.int, { frames := 2, cells := 0, slots := 0, locals := 42 })
abbrev m_mo_makeStep : zMI := (⟨"RecurrentSeriesModel", "makeStep", "(II)V"⟩, prog_8_method_29_code, 5, none, { frames := 0, cells := 0, slots := 0, locals := 0 })
abbrev m_mo_applyStep : zMI := (⟨"RecurrentSeriesModel", "applyStep", "(I)V"⟩, prog_8_method_30_code, 6, none, { frames := 0, cells := 0, slots := 0, locals := 0 })
abbrev m_mo_squareStep : zMI := (⟨"RecurrentSeriesModel", "squareStep", "(I)V"⟩, prog_8_method_31_code, 7, none, { frames := 0, cells := 0, slots := 0, locals := 0 })
abbrev m_mo_term : zMI := (⟨"RecurrentSeriesModel", "term", "(IJ)I"⟩, prog_8_method_32_code, 7, some FieldType.int, { frames := 1, cells := 0, slots := 0, locals := 26 })
abbrev m_mo_differ : zMI := (⟨"RecurrentSeriesModel", "differ", "(II)I"⟩, prog_8_method_33_code, 5, some FieldType.int, { frames := 1, cells := 0, slots := 0, locals := 28 })
abbrev m_mo_obeys : zMI := (⟨"RecurrentSeriesModel", "obeys", "(I)Z"⟩, prog_8_method_34_code, 6, some FieldType.boolean, { frames := 1, cells := 0, slots := 0, locals := 28 })
abbrev m_mo_shared : zMI := (⟨"RecurrentSeriesModel", "shared", "(II)I"⟩, prog_8_method_35_code, 6, some FieldType.int, { frames := 3, cells := 0, slots := 0, locals := 84 })
abbrev m_dv_init : zMI := (⟨"RecurrentSeries$Divider", "<init>", "()V"⟩, prog_2_method_1_code, 1, none, { frames := 1, cells := 2, slots := 98, locals := 20 })
abbrev m_dv_commonDegree : zMI := (⟨"RecurrentSeries$Divider", "commonDegree", "(LRecurrentSeries$Series;LRecurrentSeries$Series;)I"⟩, prog_2_method_2_code, 10, some FieldType.int, { frames := 3, cells := 0, slots := 0, locals := 80 })
abbrev m_dv_load : zMI := (⟨"RecurrentSeries$Divider", "load", "([JLRecurrentSeries$Series;)V"⟩, prog_2_method_3_code, 3, none, { frames := 1, cells := 0, slots := 0, locals := 23 })
abbrev m_dv_reduce : zMI := (⟨"RecurrentSeries$Divider", "reduce", "([JI[JI)I"⟩, prog_2_method_4_code, 11, some FieldType.int, { frames := 2, cells := 0, slots := 0, locals := 50 })
abbrev m_fi_init : zMI := (⟨"RecurrentSeries$Finder", "<init>", "()V"⟩, prog_3_method_1_code, 1, none, { frames := 1, cells := 3, slots := 144, locals := 20 })
abbrev m_fi_find : zMI := (⟨"RecurrentSeries$Finder", "find", "([JILRecurrentSeries$Series;)V"⟩, prog_3_method_2_code, 14, none, { frames := 2, cells := 0, slots := 0, locals := 51 })
abbrev m_fi_mend : zMI := (⟨"RecurrentSeries$Finder", "mend", "(JII)V"⟩, prog_3_method_3_code, 6, none, { frames := 1, cells := 0, slots := 0, locals := 23 })
abbrev m_fi_keepUnmended : zMI := (⟨"RecurrentSeries$Finder", "keepUnmended", "()V"⟩, prog_3_method_4_code, 2, none, { frames := 0, cells := 0, slots := 0, locals := 0 })
abbrev m_fi_erase : zMI := (⟨"RecurrentSeries$Finder", "erase", "([J)V"⟩, prog_3_method_5_code, 2, none, { frames := 0, cells := 0, slots := 0, locals := 0 })
abbrev m_nu_of : zMI := (⟨"RecurrentSeries$Numbers", "of", "(I)J"⟩, prog_4_method_2_code, 3, some FieldType.long, { frames := 0, cells := 0, slots := 0, locals := 0 })
abbrev m_nu_plus : zMI := (⟨"RecurrentSeries$Numbers", "plus", "(JJ)J"⟩, prog_4_method_3_code, 4, some FieldType.long, { frames := 0, cells := 0, slots := 0, locals := 0 })
abbrev m_nu_minus : zMI := (⟨"RecurrentSeries$Numbers", "minus", "(JJ)J"⟩, prog_4_method_4_code, 4, some FieldType.long, { frames := 0, cells := 0, slots := 0, locals := 0 })
abbrev m_nu_times : zMI := (⟨"RecurrentSeries$Numbers", "times", "(JJ)J"⟩, prog_4_method_5_code, 4, some FieldType.long, { frames := 0, cells := 0, slots := 0, locals := 0 })
abbrev m_nu_plusTimes : zMI := (⟨"RecurrentSeries$Numbers", "plusTimes", "(JJJ)J"⟩, prog_4_method_6_code, 6, some FieldType.long, { frames := 0, cells := 0, slots := 0, locals := 0 })
abbrev m_nu_inverse : zMI := (⟨"RecurrentSeries$Numbers", "inverse", "(J)J"⟩, prog_4_method_7_code, 8, some FieldType.long, { frames := 1, cells := 0, slots := 0, locals := 23 })
abbrev m_nu_foretold : zMI := (⟨"RecurrentSeries$Numbers", "foretold", "([JI[JI)J"⟩, prog_4_method_8_code, 7, some FieldType.long, { frames := 1, cells := 0, slots := 0, locals := 25 })
abbrev m_sk_init : zMI := (⟨"RecurrentSeries$Seeker", "<init>", "()V"⟩, prog_5_method_1_code, 1, none, { frames := 1, cells := 5, slots := 245, locals := 20 })
abbrev m_sk_seek : zMI := (⟨"RecurrentSeries$Seeker", "seek", "(LRecurrentSeries$Series;J)J"⟩, prog_5_method_2_code, 5, some FieldType.long, { frames := 3, cells := 0, slots := 0, locals := 75 })
abbrev m_sk_load : zMI := (⟨"RecurrentSeries$Seeker", "load", "(LRecurrentSeries$Series;)V"⟩, prog_5_method_3_code, 5, none, { frames := 2, cells := 0, slots := 0, locals := 51 })
abbrev m_sk_halve : zMI := (⟨"RecurrentSeries$Seeker", "halve", "(II)V"⟩, prog_5_method_4_code, 4, none, { frames := 2, cells := 0, slots := 0, locals := 51 })
abbrev m_sk_timesMirrored : zMI := (⟨"RecurrentSeries$Seeker", "timesMirrored", "([JII)J"⟩, prog_5_method_5_code, 7, some FieldType.long, { frames := 1, cells := 0, slots := 0, locals := 25 })
abbrev m_se_init : zMI := (⟨"RecurrentSeries$Series", "<init>", "()V"⟩, prog_6_method_1_code, 1, none, { frames := 1, cells := 2, slots := 136, locals := 20 })
abbrev m_se_writeTerms : zMI := (⟨"RecurrentSeries$Series", "writeTerms", "([JI)V"⟩, prog_6_method_2_code, 4, none, { frames := 2, cells := 0, slots := 0, locals := 51 })
abbrev m_ma_max : zMI := (⟨"java/lang/Math", "max", "(II)I"⟩, prog_9_method_65_code, 2, some FieldType.int, { frames := 0, cells := 0, slots := 0, locals := 0 })
