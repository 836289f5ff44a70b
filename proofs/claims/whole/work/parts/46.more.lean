/-! More methods of the reference -/
theorem MS.row {li gi : Nat} {row od : Nat → Nat} {cf ts : Nat → Nat → Nat} {σ : zWd} {li' gi' : Nat} {row' : Nat → Nat} (h : MS li gi row od cf ts σ) (hg : ∀ j, row' j < 2147483647) (hl : li' ≤ li) (hg' : gi' ≤ 40) : MS li' gi' row' od cf ts (va_up (va_up σ 79 (zN 40 row')) 78 (m0_ li' gi')) := by
  obtain ⟨⟨h0, ⟨h1, h1'⟩, ⟨f, h2, h2'⟩, ⟨g1, h3, h3', h3''⟩, ⟨g2, h4, h4', h4''⟩, h5, h6, h7⟩, hs⟩ := h
  have e : ∀ j, j ≠ 78 → j ≠ 79 → va_up (va_up σ 79 (zN 40 row')) 78 (m0_ li' gi') j = σ j := fun j q1 q2 => by rw [zu_ne q1, zu_ne q2]
  exact ⟨⟨zu_same, ⟨by rw [zu_ne (by omega), zu_same], hg⟩, ⟨f, by rw [e 80 (by omega) (by omega)]; exact h2, fun k hk => h2' k (by omega)⟩, ⟨g1, by rw [e 81 (by omega) (by omega)]; exact h3, h3', fun k hk => h3'' k (by omega)⟩, ⟨g2, by rw [e 82 (by omega) (by omega)]; exact h4, h4', fun k hk => h4'' k (by omega)⟩, fun k hk => h5 k (by omega), by omega, hg'⟩, hs.congr (fun j _ _ => e j (by omega) (by omega))⟩
theorem mm_give {σ : zWd} {li gi : Nat} {row od : Nat → Nat} {cf ts : Nat → Nat → Nat} (h : MS li gi row od cf ts σ) (v : Int32) : Ct m_mo_give [.ref 78, .int v] 90 σ (GV MS FrM σ li gi row od cf ts v) := by
  have hms := h
  obtain ⟨hMc, hMs⟩ := h
  have hMc' := hMc
  have hMs' := hMs
  obtain ⟨h0, ⟨h1, h1'⟩, ⟨fo, h2, h2'⟩, ⟨g1, h3, h3', h3''⟩, ⟨g2, h4, h4', h4''⟩, h5, h6, h7⟩ := hMc
  have h0' : σ 78 = zO 5 [.int (nI li), .int (nI gi), .ref 79, .ref 80, .ref 81, .ref 82, .ref 83, .ref 84, .ref 85, .ref 86, .ref 87, .ref 88, .ref 89] := h0
  obtain ⟨⟨gt, hgt, hgtP⟩, -⟩ := hMs
  refine Ct.of (lv := [some (.ref 78), some (.int v)]) 0 (by decide) rfl (Nat.le_of_ble_eq_true rfl) ?_
  refine z_ald0 (q := 1) d_mo_give_0 rfl ?_
  refine z_get 1 (q := 4) d_mo_give_1 rfl fg_mo_71 (by first | assumption | omega) (by first | assumption | omega) (by rfl) ?_
  refine z_bipush (v := nI 40) (q := 6) d_mo_give_4 rfl (by decide) ?_
  refine zn_icmp_lt (q := 9) (tgt := 11) d_mo_give_6 rfl (by decide) (by omega) (by omega) (fun hb => ?_) (fun hb => ?_)
  · refine z_ald0 (q := 12) d_mo_give_11 rfl ?_
    refine z_get 2 (q := 15) d_mo_give_12 rfl fg_mo_7 (by first | assumption | omega) (by first | assumption | omega) (by rfl) ?_
    refine z_ald0 (q := 16) d_mo_give_15 rfl ?_
    refine z_get 1 (q := 19) d_mo_give_16 rfl fg_mo_71 (by first | assumption | omega) (by first | assumption | omega) (by rfl) ?_
    refine z_ild1 (q := 20) d_mo_give_19 rfl ?_
    refine z_cS1 (q := 23) d_mo_give_20 rfl (mt_number 90 σ v) ck_mo_number lk_mo_74 st_mo_number ⟨by decide, by decide⟩ (Nat.le_of_ble_eq_true rfl) rfl rfl ?_
    refine z_lastore (q := 24) d_mo_give_23 rfl (by first | assumption | omega) (by first | assumption | omega) (by omega) (by omega) ?_
    have y0 : va_up σ 79 (zN 40 (va_up row gi (nu_ v))) 78 = zO 5 [.int (nI li), .int (nI gi), .ref 79, .ref 80, .ref 81, .ref 82, .ref 83, .ref 84, .ref 85, .ref 86, .ref 87, .ref 88, .ref 89] := by rw [zu_ne (by omega)]; exact h0
    refine z_ald0 (q := 25) d_mo_give_24 rfl ?_
    first | refine z_dup_r (q := 26) d_mo_give_25 rfl ?_ | refine z_dup_i (q := 26) d_mo_give_25 rfl ?_
    refine z_get 1 (q := 29) d_mo_give_26 rfl fg_mo_71 (by first | assumption | omega) (by first | assumption | omega) (by rfl) ?_
    refine z_iconst (v := nI 1) (q := 30) d_mo_give_29 rfl (by decide) ?_
    first | refine zn_iadd (q := 31) d_mo_give_30 rfl ?_ | refine z_iadd (q := 31) d_mo_give_30 rfl ?_
    refine z_put 1 (q := 34) d_mo_give_31 rfl fg_mo_71 ft_mo fk_mo_71 (by first | assumption | omega) (by first | assumption | omega) (fun _ => rfl) (fun _ => rfl) (by simp) ?_
    refine z_iconst (v := nI 1) (q := 35) d_mo_give_34 rfl (by decide) ?_
    refine z_zret d_mo_give_35 rfl rfl (Nat.le_refl _) (Nat.le_refl _) ⟨rfl, fun j hj => by rw [zu_ne (by omega), zu_ne (by omega)], Or.inr ⟨by omega, rfl, ?_⟩⟩
    exact hms.row (up_lt h1' (nu_lt v)) (Nat.le_refl _) (by omega)
  · refine z_iconst (v := nI 0) (q := 10) d_mo_give_9 rfl (by decide) ?_
    exact z_zret d_mo_give_10 rfl rfl (Nat.le_refl _) (Nat.le_refl _) ⟨rfl, fun _ _ => rfl, Or.inl ⟨by omega, rfl, hms⟩⟩
theorem mm_clear {σ : zWd} {li gi : Nat} {row od : Nat → Nat} {cf ts : Nat → Nat → Nat} (h : MS li gi row od cf ts σ) : Ct m_mo_clear [.ref 78] 90 σ (CL MS FrM σ li gi row od cf ts) := by
  have hms := h
  obtain ⟨hMc, hMs⟩ := h
  have hMc' := hMc
  have hMs' := hMs
  obtain ⟨h0, ⟨h1, h1'⟩, ⟨fo, h2, h2'⟩, ⟨g1, h3, h3', h3''⟩, ⟨g2, h4, h4', h4''⟩, h5, h6, h7⟩ := hMc
  have h0' : σ 78 = zO 5 [.int (nI li), .int (nI gi), .ref 79, .ref 80, .ref 81, .ref 82, .ref 83, .ref 84, .ref 85, .ref 86, .ref 87, .ref 88, .ref 89] := h0
  obtain ⟨⟨gt, hgt, hgtP⟩, -⟩ := hMs
  refine Ct.of (lv := [some (.ref 78), none]) 1 (by decide) rfl (Nat.le_of_ble_eq_true rfl) ?_
  refine z_ald0 (q := 1) d_mo_clear_0 rfl ?_
  refine z_get 1 (q := 4) d_mo_clear_1 rfl fg_mo_71 (by first | assumption | omega) (by first | assumption | omega) (by rfl) ?_
  refine z_ist1 (q := 5) d_mo_clear_4 rfl rfl ?_
  refine z_ald0 (q := 6) d_mo_clear_5 rfl ?_
  refine z_iconst (v := nI 0) (q := 7) d_mo_clear_6 rfl (by decide) ?_
  refine z_put 1 (q := 10) d_mo_clear_7 rfl fg_mo_71 ft_mo fk_mo_71 (by first | assumption | omega) (by first | assumption | omega) (fun _ => rfl) (fun _ => rfl) (by simp) ?_
  refine z_ild1 (q := 11) d_mo_clear_10 rfl ?_
  refine z_iret d_mo_clear_11 rfl (Nat.le_refl _) (Nat.le_refl _) ⟨rfl, fun j hj => by rw [zu_ne (by omega)], rfl, ?_⟩
  have := hms.row (row' := row) h1' (Nat.le_refl _) (Nat.zero_le 40)
  rw [← zu_id h1] at this
  exact this
theorem mm_forget {σ : zWd} {li gi : Nat} {row od : Nat → Nat} {cf ts : Nat → Nat → Nat} (h : MS li gi row od cf ts σ) : Ct m_mo_forget [.ref 78] 90 σ (FG MS FrM σ li gi row od cf ts) := by
  have hms := h
  obtain ⟨hMc, hMs⟩ := h
  have hMc' := hMc
  have hMs' := hMs
  obtain ⟨h0, ⟨h1, h1'⟩, ⟨fo, h2, h2'⟩, ⟨g1, h3, h3', h3''⟩, ⟨g2, h4, h4', h4''⟩, h5, h6, h7⟩ := hMc
  have h0' : σ 78 = zO 5 [.int (nI li), .int (nI gi), .ref 79, .ref 80, .ref 81, .ref 82, .ref 83, .ref 84, .ref 85, .ref 86, .ref 87, .ref 88, .ref 89] := h0
  obtain ⟨⟨gt, hgt, hgtP⟩, -⟩ := hMs
  refine Ct.of (lv := [some (.ref 78)]) 0 (by decide) rfl (Nat.le_of_ble_eq_true rfl) ?_
  refine z_ald0 (q := 1) d_mo_forget_0 rfl ?_
  refine z_get 0 (q := 4) d_mo_forget_1 rfl fg_mo_48 (by first | assumption | omega) (by first | assumption | omega) (by rfl) ?_
  refine zi_if_ne (q := 7) (tgt := 9) d_mo_forget_4 rfl (by decide) (by omega) (fun hb => ?_) (fun hb => ?_)
  · refine z_ald0 (q := 10) d_mo_forget_9 rfl ?_
    first | refine z_dup_r (q := 11) d_mo_forget_10 rfl ?_ | refine z_dup_i (q := 11) d_mo_forget_10 rfl ?_
    refine z_get 0 (q := 14) d_mo_forget_11 rfl fg_mo_48 (by first | assumption | omega) (by first | assumption | omega) (by rfl) ?_
    refine z_iconst (v := nI 1) (q := 15) d_mo_forget_14 rfl (by decide) ?_
    first | refine zn_isub (q := 16) d_mo_forget_15 rfl (by omega) ?_ | refine z_isub (q := 16) d_mo_forget_15 rfl ?_
    refine z_put 0 (q := 19) d_mo_forget_16 rfl fg_mo_48 ft_mo fk_mo_48 (by first | assumption | omega) (by first | assumption | omega) (fun _ => rfl) (fun _ => rfl) (by simp) ?_
    refine z_iconst (v := nI 1) (q := 20) d_mo_forget_19 rfl (by decide) ?_
    refine z_zret d_mo_forget_20 rfl rfl (Nat.le_refl _) (Nat.le_refl _) ⟨rfl, fun j hj => by rw [zu_ne (by omega)], Or.inr ⟨hb, rfl, ?_⟩⟩
    have := hms.row (row' := row) (li' := li - 1) h1' (by omega) h7
    rw [← zu_id h1] at this
    exact this
  · refine z_iconst (v := nI 0) (q := 8) d_mo_forget_7 rfl (by decide) ?_
    exact z_zret d_mo_forget_8 rfl rfl (Nat.le_refl _) (Nat.le_refl _) ⟨rfl, fun _ _ => rfl, Or.inl ⟨hb, rfl, hms⟩⟩
theorem mm_count {σ : zWd} {li gi : Nat} {row od : Nat → Nat} {cf ts : Nat → Nat → Nat} (h : MS li gi row od cf ts σ) : Ct m_mo_count [.ref 78] 90 σ (AS MS FrM σ li gi row od cf ts (fun v => v = nI li)) := by
  have hms := h
  obtain ⟨hMc, hMs⟩ := h
  have hMc' := hMc
  have hMs' := hMs
  obtain ⟨h0, ⟨h1, h1'⟩, ⟨fo, h2, h2'⟩, ⟨g1, h3, h3', h3''⟩, ⟨g2, h4, h4', h4''⟩, h5, h6, h7⟩ := hMc
  have h0' : σ 78 = zO 5 [.int (nI li), .int (nI gi), .ref 79, .ref 80, .ref 81, .ref 82, .ref 83, .ref 84, .ref 85, .ref 86, .ref 87, .ref 88, .ref 89] := h0
  obtain ⟨⟨gt, hgt, hgtP⟩, -⟩ := hMs
  refine Ct.of (lv := [some (.ref 78)]) 0 (by decide) rfl (Nat.le_of_ble_eq_true rfl) ?_
  refine z_ald0 (q := 1) d_mo_count_0 rfl ?_
  refine z_get 0 (q := 4) d_mo_count_1 rfl fg_mo_48 (by first | assumption | omega) (by first | assumption | omega) (by rfl) ?_
  exact z_iret d_mo_count_4 rfl (Nat.le_refl _) (Nat.le_refl _) ⟨rfl, fun _ _ => rfl, ⟨_, rfl, rfl⟩, hms⟩
theorem mm_order {σ : zWd} {li gi : Nat} {row od : Nat → Nat} {cf ts : Nat → Nat → Nat} (h : MS li gi row od cf ts σ) (k : Int32) : Ct m_mo_order [.ref 78, .int k] 90 σ (AS MS FrM σ li gi row od cf ts (qOrd li od k)) := by
  have hms := h
  obtain ⟨hMc, hMs⟩ := h
  have hMc' := hMc
  have hMs' := hMs
  obtain ⟨h0, ⟨h1, h1'⟩, ⟨fo, h2, h2'⟩, ⟨g1, h3, h3', h3''⟩, ⟨g2, h4, h4', h4''⟩, h5, h6, h7⟩ := hMc
  have h0' : σ 78 = zO 5 [.int (nI li), .int (nI gi), .ref 79, .ref 80, .ref 81, .ref 82, .ref 83, .ref 84, .ref 85, .ref 86, .ref 87, .ref 88, .ref 89] := h0
  obtain ⟨⟨gt, hgt, hgtP⟩, -⟩ := hMs
  by_cases hk : isL li k
  · have hk' := hk
    obtain ⟨a, ha, rfl⟩ := hk
    refine Ct.of (lv := [some (.ref 78), some (.int (nI a))]) 0 (by decide) rfl (Nat.le_of_ble_eq_true rfl) ?_
    refine z_ald0 (q := 1) d_mo_order_0 rfl ?_
    refine z_ild1 (q := 2) d_mo_order_1 rfl ?_
    refine z_cV1 (q := 5) d_mo_order_2 rfl (mt_isIn_yes h0 (by omega) h6 ha) (by first | assumption | omega) (by first | assumption | omega) rfl ck_mo_isIn lk_mo_82 im_mo_isIn sl_mo_isIn ⟨by decide, by decide⟩ (Nat.le_of_ble_eq_true rfl) rfl rfl ?_
    refine zi_if_eq (q := 8) (tgt := 17) d_mo_order_5 rfl (by decide) (by omega) (fun hb => absurd hb (by omega)) (fun _ => ?_)
    refine z_ald0 (q := 9) d_mo_order_8 rfl ?_
    refine z_get 3 (q := 12) d_mo_order_9 rfl fg_mo_13 (by first | assumption | omega) (by first | assumption | omega) (by rfl) ?_
    refine z_ild1 (q := 13) d_mo_order_12 rfl ?_
    refine z_iaload (q := 14) d_mo_order_13 rfl (by first | assumption | omega) (by first | assumption | omega) (by omega) (by omega) ?_
    rw [h2' a ha]
    refine z_goto (tgt := 18) d_mo_order_14 (by decide) ?_
    exact z_iret d_mo_order_18 rfl (Nat.le_refl _) (Nat.le_refl _) ⟨rfl, fun _ _ => rfl, ⟨_, rfl, Or.inr ⟨hk', by rw [nI_clamp (by omega)]⟩⟩, hms⟩
  · refine Ct.of (lv := [some (.ref 78), some (.int k)]) 0 (by decide) rfl (Nat.le_of_ble_eq_true rfl) ?_
    refine z_ald0 (q := 1) d_mo_order_0 rfl ?_
    refine z_ild1 (q := 2) d_mo_order_1 rfl ?_
    refine z_cV1 (q := 5) d_mo_order_2 rfl (mt_isIn_no h0 (by omega) h6 hk) (by first | assumption | omega) (by first | assumption | omega) rfl ck_mo_isIn lk_mo_82 im_mo_isIn sl_mo_isIn ⟨by decide, by decide⟩ (Nat.le_of_ble_eq_true rfl) rfl rfl ?_
    refine zi_if_eq (q := 8) (tgt := 17) d_mo_order_5 rfl (by decide) (by omega) (fun _ => ?_) (fun hb => absurd rfl hb)
    refine z_iconst (v := (-1)) (q := 18) d_mo_order_17 rfl (by decide) ?_
    exact z_iret d_mo_order_18 rfl (Nat.le_refl _) (Nat.le_refl _) ⟨rfl, fun _ _ => rfl, ⟨_, rfl, Or.inl ⟨hk, rfl⟩⟩, hms⟩
theorem mm_coefficient {σ : zWd} {li gi : Nat} {row od : Nat → Nat} {cf ts : Nat → Nat → Nat} (h : MS li gi row od cf ts σ) (k i : Int32) : Ct m_mo_coefficient [.ref 78, .int k, .int i] 90 σ (AS MS FrM σ li gi row od cf ts (qCo li od cf k i)) := by
  have hms := h
  obtain ⟨hMc, hMs⟩ := h
  have hMc' := hMc
  have hMs' := hMs
  obtain ⟨h0, ⟨h1, h1'⟩, ⟨fo, h2, h2'⟩, ⟨g1, h3, h3', h3''⟩, ⟨g2, h4, h4', h4''⟩, h5, h6, h7⟩ := hMc
  have h0' : σ 78 = zO 5 [.int (nI li), .int (nI gi), .ref 79, .ref 80, .ref 81, .ref 82, .ref 83, .ref 84, .ref 85, .ref 86, .ref 87, .ref 88, .ref 89] := h0
  obtain ⟨⟨gt, hgt, hgtP⟩, -⟩ := hMs
  refine Ct.of (lv := [some (.ref 78), some (.int k), some (.int i)]) 0 (by decide) rfl (Nat.le_of_ble_eq_true rfl) ?_
  have bad : ¬ (isL li k ∧ isR 1 (od k.toNatClampNeg) i) → Z m_mo_coefficient (AS MS FrM σ li gi row od cf ts (qCo li od cf k i)) 0 0 90 σ 31 [some (.ref 78), some (.int k), some (.int i)] [] := by
    intro hbad
    refine z_iconst (v := (-1)) (q := 32) d_mo_coefficient_31 rfl (by decide) ?_
    exact z_iret d_mo_coefficient_32 rfl (Nat.le_refl _) (Nat.le_refl _) ⟨rfl, fun _ _ => rfl, ⟨_, rfl, Or.inl ⟨hbad, rfl⟩⟩, hms⟩
  refine z_ild2 (q := 1) d_mo_coefficient_0 rfl ?_
  refine z_iconst (v := nI 1) (q := 2) d_mo_coefficient_1 rfl (by decide) ?_
  refine z_icmp_lt (q := 5) (tgt := 31) d_mo_coefficient_2 rfl (by decide) (fun hb => bad (fun hh => ?_)) (fun hb1 => ?_)
  · obtain ⟨b, hb1, hb2, rfl⟩ := hh.2
    obtain ⟨a, ha, rfl⟩ := hh.1
    rw [nI_clamp (by omega)] at hb2
    have := (h5 a ha).1
    exact absurd ((nI_ltI (by omega) (by omega)).mp hb) (by omega)
  · by_cases hk : isL li k
    · have hk' := hk
      obtain ⟨a, ha, rfl⟩ := hk
      have ea : (nI a).toNatClampNeg = a := nI_clamp (by omega)
      have hSa := h5 a ha
      have hoa := hSa.1
      refine z_ild2 (q := 6) d_mo_coefficient_5 rfl ?_
      refine z_ald0 (q := 7) d_mo_coefficient_6 rfl ?_
      refine z_ild1 (q := 8) d_mo_coefficient_7 rfl ?_
      refine z_cV1 (q := 11) d_mo_coefficient_8 rfl (mt_orderOf_yes h0 h2 (h2' a ha) (by omega) h6 ha) (by first | assumption | omega) (by first | assumption | omega) rfl ck_mo_orderOf lk_mo_86 im_mo_orderOf sl_mo_orderOf ⟨by decide, by decide⟩ (Nat.le_of_ble_eq_true rfl) rfl rfl ?_
      refine z_icmp_gt (q := 14) (tgt := 31) d_mo_coefficient_11 rfl (by decide) (fun hb => bad (fun hh => ?_)) (fun hb2 => ?_)
      · obtain ⟨b, q1, q2, rfl⟩ := hh.2
        rw [ea] at q2
        exact absurd ((nI_ltI (by omega) (by omega)).mp hb) (by omega)
      · have hi : isR 1 (od a) i := by
          by_cases hz : 1 ≤ od a
          · exact isR_of (by omega) hb1 (Int32.not_lt.mp hb2) hz
          · exfalso
            have e1 : (nI 1).toInt = 1 := nI_toInt (by decide)
            have e2 : (nI (od a)).toInt = (od a : Int) := nI_toInt (by omega)
            rw [Int32.lt_iff_toInt_lt, e1] at hb1
            rw [Int32.lt_iff_toInt_lt, e2] at hb2
            omega
        have hi' := hi
        obtain ⟨b, q1, q2, rfl⟩ := hi
        have e9 : g1 (24 * a + b - 1) = cf a (b - 1) := by
          rw [show 24 * a + b - 1 = 24 * a + (b - 1) by omega]
          exact h3'' a ha (b - 1) (by omega)
        refine z_ald0 (q := 15) d_mo_coefficient_14 rfl ?_
        refine z_get 4 (q := 18) d_mo_coefficient_15 rfl fg_mo_17 (by first | assumption | omega) (by first | assumption | omega) (by rfl) ?_
        refine z_bipush (v := nI 24) (q := 20) d_mo_coefficient_18 rfl (by decide) ?_
        refine z_ild1 (q := 21) d_mo_coefficient_20 rfl ?_
        first | refine zn_imul (q := 22) d_mo_coefficient_21 rfl ?_ | refine z_imul (q := 22) d_mo_coefficient_21 rfl ?_
        refine z_ild2 (q := 23) d_mo_coefficient_22 rfl ?_
        first | refine zn_iadd (q := 24) d_mo_coefficient_23 rfl ?_ | refine z_iadd (q := 24) d_mo_coefficient_23 rfl ?_
        refine z_iconst (v := nI 1) (q := 25) d_mo_coefficient_24 rfl (by decide) ?_
        first | refine zn_isub (q := 26) d_mo_coefficient_25 rfl (by omega) ?_ | refine z_isub (q := 26) d_mo_coefficient_25 rfl ?_
        refine z_laload (q := 27) d_mo_coefficient_26 rfl (by first | assumption | omega) (by first | assumption | omega) (by omega) (by omega) ?_
        rw [e9]
        first | refine zn_l2i (q := 28) d_mo_coefficient_27 rfl ?_ | refine z_l2i (q := 28) d_mo_coefficient_27 rfl ?_
        refine z_goto (tgt := 32) d_mo_coefficient_28 (by decide) ?_
        exact z_iret d_mo_coefficient_32 rfl (Nat.le_refl _) (Nat.le_refl _) ⟨rfl, fun _ _ => rfl, ⟨_, rfl, Or.inr ⟨⟨hk', by rw [ea]; exact hi'⟩, by rw [ea, nI_clamp (by omega)]⟩⟩, hms⟩
    · have hbad := bad (fun hh => hk hh.1)
      refine z_ild2 (q := 6) d_mo_coefficient_5 rfl ?_
      refine z_ald0 (q := 7) d_mo_coefficient_6 rfl ?_
      refine z_ild1 (q := 8) d_mo_coefficient_7 rfl ?_
      refine z_cV1 (q := 11) d_mo_coefficient_8 rfl (mt_orderOf_no h0 (by omega) h6 hk) (by first | assumption | omega) (by first | assumption | omega) rfl ck_mo_orderOf lk_mo_86 im_mo_orderOf sl_mo_orderOf ⟨by decide, by decide⟩ (Nat.le_of_ble_eq_true rfl) rfl rfl ?_
      refine z_icmp_gt (q := 14) (tgt := 31) d_mo_coefficient_11 rfl (by decide) (fun _ => hbad) (fun hb2 => ?_)
      exfalso
      have e1 : (nI 1).toInt = 1 := nI_toInt (by decide)
      have e2 : (nI 0).toInt = 0 := nI_toInt (by decide)
      rw [Int32.lt_iff_toInt_lt, e1] at hb1
      rw [Int32.lt_iff_toInt_lt, e2] at hb2
      omega
theorem mm_section {σ : zWd} {li gi : Nat} {row od : Nat → Nat} {cf ts : Nat → Nat → Nat} (h : MS li gi row od cf ts σ) (j m i : Int32) : Ct m_mo_section [.ref 78, .int j, .int m, .int i] 90 σ (MK MS FrM σ li gi row od cf ts (isL li j ∧ isR 1 24 m ∧ isR 0 1000 i) (od j.toNatClampNeg) (fun n => ts j.toNatClampNeg (m.toNatClampNeg * n + i.toNatClampNeg))) := by
  have hms := h
  obtain ⟨hMc, hMs⟩ := h
  have hMc' := hMc
  have hMs' := hMs
  obtain ⟨h0, ⟨h1, h1'⟩, ⟨fo, h2, h2'⟩, ⟨g1, h3, h3', h3''⟩, ⟨g2, h4, h4', h4''⟩, h5, h6, h7⟩ := hMc
  have h0' : σ 78 = zO 5 [.int (nI li), .int (nI gi), .ref 79, .ref 80, .ref 81, .ref 82, .ref 83, .ref 84, .ref 85, .ref 86, .ref 87, .ref 88, .ref 89] := h0
  obtain ⟨⟨gt, hgt, hgtP⟩, -⟩ := hMs
  have bad : ∀ (v : Int32) (t5 t6 : Option Value), ¬ (isL li j ∧ isR 1 24 m ∧ isR 0 1000 i) → Z m_mo_section (MK MS FrM σ li gi row od cf ts (isL li j ∧ isR 1 24 m ∧ isR 0 1000 i) (od j.toNatClampNeg) (fun n => ts j.toNatClampNeg (m.toNatClampNeg * n + i.toNatClampNeg))) 0 0 90 σ 42 [some (.ref 78), some (.int j), some (.int m), some (.int i), some (.int v), t5, t6] [.ref 78] := by
    intro v t5 t6 hbad
    refine z_iconst (v := nI 0) (q := 43) d_mo_section_42 rfl (by decide) ?_
    refine z_ild4 (q := 45) d_mo_section_43 rfl ?_
    refine z_cV2 (q := 48) d_mo_section_45 rfl (mt_refusal_bad) (by first | assumption | omega) (by first | assumption | omega) rfl ck_mo_refusal lk_mo_89 im_mo_refusal sl_mo_refusal ⟨by decide, by decide⟩ (Nat.le_of_ble_eq_true rfl) rfl rfl ?_
    refine z_ist5 (q := 50) d_mo_section_48 rfl rfl ?_
    refine z_ild5 (q := 52) d_mo_section_50 rfl ?_
    refine z_if_ge (q := 55) (tgt := 58) d_mo_section_52 rfl (by decide) (fun hb => absurd hb (by decide)) (fun _ => ?_)
    refine z_ild5 (q := 57) d_mo_section_55 rfl ?_
    exact z_iret d_mo_section_57 rfl (Nat.le_refl _) (Nat.le_refl _) (Or.inl ⟨hbad, rfl, rfl, fun _ _ => rfl, hms⟩)
  by_cases hj : isL li j
  · by_cases hm : isR 1 24 m
    · by_cases hi : isR 0 1000 i
      · have hgood : isL li j ∧ isR 1 24 m ∧ isR 0 1000 i := ⟨hj, hm, hi⟩
        clear bad
        obtain ⟨a, ha, rfl⟩ := hj
        obtain ⟨b, hb1, hb2, rfl⟩ := hm
        obtain ⟨i, hi1, hi2, rfl⟩ := hi
        rw [nI_clamp (by omega), nI_clamp (by omega), nI_clamp (by omega)]
        have hSa := h5 a ha
        have hoa := hSa.1
        refine Ct.of (lv := [some (.ref 78), some (.int (nI a)), some (.int (nI b)), some (.int (nI i)), none, none, none]) 3 (by decide) rfl (Nat.le_of_ble_eq_true rfl) ?_
        generalize hPo : MK MS FrM σ li gi row od cf ts (isL li (nI a) ∧ isR 1 24 (nI b) ∧ isR 0 1000 (nI i)) (od a) (fun n => ts a (b * n + i)) = Po
        generalize hs : (fun n => ts a (b * n + i)) = s at hPo
        have hsP : ∀ n, s n < 2147483647 := fun n => by rw [← hs]; exact hSa.2.1 _
        refine z_ald0 (q := 1) d_mo_section_0 rfl ?_
        refine z_ild1 (q := 2) d_mo_section_1 rfl ?_
        refine z_cV1 (q := 5) d_mo_section_2 rfl (mt_orderOf_yes h0 h2 (h2' a ha) (by omega) h6 ha) (by first | assumption | omega) (by first | assumption | omega) rfl ck_mo_orderOf lk_mo_86 im_mo_orderOf sl_mo_orderOf ⟨by decide, by decide⟩ (Nat.le_of_ble_eq_true rfl) rfl rfl ?_
        refine z_ist4 (q := 7) d_mo_section_5 rfl rfl ?_
        refine z_ald0 (q := 8) d_mo_section_7 rfl ?_
        refine z_ald0 (q := 9) d_mo_section_8 rfl ?_
        refine z_ild1 (q := 10) d_mo_section_9 rfl ?_
        refine z_cV1 (q := 13) d_mo_section_10 rfl (mt_isIn_yes h0 (by omega) h6 ha) (by first | assumption | omega) (by first | assumption | omega) rfl ck_mo_isIn lk_mo_82 im_mo_isIn sl_mo_isIn ⟨by decide, by decide⟩ (Nat.le_of_ble_eq_true rfl) rfl rfl ?_
        refine zi_if_eq (q := 16) (tgt := 42) d_mo_section_13 rfl (by decide) (by omega) (fun hb => absurd hb (by omega)) (fun _ => ?_)
        refine z_ild2 (q := 17) d_mo_section_16 rfl ?_
        refine z_iconst (v := nI 1) (q := 18) d_mo_section_17 rfl (by decide) ?_
        refine zn_icmp_lt (q := 21) (tgt := 42) d_mo_section_18 rfl (by decide) (by omega) (by omega) (fun hb => absurd hb (by omega)) (fun _ => ?_)
        refine z_ild2 (q := 22) d_mo_section_21 rfl ?_
        refine z_bipush (v := nI 24) (q := 24) d_mo_section_22 rfl (by decide) ?_
        refine zn_icmp_gt (q := 27) (tgt := 42) d_mo_section_24 rfl (by decide) (by omega) (by omega) (fun hb => absurd hb (by omega)) (fun _ => ?_)
        refine z_ild3 (q := 28) d_mo_section_27 rfl ?_
        refine zi_if_lt (q := 31) (tgt := 42) d_mo_section_28 rfl (by decide) (by omega) ?_
        refine z_ild3 (q := 32) d_mo_section_31 rfl ?_
        refine z_sipush (v := nI 1000) (q := 35) d_mo_section_32 rfl (by decide) ?_
        refine zn_icmp_gt (q := 38) (tgt := 42) d_mo_section_35 rfl (by decide) (by omega) (by omega) (fun hb => absurd hb (by omega)) (fun _ => ?_)
        refine z_iconst (v := nI 1) (q := 39) d_mo_section_38 rfl (by decide) ?_
        refine z_goto (tgt := 43) d_mo_section_39 (by decide) ?_
        refine z_ild4 (q := 45) d_mo_section_43 rfl ?_
        refine z_cV2 (q := 48) d_mo_section_45 rfl (mt_refusal h0 (by omega) h6 (by omega)) (by first | assumption | omega) (by first | assumption | omega) rfl ck_mo_refusal lk_mo_89 im_mo_refusal sl_mo_refusal ⟨by decide, by decide⟩ (Nat.le_of_ble_eq_true rfl) rfl rfl ?_
        refine z_ist5 (q := 50) d_mo_section_48 rfl rfl ?_
        refine z_ild5 (q := 52) d_mo_section_50 rfl ?_
        by_cases hn : 20 ≤ li ∨ 24 < od a
        · rw [if_pos hn]
          refine z_if_ge (q := 55) (tgt := 58) d_mo_section_52 rfl (by decide) (fun hb => absurd hb (nf_neg hn)) (fun _ => ?_)
          refine z_ild5 (q := 57) d_mo_section_55 rfl ?_
          exact z_iret d_mo_section_57 rfl (Nat.le_refl _) (Nat.le_refl _) (by rw [← hPo]; exact Or.inr (Or.inl ⟨hgood, hn, rfl, rfl, fun _ _ => rfl, hms⟩))
        rw [if_neg hn]
        refine zi_if_ge (tgt := 58) d_mo_section_52 (by decide) (by omega) ?_
        have hl20 : li < 20 := by omega
        have hB24 : od a ≤ 24 := by omega
        have hbb : b * 2 * od a ≤ 24 * 2 * 24 := Nat.mul_le_mul (Nat.mul_le_mul hb2 (Nat.le_refl 2)) hoa
        refine z_ald0 (q := 59) d_mo_section_58 rfl ?_
        refine z_iconst (v := nI 0) (q := 60) d_mo_section_59 rfl (by decide) ?_
        refine z_ild1 (q := 61) d_mo_section_60 rfl ?_
        refine z_ild2 (q := 62) d_mo_section_61 rfl ?_
        refine z_iconst (v := nI 2) (q := 63) d_mo_section_62 rfl (by decide) ?_
        first | refine zn_imul (q := 64) d_mo_section_63 rfl ?_ | refine z_imul (q := 64) d_mo_section_63 rfl ?_
        refine z_ild4 (q := 66) d_mo_section_64 rfl ?_
        first | refine zn_imul (q := 67) d_mo_section_66 rfl ?_ | refine z_imul (q := 67) d_mo_section_66 rfl ?_
        refine z_ild3 (q := 68) d_mo_section_67 rfl ?_
        first | refine zn_iadd (q := 69) d_mo_section_68 rfl ?_ | refine z_iadd (q := 69) d_mo_section_68 rfl ?_
        refine z_cV3v (q := 72) d_mo_section_69 rfl (mt_expand (at' := 0) (m := b * 2 * od a + i) hMc' hgt hgtP ha (by omega)) (by first | assumption | omega) (by first | assumption | omega) rfl ck_mo_expand lk_mo_93 im_mo_expand sl_mo_expand ⟨by decide, by decide⟩ (Nat.le_of_ble_eq_true rfl) rfl rfl ?_
        generalize hG : ex_ (ts a) gt 0 (b * 2 * od a + i) = G
        have hGP : ∀ j, G j < 2147483647 := fun j => by rw [← hG]; exact ex_lt hSa.2.1 hgtP j
        have hGa : ∀ z, z < b * 2 * od a + i → G z = ts a z := fun z hz => by rw [← hG]; have := ex_in (s := ts a) (g := gt) (at' := 0) hz; rw [Nat.zero_add] at this; exact this
        have loop : ∀ (e x : Nat), x + e = 2 * (od a) → Z m_mo_section Po 0 0 90 (va_up σ 83 (zN 2400 (ex_ s G 2300 x))) 75 [some (.ref 78), some (.int (nI a)), some (.int (nI b)), some (.int (nI i)), some (.int (nI (od a))), some (.int (nI 0)), some (.int (nI x))] [] := by
          intro e
          induction e with
          | zero =>
            intro x hx
            obtain rfl : x = 2 * (od a) := by omega
            refine z_ild6 (q := 77) d_mo_section_75 rfl ?_
            refine z_iconst (v := nI 2) (q := 78) d_mo_section_77 rfl (by decide) ?_
            refine z_ild4 (q := 80) d_mo_section_78 rfl ?_
            first | refine zn_imul (q := 81) d_mo_section_80 rfl ?_ | refine z_imul (q := 81) d_mo_section_80 rfl ?_
            refine zn_icmp_ge (q := 84) (tgt := 114) d_mo_section_81 rfl (by decide) (by omega) (by omega) (fun hb => ?_) (fun hb => ?_)
            · have y0 : va_up σ 83 (zN 2400 (ex_ s G 2300 (2 * (od a)))) 78 = zO 5 [.int (nI li), .int (nI gi), .ref 79, .ref 80, .ref 81, .ref 82, .ref 83, .ref 84, .ref 85, .ref 86, .ref 87, .ref 88, .ref 89] := by rw [zu_ne (by omega)]; exact h0
              refine z_ald0 (q := 115) d_mo_section_114 rfl ?_
              refine z_ild4 (q := 117) d_mo_section_115 rfl ?_
              have hcm := hms.t (g := ex_ s G 2300 (2 * (od a))) (ex_lt hsP hGP)
              refine z_gV1 (q := 120) d_mo_section_117 rfl (mt_settle hcm (by omega) hB24 zu_same (ex_lt hsP hGP) (fun n hn => ex_in hn) hsP (by rw [← hs]; exact bd_section fp_inv (ob_of hSa) b i)) (by first | assumption | omega) (by first | assumption | omega) rfl ck_mo_settle lk_mo_78 im_mo_settle sl_mo_settle ⟨by decide, by decide⟩ (Nat.le_of_ble_eq_true rfl) rfl rfl (fun r m τ hp => ?_)
              have hen := EN_frM (σ := σ) (fun j hj => zu_ne (by omega)) hp
              obtain ⟨rfl, -, rfl, -⟩ := hp
              exact z_iret d_mo_section_120 rfl (Nat.le_refl _) (Nat.le_refl _) (by rw [← hPo]; exact Or.inr (Or.inr ⟨hgood, hl20, hB24, hen⟩))
            · exact absurd hb (by omega)
          | succ e ih =>
            intro x hx
            have y0 : va_up σ 83 (zN 2400 (ex_ s G 2300 x)) 78 = zO 5 [.int (nI li), .int (nI gi), .ref 79, .ref 80, .ref 81, .ref 82, .ref 83, .ref 84, .ref 85, .ref 86, .ref 87, .ref 88, .ref 89] := by rw [zu_ne (by omega)]; exact h0
            have y3 : va_up σ 83 (zN 2400 (ex_ s G 2300 x)) 83 = zN 2400 (ex_ s G 2300 x) := zu_same
            have hlt : b * x + i < b * 2 * od a + i := by
              have : b * (x + 1) ≤ b * (2 * od a) := Nat.mul_le_mul_left b (by omega)
              rw [Nat.mul_succ, ← Nat.mul_assoc] at this
              omega
            have hrd : ex_ s G 2300 x (b * x + i) = ts a (b * x + i) := by rw [ex_out (by omega)]; exact hGa _ hlt
            refine z_ild6 (q := 77) d_mo_section_75 rfl ?_
            refine z_iconst (v := nI 2) (q := 78) d_mo_section_77 rfl (by decide) ?_
            refine z_ild4 (q := 80) d_mo_section_78 rfl ?_
            first | refine zn_imul (q := 81) d_mo_section_80 rfl ?_ | refine z_imul (q := 81) d_mo_section_80 rfl ?_
            refine zn_icmp_ge (q := 84) (tgt := 114) d_mo_section_81 rfl (by decide) (by omega) (by omega) (fun hb => ?_) (fun hb => ?_)
            · exact absurd hb (by omega)
            · refine z_ald0 (q := 85) d_mo_section_84 rfl ?_
              refine z_get 6 (q := 88) d_mo_section_85 rfl fg_mo_23 (by first | assumption | omega) (by first | assumption | omega) (by rfl) ?_
              refine z_sipush (v := nI 2300) (q := 91) d_mo_section_88 rfl (by decide) ?_
              refine z_ild6 (q := 93) d_mo_section_91 rfl ?_
              first | refine zn_iadd (q := 94) d_mo_section_93 rfl ?_ | refine z_iadd (q := 94) d_mo_section_93 rfl ?_
              refine z_ald0 (q := 95) d_mo_section_94 rfl ?_
              refine z_get 6 (q := 98) d_mo_section_95 rfl fg_mo_23 (by first | assumption | omega) (by first | assumption | omega) (by rfl) ?_
              refine z_iconst (v := nI 0) (q := 99) d_mo_section_98 rfl (by decide) ?_
              refine z_ild2 (q := 100) d_mo_section_99 rfl ?_
              refine z_ild6 (q := 102) d_mo_section_100 rfl ?_
              first | refine zn_imul (q := 103) d_mo_section_102 rfl ?_ | refine z_imul (q := 103) d_mo_section_102 rfl ?_
              first | refine zn_iadd (q := 104) d_mo_section_103 rfl ?_ | refine z_iadd (q := 104) d_mo_section_103 rfl ?_
              refine z_ild3 (q := 105) d_mo_section_104 rfl ?_
              first | refine zn_iadd (q := 106) d_mo_section_105 rfl ?_ | refine z_iadd (q := 106) d_mo_section_105 rfl ?_
              refine z_laload (q := 107) d_mo_section_106 rfl (by first | assumption | omega) (by first | assumption | omega) (by omega) (by omega) ?_
              rw [Nat.zero_add, hrd]
              refine z_lastore (q := 108) d_mo_section_107 rfl (by first | assumption | omega) (by first | assumption | omega) (by omega) (by omega) ?_
              refine zn_iinc6 (d := 1) (q := 111) d_mo_section_108 rfl rfl ?_
              refine z_goto (tgt := 75) d_mo_section_111 (by decide) ?_
              refine Z.eqw ?_ (ih (x + 1) (by omega))
              rw [zu_up, ← ex_s, ← hs]
        refine z_iconst (v := nI 0) (q := 73) d_mo_section_72 rfl (by decide) ?_
        refine z_ist6 (q := 75) d_mo_section_73 rfl rfl ?_
        exact (Z.eqw (by rw [ex_0]) (loop (2 * od a) 0 (by omega)))
      · refine Ct.of (lv := [some (.ref 78), some (.int j), some (.int m), some (.int i), none, none, none]) 3 (by decide) rfl (Nat.le_of_ble_eq_true rfl) ?_
        have hbad := fun v t5 t6 => bad v t5 t6 (fun hh => hi hh.2.2)
        obtain ⟨a, ha, rfl⟩ := hj
        obtain ⟨b, hb1, hb2, rfl⟩ := hm
        refine z_ald0 (q := 1) d_mo_section_0 rfl ?_
        refine z_ild1 (q := 2) d_mo_section_1 rfl ?_
        refine z_cV1 (q := 5) d_mo_section_2 rfl (mt_orderOf_yes h0 h2 (h2' a ha) (by omega) h6 ha) (by first | assumption | omega) (by first | assumption | omega) rfl ck_mo_orderOf lk_mo_86 im_mo_orderOf sl_mo_orderOf ⟨by decide, by decide⟩ (Nat.le_of_ble_eq_true rfl) rfl rfl ?_
        refine z_ist4 (q := 7) d_mo_section_5 rfl rfl ?_
        refine z_ald0 (q := 8) d_mo_section_7 rfl ?_
        refine z_ald0 (q := 9) d_mo_section_8 rfl ?_
        refine z_ild1 (q := 10) d_mo_section_9 rfl ?_
        refine z_cV1 (q := 13) d_mo_section_10 rfl (mt_isIn_yes h0 (by omega) h6 ha) (by first | assumption | omega) (by first | assumption | omega) rfl ck_mo_isIn lk_mo_82 im_mo_isIn sl_mo_isIn ⟨by decide, by decide⟩ (Nat.le_of_ble_eq_true rfl) rfl rfl ?_
        refine zi_if_eq (q := 16) (tgt := 42) d_mo_section_13 rfl (by decide) (by omega) (fun hb => absurd hb (by omega)) (fun _ => ?_)
        refine z_ild2 (q := 17) d_mo_section_16 rfl ?_
        refine z_iconst (v := nI 1) (q := 18) d_mo_section_17 rfl (by decide) ?_
        refine zn_icmp_lt (q := 21) (tgt := 42) d_mo_section_18 rfl (by decide) (by omega) (by omega) (fun hb => absurd hb (by omega)) (fun _ => ?_)
        refine z_ild2 (q := 22) d_mo_section_21 rfl ?_
        refine z_bipush (v := nI 24) (q := 24) d_mo_section_22 rfl (by decide) ?_
        refine zn_icmp_gt (q := 27) (tgt := 42) d_mo_section_24 rfl (by decide) (by omega) (by omega) (fun hb => absurd hb (by omega)) (fun _ => ?_)
        refine z_ild3 (q := 28) d_mo_section_27 rfl ?_
        refine z_if_lt (q := 31) (tgt := 42) d_mo_section_28 rfl (by decide) (fun _ => hbad _ _ _) (fun q1 => ?_)
        refine z_ild3 (q := 32) d_mo_section_31 rfl ?_
        refine z_sipush (v := nI 1000) (q := 35) d_mo_section_32 rfl (by decide) ?_
        exact z_icmp_gt (q := 38) (tgt := 42) d_mo_section_35 rfl (by decide) (fun _ => hbad _ _ _) (fun q2 => absurd (isR_of (by decide) (by rw [nI_0]; exact q1) (Int32.not_lt.mp q2) (by decide)) hi)
    · refine Ct.of (lv := [some (.ref 78), some (.int j), some (.int m), some (.int i), none, none, none]) 3 (by decide) rfl (Nat.le_of_ble_eq_true rfl) ?_
      have hbad := fun v t5 t6 => bad v t5 t6 (fun hh => hm hh.2.1)
      obtain ⟨a, ha, rfl⟩ := hj
      refine z_ald0 (q := 1) d_mo_section_0 rfl ?_
      refine z_ild1 (q := 2) d_mo_section_1 rfl ?_
      refine z_cV1 (q := 5) d_mo_section_2 rfl (mt_orderOf_yes h0 h2 (h2' a ha) (by omega) h6 ha) (by first | assumption | omega) (by first | assumption | omega) rfl ck_mo_orderOf lk_mo_86 im_mo_orderOf sl_mo_orderOf ⟨by decide, by decide⟩ (Nat.le_of_ble_eq_true rfl) rfl rfl ?_
      refine z_ist4 (q := 7) d_mo_section_5 rfl rfl ?_
      refine z_ald0 (q := 8) d_mo_section_7 rfl ?_
      refine z_ald0 (q := 9) d_mo_section_8 rfl ?_
      refine z_ild1 (q := 10) d_mo_section_9 rfl ?_
      refine z_cV1 (q := 13) d_mo_section_10 rfl (mt_isIn_yes h0 (by omega) h6 ha) (by first | assumption | omega) (by first | assumption | omega) rfl ck_mo_isIn lk_mo_82 im_mo_isIn sl_mo_isIn ⟨by decide, by decide⟩ (Nat.le_of_ble_eq_true rfl) rfl rfl ?_
      refine zi_if_eq (q := 16) (tgt := 42) d_mo_section_13 rfl (by decide) (by omega) (fun hb => absurd hb (by omega)) (fun _ => ?_)
      refine z_ild2 (q := 17) d_mo_section_16 rfl ?_
      refine z_iconst (v := nI 1) (q := 18) d_mo_section_17 rfl (by decide) ?_
      refine z_icmp_lt (q := 21) (tgt := 42) d_mo_section_18 rfl (by decide) (fun _ => hbad _ _ _) (fun q1 => ?_)
      refine z_ild2 (q := 22) d_mo_section_21 rfl ?_
      refine z_bipush (v := nI 24) (q := 24) d_mo_section_22 rfl (by decide) ?_
      exact z_icmp_gt (q := 27) (tgt := 42) d_mo_section_24 rfl (by decide) (fun _ => hbad _ _ _) (fun q2 => absurd (isR_of (by decide) q1 (Int32.not_lt.mp q2) (by decide)) hm)
  · refine Ct.of (lv := [some (.ref 78), some (.int j), some (.int m), some (.int i), none, none, none]) 3 (by decide) rfl (Nat.le_of_ble_eq_true rfl) ?_
    refine z_ald0 (q := 1) d_mo_section_0 rfl ?_
    refine z_ild1 (q := 2) d_mo_section_1 rfl ?_
    refine z_cV1 (q := 5) d_mo_section_2 rfl (mt_orderOf_no h0 (by omega) h6 hj) (by first | assumption | omega) (by first | assumption | omega) rfl ck_mo_orderOf lk_mo_86 im_mo_orderOf sl_mo_orderOf ⟨by decide, by decide⟩ (Nat.le_of_ble_eq_true rfl) rfl rfl ?_
    refine z_ist4 (q := 7) d_mo_section_5 rfl rfl ?_
    refine z_ald0 (q := 8) d_mo_section_7 rfl ?_
    refine z_ald0 (q := 9) d_mo_section_8 rfl ?_
    refine z_ild1 (q := 10) d_mo_section_9 rfl ?_
    refine z_cV1 (q := 13) d_mo_section_10 rfl (mt_isIn_no h0 (by omega) h6 hj) (by first | assumption | omega) (by first | assumption | omega) rfl ck_mo_isIn lk_mo_82 im_mo_isIn sl_mo_isIn ⟨by decide, by decide⟩ (Nat.le_of_ble_eq_true rfl) rfl rfl ?_
    refine zi_if_eq (q := 16) (tgt := 42) d_mo_section_13 rfl (by decide) (by omega) (fun _ => ?_) (fun hb => absurd rfl hb)
    exact bad _ _ _ (fun hh => hj hh.1)
theorem mm_tail {σ : zWd} {li gi : Nat} {row od : Nat → Nat} {cf ts : Nat → Nat → Nat} (h : MS li gi row od cf ts σ) (j : Int32) : Ct m_mo_tail [.ref 78, .int j] 90 σ (MK MS FrM σ li gi row od cf ts (isL li j) (od j.toNatClampNeg) (fun n => ts j.toNatClampNeg (n + 1))) := by
  have h0 : σ 78 = zO 5 [.int (nI li), .int (nI gi), .ref 79, .ref 80, .ref 81, .ref 82, .ref 83, .ref 84, .ref 85, .ref 86, .ref 87, .ref 88, .ref 89] := h.1.1
  refine Ct.of (lv := [some (.ref 78), some (.int j)]) 0 (by decide) rfl (Nat.le_of_ble_eq_true rfl) ?_
  refine z_ald0 (q := 1) d_mo_tail_0 rfl ?_
  refine z_ild1 (q := 2) d_mo_tail_1 rfl ?_
  refine z_iconst (v := nI 1) (q := 3) d_mo_tail_2 rfl (by decide) ?_
  refine z_iconst (v := nI 1) (q := 4) d_mo_tail_3 rfl (by decide) ?_
  refine z_gV3 (q := 7) d_mo_tail_4 rfl (mm_section h j (nI 1) (nI 1)) (by first | assumption | omega) (by first | assumption | omega) rfl ck_mo_section lk_mo_96 im_mo_section sl_mo_section ⟨by decide, by decide⟩ (Nat.le_of_ble_eq_true rfl) rfl rfl (fun r m τ hp => ?_)
  have e1 : (isL li j ∧ isR 1 24 (nI 1) ∧ isR 0 1000 (nI 1)) = isL li j := propext ⟨fun hh => hh.1, fun hh => ⟨hh, ⟨1, by omega, by omega, rfl⟩, ⟨1, by omega, by omega, rfl⟩⟩⟩
  have e2 : (nI 1).toNatClampNeg = 1 := nI_clamp (by decide)
  rw [e1, e2] at hp
  simp only [Nat.one_mul] at hp
  have hr : ∃ v : Int32, r = some (.int v) := by
    rcases hp with ⟨-, rfl, -⟩ | ⟨-, -, rfl, -⟩ | ⟨-, -, -, -, -, rfl, -⟩ <;> exact ⟨_, rfl⟩
  have hm : m = 90 := by
    rcases hp with ⟨-, -, rfl, -⟩ | ⟨-, -, -, rfl, -⟩ | ⟨-, -, -, rfl, -⟩ <;> rfl
  obtain ⟨v, rfl⟩ := hr
  subst hm
  exact z_iret d_mo_tail_7 rfl (Nat.le_refl _) (Nat.le_refl _) hp


