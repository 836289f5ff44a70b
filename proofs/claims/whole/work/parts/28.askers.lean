/-! spread and the askers of the class -/
def GV (SP : Nat → Nat → (Nat → Nat) → (Nat → Nat) → (Nat → Nat → Nat) → (Nat → Nat → Nat) → zWd → Prop) (Fr : zWd → zWd → Prop) (σ : zWd) (li gi : Nat) (row od : Nat → Nat) (cf ts : Nat → Nat → Nat) (v : Int32) : Option Value → Nat → zWd → Prop := fun r n' σ' => n' = 90 ∧ Fr σ σ' ∧ ((40 ≤ gi ∧ r = some (.int (nI 0)) ∧ SP li gi row od cf ts σ') ∨ (gi < 40 ∧ r = some (.int (nI 1)) ∧ SP li (gi + 1) (va_up row gi (nu_ v)) od cf ts σ'))
theorem up_lt {f : Nat → Nat} {k x B : Nat} (hf : ∀ j, f j < B) (hx : x < B) : ∀ j, va_up f k x j < B := by
  intro j
  unfold va_up
  split
  · exact hx
  · exact hf j
theorem cc_give {σ : zWd} {li gi : Nat} {row od : Nat → Nat} {cf ts : Nat → Nat → Nat} (h : CS li gi row od cf ts σ) (v : Int32) : Ct m_rs_give [.ref 0, .int v] 90 σ (GV CS FrC σ li gi row od cf ts v) := by
  have hcs := h
  obtain ⟨h0, ⟨f, hf1, hf2⟩, ⟨h2, h2'⟩, ⟨g3, h3, h3P⟩, ⟨g4, h4, h4P⟩, hFI, hSK, hDV, h8, h9, h10, h11, h12⟩ := h
  have h0' : σ 0 = zO 0 [.ref 1, .ref 2, .ref 3, .ref 4, .ref 5, .ref 9, .ref 15, .int (nI li), .int (nI gi)] := h0
  refine Ct.of (lv := [some (.ref 0), some (.int v)]) 0 (by decide) rfl (Nat.le_of_ble_eq_true rfl) ?_
  refine z_ald0 (q := 1) d_rs_give_0 rfl ?_
  refine z_get 8 (q := 4) d_rs_give_1 rfl fg_rs_51 (by first | assumption | omega) (by first | assumption | omega) (by rfl) ?_
  refine z_bipush (v := nI 40) (q := 6) d_rs_give_4 rfl (by decide) ?_
  refine zn_icmp_lt (q := 9) (tgt := 11) d_rs_give_6 rfl (by decide) (by omega) (by omega) (fun hb => ?_) (fun hb => ?_)
  · refine z_ald0 (q := 12) d_rs_give_11 rfl ?_
    refine z_get 1 (q := 15) d_rs_give_12 rfl fg_rs_15 (by first | assumption | omega) (by first | assumption | omega) (by rfl) ?_
    refine z_ald0 (q := 16) d_rs_give_15 rfl ?_
    refine z_get 8 (q := 19) d_rs_give_16 rfl fg_rs_51 (by first | assumption | omega) (by first | assumption | omega) (by rfl) ?_
    refine z_ild1 (q := 20) d_rs_give_19 rfl ?_
    refine z_cS1 (q := 23) d_rs_give_20 rfl (ct_of 90 σ v) ck_nu_of lk_rs_54 st_nu_of ⟨by decide, by decide⟩ (Nat.le_of_ble_eq_true rfl) rfl rfl ?_
    refine z_lastore (q := 24) d_rs_give_23 rfl (by first | assumption | omega) (by first | assumption | omega) (by omega) (by omega) ?_
    have y0 : va_up σ 2 (zN 40 (va_up row gi (nu_ v))) 0 = zO 0 [.ref 1, .ref 2, .ref 3, .ref 4, .ref 5, .ref 9, .ref 15, .int (nI li), .int (nI gi)] := by rw [zu_ne (by omega)]; exact h0
    refine z_ald0 (q := 25) d_rs_give_24 rfl ?_
    first | refine z_dup_r (q := 26) d_rs_give_25 rfl ?_ | refine z_dup_i (q := 26) d_rs_give_25 rfl ?_
    refine z_get 8 (q := 29) d_rs_give_26 rfl fg_rs_51 (by first | assumption | omega) (by first | assumption | omega) (by rfl) ?_
    refine z_iconst (v := nI 1) (q := 30) d_rs_give_29 rfl (by decide) ?_
    first | refine zn_iadd (q := 31) d_rs_give_30 rfl ?_ | refine z_iadd (q := 31) d_rs_give_30 rfl ?_
    refine z_put 8 (q := 34) d_rs_give_31 rfl fg_rs_51 ft_rs fk_rs_51 (by first | assumption | omega) (by first | assumption | omega) (fun _ => rfl) (fun _ => rfl) (by simp) ?_
    refine z_iconst (v := nI 1) (q := 35) d_rs_give_34 rfl (by decide) ?_
    refine z_zret d_rs_give_35 rfl rfl (Nat.le_refl _) (Nat.le_refl _) ⟨rfl, fun j hj => by rw [zu_ne (by omega), zu_ne (by omega)], Or.inr ⟨by omega, rfl, ?_⟩⟩
    exact hcs.row (up_lt h2' (nu_lt v)) (Nat.le_refl _) (by omega)
  · refine z_iconst (v := nI 0) (q := 10) d_rs_give_9 rfl (by decide) ?_
    exact z_zret d_rs_give_10 rfl rfl (Nat.le_refl _) (Nat.le_refl _) ⟨rfl, fun _ _ => rfl, Or.inl ⟨by omega, rfl, hcs⟩⟩
def CL (SP : Nat → Nat → (Nat → Nat) → (Nat → Nat) → (Nat → Nat → Nat) → (Nat → Nat → Nat) → zWd → Prop) (Fr : zWd → zWd → Prop) (σ : zWd) (li gi : Nat) (row od : Nat → Nat) (cf ts : Nat → Nat → Nat) : Option Value → Nat → zWd → Prop := fun r n' σ' => n' = 90 ∧ Fr σ σ' ∧ r = some (.int (nI gi)) ∧ SP li 0 row od cf ts σ'
theorem cc_clear {σ : zWd} {li gi : Nat} {row od : Nat → Nat} {cf ts : Nat → Nat → Nat} (h : CS li gi row od cf ts σ) : Ct m_rs_clear [.ref 0] 90 σ (CL CS FrC σ li gi row od cf ts) := by
  have hcs := h
  obtain ⟨h0, ⟨f, hf1, hf2⟩, ⟨h2, h2'⟩, ⟨g3, h3, h3P⟩, ⟨g4, h4, h4P⟩, hFI, hSK, hDV, h8, h9, h10, h11, h12⟩ := h
  have h0' : σ 0 = zO 0 [.ref 1, .ref 2, .ref 3, .ref 4, .ref 5, .ref 9, .ref 15, .int (nI li), .int (nI gi)] := h0
  refine Ct.of (lv := [some (.ref 0), none]) 1 (by decide) rfl (Nat.le_of_ble_eq_true rfl) ?_
  refine z_ald0 (q := 1) d_rs_clear_0 rfl ?_
  refine z_get 8 (q := 4) d_rs_clear_1 rfl fg_rs_51 (by first | assumption | omega) (by first | assumption | omega) (by rfl) ?_
  refine z_ist1 (q := 5) d_rs_clear_4 rfl rfl ?_
  refine z_ald0 (q := 6) d_rs_clear_5 rfl ?_
  refine z_iconst (v := nI 0) (q := 7) d_rs_clear_6 rfl (by decide) ?_
  refine z_put 8 (q := 10) d_rs_clear_7 rfl fg_rs_51 ft_rs fk_rs_51 (by first | assumption | omega) (by first | assumption | omega) (fun _ => rfl) (fun _ => rfl) (by simp) ?_
  refine z_ild1 (q := 11) d_rs_clear_10 rfl ?_
  refine z_iret d_rs_clear_11 rfl (Nat.le_refl _) (Nat.le_refl _) ⟨rfl, fun j hj => by rw [zu_ne (by omega)], rfl, ?_⟩
  have := hcs.row (row' := row) h2' (Nat.le_refl _) (Nat.zero_le 40)
  rw [← zu_id h2] at this
  exact this
def FG (SP : Nat → Nat → (Nat → Nat) → (Nat → Nat) → (Nat → Nat → Nat) → (Nat → Nat → Nat) → zWd → Prop) (Fr : zWd → zWd → Prop) (σ : zWd) (li gi : Nat) (row od : Nat → Nat) (cf ts : Nat → Nat → Nat) : Option Value → Nat → zWd → Prop := fun r n' σ' => n' = 90 ∧ Fr σ σ' ∧ ((li = 0 ∧ r = some (.int (nI 0)) ∧ SP li gi row od cf ts σ') ∨ (li ≠ 0 ∧ r = some (.int (nI 1)) ∧ SP (li - 1) gi row od cf ts σ'))
theorem cc_forget {σ : zWd} {li gi : Nat} {row od : Nat → Nat} {cf ts : Nat → Nat → Nat} (h : CS li gi row od cf ts σ) : Ct m_rs_forget [.ref 0] 90 σ (FG CS FrC σ li gi row od cf ts) := by
  have hcs := h
  obtain ⟨h0, ⟨f, hf1, hf2⟩, ⟨h2, h2'⟩, ⟨g3, h3, h3P⟩, ⟨g4, h4, h4P⟩, hFI, hSK, hDV, h8, h9, h10, h11, h12⟩ := h
  have h0' : σ 0 = zO 0 [.ref 1, .ref 2, .ref 3, .ref 4, .ref 5, .ref 9, .ref 15, .int (nI li), .int (nI gi)] := h0
  refine Ct.of (lv := [some (.ref 0)]) 0 (by decide) rfl (Nat.le_of_ble_eq_true rfl) ?_
  refine z_ald0 (q := 1) d_rs_forget_0 rfl ?_
  refine z_get 7 (q := 4) d_rs_forget_1 rfl fg_rs_47 (by first | assumption | omega) (by first | assumption | omega) (by rfl) ?_
  refine zi_if_ne (q := 7) (tgt := 9) d_rs_forget_4 rfl (by decide) (by omega) (fun hb => ?_) (fun hb => ?_)
  · refine z_ald0 (q := 10) d_rs_forget_9 rfl ?_
    first | refine z_dup_r (q := 11) d_rs_forget_10 rfl ?_ | refine z_dup_i (q := 11) d_rs_forget_10 rfl ?_
    refine z_get 7 (q := 14) d_rs_forget_11 rfl fg_rs_47 (by first | assumption | omega) (by first | assumption | omega) (by rfl) ?_
    refine z_iconst (v := nI 1) (q := 15) d_rs_forget_14 rfl (by decide) ?_
    first | refine zn_isub (q := 16) d_rs_forget_15 rfl (by omega) ?_ | refine z_isub (q := 16) d_rs_forget_15 rfl ?_
    refine z_put 7 (q := 19) d_rs_forget_16 rfl fg_rs_47 ft_rs fk_rs_47 (by first | assumption | omega) (by first | assumption | omega) (fun _ => rfl) (fun _ => rfl) (by simp) ?_
    refine z_iconst (v := nI 1) (q := 20) d_rs_forget_19 rfl (by decide) ?_
    refine z_zret d_rs_forget_20 rfl rfl (Nat.le_refl _) (Nat.le_refl _) ⟨rfl, fun j hj => by rw [zu_ne (by omega)], Or.inr ⟨hb, rfl, ?_⟩⟩
    have := hcs.row (row' := row) (li' := li - 1) h2' (by omega) h12
    rw [← zu_id h2] at this
    exact this
  · refine z_iconst (v := nI 0) (q := 8) d_rs_forget_7 rfl (by decide) ?_
    exact z_zret d_rs_forget_8 rfl rfl (Nat.le_refl _) (Nat.le_refl _) ⟨rfl, fun _ _ => rfl, Or.inl ⟨hb, rfl, hcs⟩⟩
/-- an asker: an answer, and nothing changes -/
def AS (SP : Nat → Nat → (Nat → Nat) → (Nat → Nat) → (Nat → Nat → Nat) → (Nat → Nat → Nat) → zWd → Prop) (Fr : zWd → zWd → Prop) (σ : zWd) (li gi : Nat) (row od : Nat → Nat) (cf ts : Nat → Nat → Nat) (Q : Int32 → Prop) : Option Value → Nat → zWd → Prop := fun r n' σ' => n' = 90 ∧ Fr σ σ' ∧ (∃ v : Int32, r = some (.int v) ∧ Q v) ∧ SP li gi row od cf ts σ'
theorem cc_count {σ : zWd} {li gi : Nat} {row od : Nat → Nat} {cf ts : Nat → Nat → Nat} (h : CS li gi row od cf ts σ) : Ct m_rs_count [.ref 0] 90 σ (AS CS FrC σ li gi row od cf ts (fun v => v = nI li)) := by
  have hcs := h
  obtain ⟨h0, ⟨f, hf1, hf2⟩, ⟨h2, h2'⟩, ⟨g3, h3, h3P⟩, ⟨g4, h4, h4P⟩, hFI, hSK, hDV, h8, h9, h10, h11, h12⟩ := h
  have h0' : σ 0 = zO 0 [.ref 1, .ref 2, .ref 3, .ref 4, .ref 5, .ref 9, .ref 15, .int (nI li), .int (nI gi)] := h0
  refine Ct.of (lv := [some (.ref 0)]) 0 (by decide) rfl (Nat.le_of_ble_eq_true rfl) ?_
  refine z_ald0 (q := 1) d_rs_count_0 rfl ?_
  refine z_get 7 (q := 4) d_rs_count_1 rfl fg_rs_47 (by first | assumption | omega) (by first | assumption | omega) (by rfl) ?_
  exact z_iret d_rs_count_4 rfl (Nat.le_refl _) (Nat.le_refl _) ⟨rfl, fun _ _ => rfl, ⟨_, rfl, rfl⟩, hcs⟩
def qOrd (li : Nat) (od : Nat → Nat) (k v : Int32) : Prop := (¬ isL li k ∧ v = -1) ∨ (isL li k ∧ v = nI (od k.toNatClampNeg))
theorem cc_order {σ : zWd} {li gi : Nat} {row od : Nat → Nat} {cf ts : Nat → Nat → Nat} (h : CS li gi row od cf ts σ) (k : Int32) : Ct m_rs_order [.ref 0, .int k] 90 σ (AS CS FrC σ li gi row od cf ts (qOrd li od k)) := by
  have hcs := h
  obtain ⟨h0, ⟨f, hf1, hf2⟩, ⟨h2, h2'⟩, ⟨g3, h3, h3P⟩, ⟨g4, h4, h4P⟩, hFI, hSK, hDV, h8, h9, h10, h11, h12⟩ := h
  have h0' : σ 0 = zO 0 [.ref 1, .ref 2, .ref 3, .ref 4, .ref 5, .ref 9, .ref 15, .int (nI li), .int (nI gi)] := h0
  by_cases hk : isL li k
  · have hk' := hk
    obtain ⟨a, ha, rfl⟩ := hk
    obtain ⟨ca, fa, ⟨a1, a2, a3, a4, a5⟩, a6, a7⟩ := h9 a ha
    have hSa := h10 a ha
    have hfa := hf2 a (by omega)
    have hoa := hSa.1
    refine Ct.of (lv := [some (.ref 0), some (.int (nI a))]) 0 (by decide) rfl (Nat.le_of_ble_eq_true rfl) ?_
    refine z_ald0 (q := 1) d_rs_order_0 rfl ?_
    refine z_ild1 (q := 2) d_rs_order_1 rfl ?_
    refine z_cV1 (q := 5) d_rs_order_2 rfl (ct_isListed_yes h0 (by omega) h11 ha) (by first | assumption | omega) (by first | assumption | omega) rfl ck_rs_isListed lk_rs_75 im_rs_isListed sl_rs_isListed ⟨by decide, by decide⟩ (Nat.le_of_ble_eq_true rfl) rfl rfl ?_
    refine zi_if_eq (q := 8) (tgt := 20) d_rs_order_5 rfl (by decide) (by omega) (fun hb => absurd hb (by omega)) (fun _ => ?_)
    refine z_ald0 (q := 9) d_rs_order_8 rfl ?_
    refine z_get 0 (q := 12) d_rs_order_9 rfl fg_rs_11 (by first | assumption | omega) (by first | assumption | omega) (by rfl) ?_
    refine z_ild1 (q := 13) d_rs_order_12 rfl ?_
    refine z_aaload (q := 14) d_rs_order_13 rfl (by first | assumption | omega) (by first | assumption | omega) (by omega) (by omega) (by first | assumption | omega) ?_
    refine z_get 0 (q := 17) d_rs_order_14 rfl fg_rs_78 (by first | assumption | omega) (by first | assumption | omega) (by rfl) ?_
    refine z_goto (tgt := 21) d_rs_order_17 (by decide) ?_
    exact z_iret d_rs_order_21 rfl (Nat.le_refl _) (Nat.le_refl _) ⟨rfl, fun _ _ => rfl, ⟨_, rfl, Or.inr ⟨hk', by rw [nI_clamp (by omega)]⟩⟩, hcs⟩
  · refine Ct.of (lv := [some (.ref 0), some (.int k)]) 0 (by decide) rfl (Nat.le_of_ble_eq_true rfl) ?_
    refine z_ald0 (q := 1) d_rs_order_0 rfl ?_
    refine z_ild1 (q := 2) d_rs_order_1 rfl ?_
    refine z_cV1 (q := 5) d_rs_order_2 rfl (ct_isListed_no h0 (by omega) h11 hk) (by first | assumption | omega) (by first | assumption | omega) rfl ck_rs_isListed lk_rs_75 im_rs_isListed sl_rs_isListed ⟨by decide, by decide⟩ (Nat.le_of_ble_eq_true rfl) rfl rfl ?_
    refine zi_if_eq (q := 8) (tgt := 20) d_rs_order_5 rfl (by decide) (by omega) (fun _ => ?_) (fun hb => absurd rfl hb)
    refine z_iconst (v := (-1)) (q := 21) d_rs_order_20 rfl (by decide) ?_
    exact z_iret d_rs_order_21 rfl (Nat.le_refl _) (Nat.le_refl _) ⟨rfl, fun _ _ => rfl, ⟨_, rfl, Or.inl ⟨hk, rfl⟩⟩, hcs⟩
def qCo (li : Nat) (od : Nat → Nat) (cf : Nat → Nat → Nat) (k i v : Int32) : Prop := (¬ (isL li k ∧ isR 1 (od k.toNatClampNeg) i) ∧ v = -1) ∨ ((isL li k ∧ isR 1 (od k.toNatClampNeg) i) ∧ v = nI (cf k.toNatClampNeg (i.toNatClampNeg - 1)))
theorem cc_coefficient {σ : zWd} {li gi : Nat} {row od : Nat → Nat} {cf ts : Nat → Nat → Nat} (h : CS li gi row od cf ts σ) (k i : Int32) : Ct m_rs_coefficient [.ref 0, .int k, .int i] 90 σ (AS CS FrC σ li gi row od cf ts (qCo li od cf k i)) := by
  have hcs := h
  obtain ⟨h0, ⟨f, hf1, hf2⟩, ⟨h2, h2'⟩, ⟨g3, h3, h3P⟩, ⟨g4, h4, h4P⟩, hFI, hSK, hDV, h8, h9, h10, h11, h12⟩ := h
  have h0' : σ 0 = zO 0 [.ref 1, .ref 2, .ref 3, .ref 4, .ref 5, .ref 9, .ref 15, .int (nI li), .int (nI gi)] := h0
  by_cases hk : isL li k
  · have hk' := hk
    obtain ⟨a, ha, rfl⟩ := hk
    obtain ⟨ca, fa, ⟨a1, a2, a3, a4, a5⟩, a6, a7⟩ := h9 a ha
    have hSa := h10 a ha
    have hfa := hf2 a (by omega)
    have hoa := hSa.1
    have ea : (nI a).toNatClampNeg = a := nI_clamp (by omega)
    refine Ct.of (lv := [some (.ref 0), some (.int (nI a)), some (.int i)]) 0 (by decide) rfl (Nat.le_of_ble_eq_true rfl) ?_
    have bad : ¬ isR 1 (od a) i → Z m_rs_coefficient (AS CS FrC σ li gi row od cf ts (qCo li od cf (nI a) i)) 0 0 90 σ 26 [some (.ref 0), some (.int (nI a)), some (.int i)] [] := by
      intro hi
      refine z_iconst (v := (-1)) (q := 27) d_rs_coefficient_26 rfl (by decide) ?_
      exact z_iret d_rs_coefficient_27 rfl (Nat.le_refl _) (Nat.le_refl _) ⟨rfl, fun _ _ => rfl, ⟨_, rfl, Or.inl ⟨fun hh => hi (by rw [← ea]; exact hh.2), rfl⟩⟩, hcs⟩
    refine z_ald0 (q := 1) d_rs_coefficient_0 rfl ?_
    refine z_ild1 (q := 2) d_rs_coefficient_1 rfl ?_
    refine z_cV1 (q := 5) d_rs_coefficient_2 rfl (ct_isListed_yes h0 (by omega) h11 ha) (by first | assumption | omega) (by first | assumption | omega) rfl ck_rs_isListed lk_rs_75 im_rs_isListed sl_rs_isListed ⟨by decide, by decide⟩ (Nat.le_of_ble_eq_true rfl) rfl rfl ?_
    refine zi_if_eq (q := 8) (tgt := 26) d_rs_coefficient_5 rfl (by decide) (by omega) (fun hb => absurd hb (by omega)) (fun _ => ?_)
    by_cases hi : isR 1 (od a) i
    · have hi' := hi
      obtain ⟨b, hb1, hb2, rfl⟩ := hi
      refine z_ild2 (q := 9) d_rs_coefficient_8 rfl ?_
      refine z_iconst (v := nI 1) (q := 10) d_rs_coefficient_9 rfl (by decide) ?_
      refine zn_icmp_lt (q := 13) (tgt := 26) d_rs_coefficient_10 rfl (by decide) (by omega) (by omega) (fun hb => ?_) (fun hb => ?_)
      · exact absurd hb (by omega)
      · refine z_ild2 (q := 14) d_rs_coefficient_13 rfl ?_
        refine z_ald0 (q := 15) d_rs_coefficient_14 rfl ?_
        refine z_get 0 (q := 18) d_rs_coefficient_15 rfl fg_rs_11 (by first | assumption | omega) (by first | assumption | omega) (by rfl) ?_
        refine z_ild1 (q := 19) d_rs_coefficient_18 rfl ?_
        refine z_aaload (q := 20) d_rs_coefficient_19 rfl (by first | assumption | omega) (by first | assumption | omega) (by omega) (by omega) (by first | assumption | omega) ?_
        refine z_get 0 (q := 23) d_rs_coefficient_20 rfl fg_rs_78 (by first | assumption | omega) (by first | assumption | omega) (by rfl) ?_
        refine zn_icmp_le (q := 26) (tgt := 28) d_rs_coefficient_23 rfl (by decide) (by omega) (by omega) (fun _ => ?_) (fun hb3 => absurd hb2 hb3)
        refine z_ald0 (q := 29) d_rs_coefficient_28 rfl ?_
        refine z_get 0 (q := 32) d_rs_coefficient_29 rfl fg_rs_11 (by first | assumption | omega) (by first | assumption | omega) (by rfl) ?_
        refine z_ild1 (q := 33) d_rs_coefficient_32 rfl ?_
        refine z_aaload (q := 34) d_rs_coefficient_33 rfl (by first | assumption | omega) (by first | assumption | omega) (by omega) (by omega) (by first | assumption | omega) ?_
        refine z_get 1 (q := 37) d_rs_coefficient_34 rfl fg_rs_99 (by first | assumption | omega) (by first | assumption | omega) (by rfl) ?_
        refine z_ild2 (q := 38) d_rs_coefficient_37 rfl ?_
        refine z_iconst (v := nI 1) (q := 39) d_rs_coefficient_38 rfl (by decide) ?_
        first | refine zn_isub (q := 40) d_rs_coefficient_39 rfl (by omega) ?_ | refine z_isub (q := 40) d_rs_coefficient_39 rfl ?_
        refine z_laload (q := 41) d_rs_coefficient_40 rfl (by first | assumption | omega) (by first | assumption | omega) (by omega) (by omega) ?_
        first | refine zn_l2i (q := 42) d_rs_coefficient_41 rfl ?_ | refine z_l2i (q := 42) d_rs_coefficient_41 rfl ?_
        exact z_iret d_rs_coefficient_42 rfl (Nat.le_refl _) (Nat.le_refl _) ⟨rfl, fun _ _ => rfl, ⟨_, rfl, Or.inr ⟨⟨hk', by rw [ea]; exact hi'⟩, by rw [ea, nI_clamp (by omega), a6 (b - 1) (by omega)]⟩⟩, hcs⟩
    · refine z_ild2 (q := 9) d_rs_coefficient_8 rfl ?_
      refine z_iconst (v := nI 1) (q := 10) d_rs_coefficient_9 rfl (by decide) ?_
      refine z_icmp_lt (q := 13) (tgt := 26) d_rs_coefficient_10 rfl (by decide) (fun _ => bad hi) (fun hb1 => ?_)
      refine z_ild2 (q := 14) d_rs_coefficient_13 rfl ?_
      refine z_ald0 (q := 15) d_rs_coefficient_14 rfl ?_
      refine z_get 0 (q := 18) d_rs_coefficient_15 rfl fg_rs_11 (by first | assumption | omega) (by first | assumption | omega) (by rfl) ?_
      refine z_ild1 (q := 19) d_rs_coefficient_18 rfl ?_
      refine z_aaload (q := 20) d_rs_coefficient_19 rfl (by first | assumption | omega) (by first | assumption | omega) (by omega) (by omega) (by first | assumption | omega) ?_
      refine z_get 0 (q := 23) d_rs_coefficient_20 rfl fg_rs_78 (by first | assumption | omega) (by first | assumption | omega) (by rfl) ?_
      refine z_icmp_le (q := 26) (tgt := 28) d_rs_coefficient_23 rfl (by decide) (fun hb2 => ?_) (fun _ => bad hi)
      by_cases hz : 1 ≤ od a
      · exact absurd (isR_of (by omega) hb1 hb2 hz) hi
      · exfalso
        have e1 : (nI 1).toInt = 1 := nI_toInt (by decide)
        have e2 : (nI (od a)).toInt = (od a : Int) := nI_toInt (by omega)
        rw [Int32.lt_iff_toInt_lt, e1] at hb1
        rw [Int32.le_iff_toInt_le, e2] at hb2
        omega
  · refine Ct.of (lv := [some (.ref 0), some (.int k), some (.int i)]) 0 (by decide) rfl (Nat.le_of_ble_eq_true rfl) ?_
    refine z_ald0 (q := 1) d_rs_coefficient_0 rfl ?_
    refine z_ild1 (q := 2) d_rs_coefficient_1 rfl ?_
    refine z_cV1 (q := 5) d_rs_coefficient_2 rfl (ct_isListed_no h0 (by omega) h11 hk) (by first | assumption | omega) (by first | assumption | omega) rfl ck_rs_isListed lk_rs_75 im_rs_isListed sl_rs_isListed ⟨by decide, by decide⟩ (Nat.le_of_ble_eq_true rfl) rfl rfl ?_
    refine zi_if_eq (q := 8) (tgt := 26) d_rs_coefficient_5 rfl (by decide) (by omega) (fun _ => ?_) (fun hb => absurd rfl hb)
    refine z_iconst (v := (-1)) (q := 27) d_rs_coefficient_26 rfl (by decide) ?_
    exact z_iret d_rs_coefficient_27 rfl (Nat.le_refl _) (Nat.le_refl _) ⟨rfl, fun _ _ => rfl, ⟨_, rfl, Or.inl ⟨fun hh => hk hh.1, rfl⟩⟩, hcs⟩
/-- the first place where two series differ, looked for below N -/
def qD (N : Nat) (a b : Nat → Nat) (v : Int32) : Prop := (∃ n, n < N ∧ a n ≠ b n ∧ (∀ m, m < n → a m = b m) ∧ v = nI n) ∨ ((∀ m, m < N → a m = b m) ∧ v = -1)
def qDf (li : Nat) (od : Nat → Nat) (ts : Nat → Nat → Nat) (N : Nat → Nat → Nat) (j k v : Int32) : Prop := (¬ (isL li j ∧ isL li k) ∧ v = -2) ∨ ((isL li j ∧ isL li k) ∧ qD (N j.toNatClampNeg k.toNatClampNeg) (ts j.toNatClampNeg) (ts k.toNatClampNeg) v)
theorem cc_differ {σ : zWd} {li gi : Nat} {row od : Nat → Nat} {cf ts : Nat → Nat → Nat} (h : CS li gi row od cf ts σ) (j k : Int32) : Ct m_rs_differ [.ref 0, .int j, .int k] 90 σ (AS CS FrC σ li gi row od cf ts (qDf li od ts (fun _ _ => 48) j k)) := by
  have hcs := h
  obtain ⟨h0, ⟨f, hf1, hf2⟩, ⟨h2, h2'⟩, ⟨g3, h3, h3P⟩, ⟨g4, h4, h4P⟩, hFI, hSK, hDV, h8, h9, h10, h11, h12⟩ := h
  have h0' : σ 0 = zO 0 [.ref 1, .ref 2, .ref 3, .ref 4, .ref 5, .ref 9, .ref 15, .int (nI li), .int (nI gi)] := h0
  by_cases hj : isL li j
  · by_cases hk : isL li k
    · have hgood : isL li j ∧ isL li k := ⟨hj, hk⟩
      obtain ⟨a, ha, rfl⟩ := hj
      obtain ⟨b, hb, rfl⟩ := hk
      have ea : (nI a).toNatClampNeg = a := nI_clamp (by omega)
      have eb : (nI b).toNatClampNeg = b := nI_clamp (by omega)
      obtain ⟨ca, fa, ⟨a1, a2, a3, a4, a5⟩, a6, a7⟩ := h9 a ha
      have hSa := h10 a ha
      have hfa := hf2 a (by omega)
      have hoa := hSa.1
      obtain ⟨cb, fb, ⟨b1, b2, b3, b4, b5⟩, b6, b7⟩ := h9 b hb
      have hSb := h10 b hb
      have hfb := hf2 b (by omega)
      have hob := hSb.1
      refine Ct.of (lv := [some (.ref 0), some (.int (nI a)), some (.int (nI b)), none, none, none]) 3 (by decide) rfl (Nat.le_of_ble_eq_true rfl) ?_
      generalize hPo : AS CS FrC σ li gi row od cf ts (qDf li od ts (fun _ _ => 48) (nI a) (nI b)) = Po
      refine z_ald0 (q := 1) d_rs_differ_0 rfl ?_
      refine z_ild1 (q := 2) d_rs_differ_1 rfl ?_
      refine z_cV1 (q := 5) d_rs_differ_2 rfl (ct_isListed_yes h0 (by omega) h11 ha) (by first | assumption | omega) (by first | assumption | omega) rfl ck_rs_isListed lk_rs_75 im_rs_isListed sl_rs_isListed ⟨by decide, by decide⟩ (Nat.le_of_ble_eq_true rfl) rfl rfl ?_
      refine zi_if_eq (q := 8) (tgt := 16) d_rs_differ_5 rfl (by decide) (by omega) (fun hb9 => absurd hb9 (by omega)) (fun _ => ?_)
      refine z_ald0 (q := 9) d_rs_differ_8 rfl ?_
      refine z_ild2 (q := 10) d_rs_differ_9 rfl ?_
      refine z_cV1 (q := 13) d_rs_differ_10 rfl (ct_isListed_yes h0 (by omega) h11 hb) (by first | assumption | omega) (by first | assumption | omega) rfl ck_rs_isListed lk_rs_75 im_rs_isListed sl_rs_isListed ⟨by decide, by decide⟩ (Nat.le_of_ble_eq_true rfl) rfl rfl ?_
      refine zi_if_ne (q := 16) (tgt := 19) d_rs_differ_13 rfl (by decide) (by omega) (fun _ => ?_) (fun hb9 => absurd hb9 (by omega))
      refine z_ald0 (q := 20) d_rs_differ_19 rfl ?_
      refine z_get 0 (q := 23) d_rs_differ_20 rfl fg_rs_11 (by first | assumption | omega) (by first | assumption | omega) (by rfl) ?_
      refine z_ild1 (q := 24) d_rs_differ_23 rfl ?_
      refine z_aaload (q := 25) d_rs_differ_24 rfl (by first | assumption | omega) (by first | assumption | omega) (by omega) (by omega) (by first | assumption | omega) ?_
      refine z_ast3 (q := 26) d_rs_differ_25 rfl rfl ?_
      refine z_ald0 (q := 27) d_rs_differ_26 rfl ?_
      refine z_get 0 (q := 30) d_rs_differ_27 rfl fg_rs_11 (by first | assumption | omega) (by first | assumption | omega) (by rfl) ?_
      refine z_ild2 (q := 31) d_rs_differ_30 rfl ?_
      refine z_aaload (q := 32) d_rs_differ_31 rfl (by first | assumption | omega) (by first | assumption | omega) (by omega) (by omega) (by first | assumption | omega) ?_
      refine z_ast4 (q := 34) d_rs_differ_32 rfl rfl ?_
      refine z_iconst (v := nI 0) (q := 35) d_rs_differ_34 rfl (by decide) ?_
      refine z_ist5 (q := 37) d_rs_differ_35 rfl rfl ?_
      have loop : ∀ e x, x + e = 48 → (∀ m, m < x → ts a m = ts b m) → Z m_rs_differ Po 0 0 90 σ 37 [some (.ref 0), some (.int (nI a)), some (.int (nI b)), some (.ref (18 + 3 * a)), some (.ref (18 + 3 * b)), some (.int (nI x))] [] := by
        intro e
        induction e with
        | zero =>
          intro x hx hm
          obtain rfl : x = 48 := by omega
          refine z_ild5 (q := 39) d_rs_differ_37 rfl ?_
          refine z_bipush (v := nI 48) (q := 41) d_rs_differ_39 rfl (by decide) ?_
          refine zn_icmp_ge (q := 44) (tgt := 72) d_rs_differ_41 rfl (by decide) (by omega) (by omega) (fun hb => ?_) (fun hb => ?_)
          · refine z_iconst (v := (-1)) (q := 73) d_rs_differ_72 rfl (by decide) ?_
            exact z_iret d_rs_differ_73 rfl (Nat.le_refl _) (Nat.le_refl _) (by rw [← hPo]; exact ⟨rfl, fun _ _ => rfl, ⟨_, rfl, Or.inr ⟨hgood, by rw [ea, eb]; exact Or.inr ⟨hm, rfl⟩⟩⟩, hcs⟩)
          · exact absurd hb (by omega)
        | succ e ih =>
          intro x hx hm
          have qa := a5 x
          have qb := b5 x
          refine z_ild5 (q := 39) d_rs_differ_37 rfl ?_
          refine z_bipush (v := nI 48) (q := 41) d_rs_differ_39 rfl (by decide) ?_
          refine zn_icmp_ge (q := 44) (tgt := 72) d_rs_differ_41 rfl (by decide) (by omega) (by omega) (fun hb => ?_) (fun hb => ?_)
          · exact absurd hb (by omega)
          · refine z_ald3 (q := 45) d_rs_differ_44 rfl ?_
            refine z_get 2 (q := 48) d_rs_differ_45 rfl fg_rs_81 (by first | assumption | omega) (by first | assumption | omega) (by rfl) ?_
            refine z_ild5 (q := 50) d_rs_differ_48 rfl ?_
            refine z_laload (q := 51) d_rs_differ_50 rfl (by first | assumption | omega) (by first | assumption | omega) (by omega) (by omega) ?_
            refine z_ald4 (q := 53) d_rs_differ_51 rfl ?_
            refine z_get 2 (q := 56) d_rs_differ_53 rfl fg_rs_81 (by first | assumption | omega) (by first | assumption | omega) (by rfl) ?_
            refine z_ild5 (q := 58) d_rs_differ_56 rfl ?_
            refine z_laload (q := 59) d_rs_differ_58 rfl (by first | assumption | omega) (by first | assumption | omega) (by omega) (by omega) ?_
            refine z_lcmp (q := 60) d_rs_differ_59 rfl ?_
            refine zc_if_eq (q := 63) (tgt := 66) d_rs_differ_60 rfl (by decide) (by omega) (by omega) (fun hb3 => ?_) (fun hb3 => ?_)
            · rw [a7 x (by omega), b7 x (by omega)] at hb3
              refine zn_iinc5 (d := 1) (q := 69) d_rs_differ_66 rfl rfl ?_
              refine z_goto (tgt := 37) d_rs_differ_69 (by decide) ?_
              refine ih (x + 1) (by omega) (fun m hm2 => ?_)
              by_cases hmx : m = x
              · rw [hmx]; exact hb3
              · exact hm m (by omega)
            · rw [a7 x (by omega), b7 x (by omega)] at hb3
              refine z_ild5 (q := 65) d_rs_differ_63 rfl ?_
              exact z_iret d_rs_differ_65 rfl (Nat.le_refl _) (Nat.le_refl _) (by rw [← hPo]; exact ⟨rfl, fun _ _ => rfl, ⟨_, rfl, Or.inr ⟨hgood, by rw [ea, eb]; exact Or.inl ⟨x, (show x < 48 by omega), hb3, hm, rfl⟩⟩⟩, hcs⟩)
      exact loop 48 0 (by omega) (fun m hm => by omega)
    · obtain ⟨a, ha, rfl⟩ := hj
      refine Ct.of (lv := [some (.ref 0), some (.int (nI a)), some (.int k), none, none, none]) 3 (by decide) rfl (Nat.le_of_ble_eq_true rfl) ?_
      refine z_ald0 (q := 1) d_rs_differ_0 rfl ?_
      refine z_ild1 (q := 2) d_rs_differ_1 rfl ?_
      refine z_cV1 (q := 5) d_rs_differ_2 rfl (ct_isListed_yes h0 (by omega) h11 ha) (by first | assumption | omega) (by first | assumption | omega) rfl ck_rs_isListed lk_rs_75 im_rs_isListed sl_rs_isListed ⟨by decide, by decide⟩ (Nat.le_of_ble_eq_true rfl) rfl rfl ?_
      refine zi_if_eq (q := 8) (tgt := 16) d_rs_differ_5 rfl (by decide) (by omega) (fun hb9 => absurd hb9 (by omega)) (fun _ => ?_)
      refine z_ald0 (q := 9) d_rs_differ_8 rfl ?_
      refine z_ild2 (q := 10) d_rs_differ_9 rfl ?_
      refine z_cV1 (q := 13) d_rs_differ_10 rfl (ct_isListed_no h0 (by omega) h11 hk) (by first | assumption | omega) (by first | assumption | omega) rfl ck_rs_isListed lk_rs_75 im_rs_isListed sl_rs_isListed ⟨by decide, by decide⟩ (Nat.le_of_ble_eq_true rfl) rfl rfl ?_
      refine zi_if_ne (q := 16) (tgt := 19) d_rs_differ_13 rfl (by decide) (by omega) (fun hb9 => absurd rfl hb9) (fun _ => ?_)
      refine z_bipush (v := (-2)) (q := 18) d_rs_differ_16 rfl (by decide) ?_
      exact z_iret d_rs_differ_18 rfl (Nat.le_refl _) (Nat.le_refl _) ⟨rfl, fun _ _ => rfl, ⟨_, rfl, Or.inl ⟨fun hh => hk hh.2, rfl⟩⟩, hcs⟩
  · refine Ct.of (lv := [some (.ref 0), some (.int j), some (.int k), none, none, none]) 3 (by decide) rfl (Nat.le_of_ble_eq_true rfl) ?_
    refine z_ald0 (q := 1) d_rs_differ_0 rfl ?_
    refine z_ild1 (q := 2) d_rs_differ_1 rfl ?_
    refine z_cV1 (q := 5) d_rs_differ_2 rfl (ct_isListed_no h0 (by omega) h11 hj) (by first | assumption | omega) (by first | assumption | omega) rfl ck_rs_isListed lk_rs_75 im_rs_isListed sl_rs_isListed ⟨by decide, by decide⟩ (Nat.le_of_ble_eq_true rfl) rfl rfl ?_
    refine zi_if_eq (q := 8) (tgt := 16) d_rs_differ_5 rfl (by decide) (by omega) (fun _ => ?_) (fun hb9 => absurd rfl hb9)
    refine z_bipush (v := (-2)) (q := 18) d_rs_differ_16 rfl (by decide) ?_
    exact z_iret d_rs_differ_18 rfl (Nat.le_refl _) (Nat.le_refl _) ⟨rfl, fun _ _ => rfl, ⟨_, rfl, Or.inl ⟨fun hh => hj hh.1, rfl⟩⟩, hcs⟩
/-- whether a series obeys the row -/
def qOb (li gi : Nat) (row od : Nat → Nat) (ts : Nat → Nat → Nat) (k v : Int32) : Prop := (¬ isL li k ∧ v = nI 0) ∨ (isL li k ∧ (((∀ n, n < od k.toNatClampNeg → ts k.toNatClampNeg (n + gi) = fo_ row (ts k.toNatClampNeg) (n + gi) gi) ∧ v = nI 1) ∨ (¬ (∀ n, n < od k.toNatClampNeg → ts k.toNatClampNeg (n + gi) = fo_ row (ts k.toNatClampNeg) (n + gi) gi) ∧ v = nI 0)))
theorem cc_obeys {σ : zWd} {li gi : Nat} {row od : Nat → Nat} {cf ts : Nat → Nat → Nat} (h : CS li gi row od cf ts σ) (k : Int32) : Ct m_rs_obeys [.ref 0, .int k] 90 σ (AS CS FrC σ li gi row od cf ts (qOb li gi row od ts k)) := by
  have hcs := h
  obtain ⟨h0, ⟨f, hf1, hf2⟩, ⟨h2, h2'⟩, ⟨g3, h3, h3P⟩, ⟨g4, h4, h4P⟩, hFI, hSK, hDV, h8, h9, h10, h11, h12⟩ := h
  have h0' : σ 0 = zO 0 [.ref 1, .ref 2, .ref 3, .ref 4, .ref 5, .ref 9, .ref 15, .int (nI li), .int (nI gi)] := h0
  by_cases hk : isL li k
  · have hk' := hk
    obtain ⟨a, ha, rfl⟩ := hk
    have ea : (nI a).toNatClampNeg = a := nI_clamp (by omega)
    obtain ⟨ca, fa, ⟨a1, a2, a3, a4, a5⟩, a6, a7⟩ := h9 a ha
    have hSa := h10 a ha
    have hfa := hf2 a (by omega)
    have hoa := hSa.1
    refine Ct.of (lv := [some (.ref 0), some (.int (nI a)), none, none]) 2 (by decide) rfl (Nat.le_of_ble_eq_true rfl) ?_
    generalize hPo : AS CS FrC σ li gi row od cf ts (qOb li gi row od ts (nI a)) = Po
    refine z_ald0 (q := 1) d_rs_obeys_0 rfl ?_
    refine z_ild1 (q := 2) d_rs_obeys_1 rfl ?_
    refine z_cV1 (q := 5) d_rs_obeys_2 rfl (ct_isListed_yes h0 (by omega) h11 ha) (by first | assumption | omega) (by first | assumption | omega) rfl ck_rs_isListed lk_rs_75 im_rs_isListed sl_rs_isListed ⟨by decide, by decide⟩ (Nat.le_of_ble_eq_true rfl) rfl rfl ?_
    refine zi_if_ne (q := 8) (tgt := 10) d_rs_obeys_5 rfl (by decide) (by omega) (fun _ => ?_) (fun hb => absurd hb (by omega))
    refine z_ald0 (q := 11) d_rs_obeys_10 rfl ?_
    refine z_get 0 (q := 14) d_rs_obeys_11 rfl fg_rs_11 (by first | assumption | omega) (by first | assumption | omega) (by rfl) ?_
    refine z_ild1 (q := 15) d_rs_obeys_14 rfl ?_
    refine z_aaload (q := 16) d_rs_obeys_15 rfl (by first | assumption | omega) (by first | assumption | omega) (by omega) (by omega) (by first | assumption | omega) ?_
    refine z_ast2 (q := 17) d_rs_obeys_16 rfl rfl ?_
    refine z_ald0 (q := 18) d_rs_obeys_17 rfl ?_
    refine z_get 8 (q := 21) d_rs_obeys_18 rfl fg_rs_51 (by first | assumption | omega) (by first | assumption | omega) (by rfl) ?_
    refine z_ist3 (q := 22) d_rs_obeys_21 rfl rfl ?_
    have loop : ∀ e x, x + e = od a → (∀ n, n < x → ts a (n + gi) = fo_ row (ts a) (n + gi) gi) → Z m_rs_obeys Po 0 0 90 σ 22 [some (.ref 0), some (.int (nI a)), some (.ref (18 + 3 * a)), some (.int (nI (x + gi)))] [] := by
      intro e
      induction e with
      | zero =>
        intro x hx hm
        obtain rfl : x = od a := by omega
        refine z_ild3 (q := 23) d_rs_obeys_22 rfl ?_
        refine z_ald0 (q := 24) d_rs_obeys_23 rfl ?_
        refine z_get 8 (q := 27) d_rs_obeys_24 rfl fg_rs_51 (by first | assumption | omega) (by first | assumption | omega) (by rfl) ?_
        refine z_ald2 (q := 28) d_rs_obeys_27 rfl ?_
        refine z_get 0 (q := 31) d_rs_obeys_28 rfl fg_rs_78 (by first | assumption | omega) (by first | assumption | omega) (by rfl) ?_
        first | refine zn_iadd (q := 32) d_rs_obeys_31 rfl ?_ | refine z_iadd (q := 32) d_rs_obeys_31 rfl ?_
        refine zn_icmp_ge (q := 35) (tgt := 69) d_rs_obeys_32 rfl (by decide) (by omega) (by omega) (fun hb => ?_) (fun hb => ?_)
        · refine z_iconst (v := nI 1) (q := 70) d_rs_obeys_69 rfl (by decide) ?_
          exact z_zret d_rs_obeys_70 rfl rfl (Nat.le_refl _) (Nat.le_refl _) (by rw [← hPo]; exact ⟨rfl, fun _ _ => rfl, ⟨_, rfl, Or.inr ⟨hk', Or.inl ⟨by rw [ea]; exact hm, rfl⟩⟩⟩, hcs⟩)
        · exact absurd hb (by omega)
      | succ e ih =>
        intro x hx hm
        have qa := a5 (x + gi)
        have qf := fo_lt row fa (x + gi) gi
        have e1 : fo_ row fa (x + gi) gi = fo_ row (ts a) (x + gi) gi := fo_congr (fun _ _ => rfl) (fun i hi => a7 _ (by omega))
        refine z_ild3 (q := 23) d_rs_obeys_22 rfl ?_
        refine z_ald0 (q := 24) d_rs_obeys_23 rfl ?_
        refine z_get 8 (q := 27) d_rs_obeys_24 rfl fg_rs_51 (by first | assumption | omega) (by first | assumption | omega) (by rfl) ?_
        refine z_ald2 (q := 28) d_rs_obeys_27 rfl ?_
        refine z_get 0 (q := 31) d_rs_obeys_28 rfl fg_rs_78 (by first | assumption | omega) (by first | assumption | omega) (by rfl) ?_
        first | refine zn_iadd (q := 32) d_rs_obeys_31 rfl ?_ | refine z_iadd (q := 32) d_rs_obeys_31 rfl ?_
        refine zn_icmp_ge (q := 35) (tgt := 69) d_rs_obeys_32 rfl (by decide) (by omega) (by omega) (fun hb => ?_) (fun hb => ?_)
        · exact absurd hb (by omega)
        · refine z_ald2 (q := 36) d_rs_obeys_35 rfl ?_
          refine z_get 2 (q := 39) d_rs_obeys_36 rfl fg_rs_81 (by first | assumption | omega) (by first | assumption | omega) (by rfl) ?_
          refine z_ild3 (q := 40) d_rs_obeys_39 rfl ?_
          refine z_laload (q := 41) d_rs_obeys_40 rfl (by first | assumption | omega) (by first | assumption | omega) (by omega) (by omega) ?_
          refine z_ald0 (q := 42) d_rs_obeys_41 rfl ?_
          refine z_get 1 (q := 45) d_rs_obeys_42 rfl fg_rs_15 (by first | assumption | omega) (by first | assumption | omega) (by rfl) ?_
          refine z_ald0 (q := 46) d_rs_obeys_45 rfl ?_
          refine z_get 8 (q := 49) d_rs_obeys_46 rfl fg_rs_51 (by first | assumption | omega) (by first | assumption | omega) (by rfl) ?_
          refine z_ald2 (q := 50) d_rs_obeys_49 rfl ?_
          refine z_get 2 (q := 53) d_rs_obeys_50 rfl fg_rs_81 (by first | assumption | omega) (by first | assumption | omega) (by rfl) ?_
          refine z_ild3 (q := 54) d_rs_obeys_53 rfl ?_
          refine z_cS4 (q := 57) d_rs_obeys_54 rfl (ct_foretold h2 a3 (by omega) (by omega) (by omega) (by omega) (by omega) (by omega) (by omega) h2' a5) ck_nu_foretold lk_rs_68 st_nu_foretold ⟨by decide, by decide⟩ (Nat.le_of_ble_eq_true rfl) rfl rfl ?_
          refine z_lcmp (q := 58) d_rs_obeys_57 rfl ?_
          refine zc_if_eq (q := 61) (tgt := 63) d_rs_obeys_58 rfl (by decide) (by omega) (by omega) (fun hb3 => ?_) (fun hb3 => ?_)
          · rw [a7 (x + gi) (by omega), e1] at hb3
            refine zn_iinc3 (d := 1) (q := 66) d_rs_obeys_63 rfl rfl ?_
            refine z_goto (tgt := 22) d_rs_obeys_66 (by decide) ?_
            have h5 := ih (x + 1) (by omega) (fun n hn => by
              by_cases hnx : n = x
              · rw [hnx]; exact hb3
              · exact hm n (by omega))
            rw [show x + 1 + gi = x + gi + 1 by omega] at h5
            exact h5
          · rw [a7 (x + gi) (by omega), e1] at hb3
            refine z_iconst (v := nI 0) (q := 62) d_rs_obeys_61 rfl (by decide) ?_
            exact z_zret d_rs_obeys_62 rfl rfl (Nat.le_refl _) (Nat.le_refl _) (by rw [← hPo]; exact ⟨rfl, fun _ _ => rfl, ⟨_, rfl, Or.inr ⟨hk', Or.inr ⟨by rw [ea]; exact fun hh => hb3 (hh x (by omega)), rfl⟩⟩⟩, hcs⟩)
    have h5 := loop (od a) 0 (by omega) (fun n hn => by omega)
    rw [Nat.zero_add] at h5
    exact h5
  · refine Ct.of (lv := [some (.ref 0), some (.int k), none, none]) 2 (by decide) rfl (Nat.le_of_ble_eq_true rfl) ?_
    refine z_ald0 (q := 1) d_rs_obeys_0 rfl ?_
    refine z_ild1 (q := 2) d_rs_obeys_1 rfl ?_
    refine z_cV1 (q := 5) d_rs_obeys_2 rfl (ct_isListed_no h0 (by omega) h11 hk) (by first | assumption | omega) (by first | assumption | omega) rfl ck_rs_isListed lk_rs_75 im_rs_isListed sl_rs_isListed ⟨by decide, by decide⟩ (Nat.le_of_ble_eq_true rfl) rfl rfl ?_
    refine zi_if_ne (q := 8) (tgt := 10) d_rs_obeys_5 rfl (by decide) (by omega) (fun hb => absurd rfl hb) (fun _ => ?_)
    refine z_iconst (v := nI 0) (q := 9) d_rs_obeys_8 rfl (by decide) ?_
    exact z_zret d_rs_obeys_9 rfl rfl (Nat.le_refl _) (Nat.le_refl _) ⟨rfl, fun _ _ => rfl, ⟨_, rfl, Or.inl ⟨hk, rfl⟩⟩, hcs⟩

