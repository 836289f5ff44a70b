/-! The making methods of the class -/
def MK (SP : Nat → Nat → (Nat → Nat) → (Nat → Nat) → (Nat → Nat → Nat) → (Nat → Nat → Nat) → zWd → Prop) (Fr : zWd → zWd → Prop) (σ : zWd) (li gi : Nat) (row od : Nat → Nat) (cf ts : Nat → Nat → Nat) (good : Prop) (B : Nat) (s : Nat → Nat) : Option Value → Nat → zWd → Prop := fun r n' σ' =>
  (¬ good ∧ r = some (.int (-1)) ∧ n' = 90 ∧ Fr σ σ' ∧ SP li gi row od cf ts σ') ∨ (good ∧ (20 ≤ li ∨ 24 < B) ∧ r = some (.int (nf_ li B)) ∧ n' = 90 ∧ Fr σ σ' ∧ SP li gi row od cf ts σ') ∨ (good ∧ li < 20 ∧ B ≤ 24 ∧ EN SP Fr σ li gi row od cf ts B s r n' σ')
theorem nf_neg {li B : Nat} (h : 20 ≤ li ∨ 24 < B) : ¬ 0 ≤ nf_ li B := by
  unfold nf_
  by_cases h1 : 20 ≤ li
  · rw [if_pos h1]; decide
  · rw [if_neg h1, if_pos (by omega)]; decide
theorem nf_pos {li B : Nat} (h1 : li < 20) (h2 : B ≤ 24) : nf_ li B = nI li := by
  unfold nf_
  rw [if_neg (by omega), if_neg (by omega)]
theorem EN_made {SP : Nat → Nat → (Nat → Nat) → (Nat → Nat) → (Nat → Nat → Nat) → (Nat → Nat → Nat) → zWd → Prop} {σ σ0 : zWd} {li gi B n' : Nat} {row od s : Nat → Nat} {cf ts : Nat → Nat → Nat} {r : Option Value} {σ' : zWd} (e : ∀ j, 78 ≤ j → σ0 j = σ j) (h : EN SP FrC σ0 li gi row od cf ts B s r n' σ') : EN SP FrC σ li gi row od cf ts B s r n' σ' := by
  obtain ⟨h1, h2, h3⟩ := h
  exact ⟨h1, fun j hj => (h2 j hj).trans (e j hj), h3⟩
theorem ob_of {o : Nat} {c s : Nat → Nat} (h : SR o c s) : ob o (fun i => ph (c i)) (fun n => ph (s n)) := h.2.2.2.2.1
/-- sums of products, as the programs make them -/
def pd_ (a b : Nat → Nat) (n : Nat) : Nat → Nat
  | 0 => 0
  | k + 1 => (pd_ a b n k + a k * b (n - k)) % 2147483647
theorem pd_lt (a b : Nat → Nat) (n k : Nat) : pd_ a b n k < 2147483647 := by
  cases k with
  | zero => show 0 < 2147483647; omega
  | succ k => exact Nat.mod_lt _ (by omega)
theorem pd_ph (a b : Nat → Nat) (n k : Nat) : ph (pd_ a b n k) = sm k (fun i => ph (a i) * ph (b (n - i))) := by
  induction k with
  | zero => rfl
  | succ k ih => show ph ((pd_ a b n k + a k * b (n - k)) % 2147483647) = _; rw [ph_mod, ph_add, ph_mul, ih, sm_s]
def su_ (a : Nat → Nat) : Nat → Nat
  | 0 => 0
  | k + 1 => (su_ a k + a k) % 2147483647
theorem su_lt (a : Nat → Nat) (k : Nat) : su_ a k < 2147483647 := by
  cases k with
  | zero => show 0 < 2147483647; omega
  | succ k => exact Nat.mod_lt _ (by omega)
theorem su_ph (a : Nat → Nat) (k : Nat) : ph (su_ a k) = sm k (fun i => ph (a i)) := by
  induction k with
  | zero => rfl
  | succ k ih => show ph ((su_ a k + a k) % 2147483647) = _; rw [ph_mod, ph_add, ih, sm_s]
theorem cc_tail {σ : zWd} {li gi : Nat} {row od : Nat → Nat} {cf ts : Nat → Nat → Nat} (h : CS li gi row od cf ts σ) (j : Int32) : Ct m_rs_tail [.ref 0, .int j] 90 σ (MK CS FrC σ li gi row od cf ts (isL li j) (od j.toNatClampNeg) (fun n => ts j.toNatClampNeg (n + 1))) := by
  have hcs := h
  obtain ⟨h0, ⟨f, hf1, hf2⟩, ⟨h2, h2'⟩, ⟨g3, h3, h3P⟩, h4, hFI, hSK, hDV, h8, h9, h10, h11, h12⟩ := h
  have h0' : σ 0 = zO 0 [.ref 1, .ref 2, .ref 3, .ref 4, .ref 5, .ref 9, .ref 15, .int (nI li), .int (nI gi)] := h0
  by_cases hj : isL li j
  · obtain ⟨a, ha, rfl⟩ := hj
    rw [nI_clamp (by omega)]
    obtain ⟨ca, fa, ⟨a1, a2, a3, a4, a5⟩, a6, a7⟩ := h9 a ha
    have hSa := h10 a ha
    have hfa := hf2 a (by omega)
    have hoa := hSa.1
    refine Ct.of (lv := [some (.ref 0), some (.int (nI a)), none, none, none, none]) 4 (by decide) rfl (Nat.le_of_ble_eq_true rfl) ?_
    generalize hPo : MK CS FrC σ li gi row od cf ts (isL li (nI a)) (od a) (fun n => ts a (n + 1)) = Po
    generalize hs : (fun n => ts a (n + 1)) = s at hPo
    have hsP : ∀ n, s n < 2147483647 := fun n => by rw [← hs]; exact hSa.2.1 _
    refine z_ald0 (q := 1) d_rs_tail_0 rfl ?_
    refine z_ild1 (q := 2) d_rs_tail_1 rfl ?_
    refine z_cV1 (q := 5) d_rs_tail_2 rfl (ct_isListed_yes h0 (by omega) h11 ha) (by first | assumption | omega) (by first | assumption | omega) rfl ck_rs_isListed lk_rs_75 im_rs_isListed sl_rs_isListed ⟨by decide, by decide⟩ (Nat.le_of_ble_eq_true rfl) rfl rfl ?_
    refine zi_if_ne (q := 8) (tgt := 10) d_rs_tail_5 rfl (by decide) (by omega) (fun _ => ?_) (fun hb => absurd hb (by omega))
    refine z_ald0 (q := 11) d_rs_tail_10 rfl ?_
    refine z_get 0 (q := 14) d_rs_tail_11 rfl fg_rs_11 (by first | assumption | omega) (by first | assumption | omega) (by rfl) ?_
    refine z_ild1 (q := 15) d_rs_tail_14 rfl ?_
    refine z_aaload (q := 16) d_rs_tail_15 rfl (by first | assumption | omega) (by first | assumption | omega) (by omega) (by omega) (by first | assumption | omega) ?_
    refine z_ast2 (q := 17) d_rs_tail_16 rfl rfl ?_
    refine z_ald2 (q := 18) d_rs_tail_17 rfl ?_
    refine z_get 0 (q := 21) d_rs_tail_18 rfl fg_rs_78 (by first | assumption | omega) (by first | assumption | omega) (by rfl) ?_
    refine z_ist3 (q := 22) d_rs_tail_21 rfl rfl ?_
    refine z_ald0 (q := 23) d_rs_tail_22 rfl ?_
    refine z_ild3 (q := 24) d_rs_tail_23 rfl ?_
    refine z_cV1 (q := 27) d_rs_tail_24 rfl (ct_numberFor h0 (by omega) h11 (by omega)) (by first | assumption | omega) (by first | assumption | omega) rfl ck_rs_numberFor lk_rs_60 im_rs_numberFor sl_rs_numberFor ⟨by decide, by decide⟩ (Nat.le_of_ble_eq_true rfl) rfl rfl ?_
    refine z_ist4 (q := 29) d_rs_tail_27 rfl rfl ?_
    refine z_ild4 (q := 31) d_rs_tail_29 rfl ?_
    by_cases hn : 20 ≤ li ∨ 24 < od a
    · refine z_if_ge (q := 34) (tgt := 37) d_rs_tail_31 rfl (by decide) (fun hb => absurd hb (nf_neg hn)) (fun _ => ?_)
      refine z_ild4 (q := 36) d_rs_tail_34 rfl ?_
      exact z_iret d_rs_tail_36 rfl (Nat.le_refl _) (Nat.le_refl _) (by rw [← hPo]; exact Or.inr (Or.inl ⟨⟨a, ha, rfl⟩, hn, rfl, rfl, fun _ _ => rfl, hcs⟩))
    rw [nf_pos (by omega) (by omega)]
    refine zi_if_ge (tgt := 37) d_rs_tail_31 (by decide) (by omega) ?_
    have hl20 : li < 20 := by omega
    have hB24 : od a ≤ 24 := by omega

    have loop : ∀ e x, x + e = 2 * (od a) → Z m_rs_tail Po 0 0 90 (va_up σ 3 (zN 48 (fl_ s g3 x))) 40 [some (.ref 0), some (.int (nI a)), some (.ref (18 + 3 * a)), some (.int (nI (od a))), some (.int (nI li)), some (.int (nI x))] [] := by
      intro e
      induction e with
      | zero =>
        intro x hx
        obtain rfl : x = 2 * (od a) := by omega
        refine z_ild5 (q := 42) d_rs_tail_40 rfl ?_
        refine z_iconst (v := nI 2) (q := 43) d_rs_tail_42 rfl (by decide) ?_
        refine z_ild3 (q := 44) d_rs_tail_43 rfl ?_
        first | refine zn_imul (q := 45) d_rs_tail_44 rfl ?_ | refine z_imul (q := 45) d_rs_tail_44 rfl ?_
        refine zn_icmp_ge (q := 48) (tgt := 70) d_rs_tail_45 rfl (by decide) (by omega) (by omega) (fun hb => ?_) (fun hb => ?_)
        · have y0 : va_up σ 3 (zN 48 (fl_ s g3 (2 * (od a)))) 0 = zO 0 [.ref 1, .ref 2, .ref 3, .ref 4, .ref 5, .ref 9, .ref 15, .int (nI li), .int (nI gi)] := by rw [zu_ne (by omega)]; exact h0
          refine z_ald0 (q := 71) d_rs_tail_70 rfl ?_
          refine z_ild3 (q := 72) d_rs_tail_71 rfl ?_
          have hcm := hcs.made (g := fl_ s g3 (2 * (od a))) (fl_lt hsP h3P)
          refine z_gV1 (q := 75) d_rs_tail_72 rfl (ct_enlist hcm (by omega) hB24 zu_same (fl_lt hsP h3P) (fun j hj => fl_lo (by omega)) hsP (by rw [← hs]; have := bd_section fp_inv (ob_of hSa) 1 1; simpa only [Nat.one_mul] using this)) (by first | assumption | omega) (by first | assumption | omega) rfl ck_rs_enlist lk_rs_72 im_rs_enlist sl_rs_enlist ⟨by decide, by decide⟩ (Nat.le_of_ble_eq_true rfl) rfl rfl (fun r m τ hp => ?_)
          have hen := EN_made (σ := σ) (fun j hj => zu_ne (by omega)) hp
          obtain ⟨rfl, -, rfl, -⟩ := hp
          exact z_iret d_rs_tail_75 rfl (Nat.le_refl _) (Nat.le_refl _) (by rw [← hPo]; exact Or.inr (Or.inr ⟨⟨a, ha, rfl⟩, hl20, hB24, hen⟩))
        · exact absurd hb (by omega)
      | succ e ih =>
        intro x hx
        have y0 : va_up σ 3 (zN 48 (fl_ s g3 x)) 0 = zO 0 [.ref 1, .ref 2, .ref 3, .ref 4, .ref 5, .ref 9, .ref 15, .int (nI li), .int (nI gi)] := by rw [zu_ne (by omega)]; exact h0
        have y3 : va_up σ 3 (zN 48 (fl_ s g3 x)) 3 = zN 48 (fl_ s g3 x) := zu_same
        have ya : va_up σ 3 (zN 48 (fl_ s g3 x)) (18 + 3 * a) = zO 1 [.int (nI (od a)), .ref (19 + 3 * a), .ref (20 + 3 * a)] := by rw [zu_ne (by omega)]; exact a1
        have yt : va_up σ 3 (zN 48 (fl_ s g3 x)) (20 + 3 * a) = zN 88 fa := by rw [zu_ne (by omega)]; exact a3
        refine z_ild5 (q := 42) d_rs_tail_40 rfl ?_
        refine z_iconst (v := nI 2) (q := 43) d_rs_tail_42 rfl (by decide) ?_
        refine z_ild3 (q := 44) d_rs_tail_43 rfl ?_
        first | refine zn_imul (q := 45) d_rs_tail_44 rfl ?_ | refine z_imul (q := 45) d_rs_tail_44 rfl ?_
        refine zn_icmp_ge (q := 48) (tgt := 70) d_rs_tail_45 rfl (by decide) (by omega) (by omega) (fun hb => ?_) (fun hb => ?_)
        · exact absurd hb (by omega)
        · refine z_ald0 (q := 49) d_rs_tail_48 rfl ?_
          refine z_get 2 (q := 52) d_rs_tail_49 rfl fg_rs_19 (by first | assumption | omega) (by first | assumption | omega) (by rfl) ?_
          refine z_ild5 (q := 54) d_rs_tail_52 rfl ?_
          refine z_ald2 (q := 55) d_rs_tail_54 rfl ?_
          refine z_get 2 (q := 58) d_rs_tail_55 rfl fg_rs_81 (by first | assumption | omega) (by first | assumption | omega) (by rfl) ?_
          refine z_ild5 (q := 60) d_rs_tail_58 rfl ?_
          refine z_iconst (v := nI 1) (q := 61) d_rs_tail_60 rfl (by decide) ?_
          first | refine zn_iadd (q := 62) d_rs_tail_61 rfl ?_ | refine z_iadd (q := 62) d_rs_tail_61 rfl ?_
          refine z_laload (q := 63) d_rs_tail_62 rfl (by first | assumption | omega) (by first | assumption | omega) (by omega) (by omega) ?_
          refine z_lastore (q := 64) d_rs_tail_63 rfl (by first | assumption | omega) (by first | assumption | omega) (by omega) (by omega) ?_
          refine zn_iinc5 (d := 1) (q := 67) d_rs_tail_64 rfl rfl ?_
          refine z_goto (tgt := 40) d_rs_tail_67 (by decide) ?_
          refine Z.eqw ?_ (ih (x + 1) (by omega))
          rw [zu_up, ← fl_s, ← hs, a7 (x + 1) (by omega)]
    refine z_iconst (v := nI 0) (q := 38) d_rs_tail_37 rfl (by decide) ?_
    refine z_ist5 (q := 40) d_rs_tail_38 rfl rfl ?_
    exact (Z.eqw (by rw [fl_0]; exact zu_id h3) (loop (2 * od a) 0 (by omega)))
  · refine Ct.of (lv := [some (.ref 0), some (.int j), none, none, none, none]) 4 (by decide) rfl (Nat.le_of_ble_eq_true rfl) ?_
    refine z_ald0 (q := 1) d_rs_tail_0 rfl ?_
    refine z_ild1 (q := 2) d_rs_tail_1 rfl ?_
    refine z_cV1 (q := 5) d_rs_tail_2 rfl (ct_isListed_no h0 (by omega) h11 hj) (by first | assumption | omega) (by first | assumption | omega) rfl ck_rs_isListed lk_rs_75 im_rs_isListed sl_rs_isListed ⟨by decide, by decide⟩ (Nat.le_of_ble_eq_true rfl) rfl rfl ?_
    refine zi_if_ne (q := 8) (tgt := 10) d_rs_tail_5 rfl (by decide) (by omega) (fun hb => absurd rfl hb) (fun _ => ?_)
    refine z_iconst (v := (-1)) (q := 9) d_rs_tail_8 rfl (by decide) ?_
    exact z_iret d_rs_tail_9 rfl (Nat.le_refl _) (Nat.le_refl _) (Or.inl ⟨hj, rfl, rfl, fun _ _ => rfl, hcs⟩)
theorem cc_derivative {σ : zWd} {li gi : Nat} {row od : Nat → Nat} {cf ts : Nat → Nat → Nat} (h : CS li gi row od cf ts σ) (j : Int32) : Ct m_rs_derivative [.ref 0, .int j] 90 σ (MK CS FrC σ li gi row od cf ts (isL li j) (2 * od j.toNatClampNeg) (fun n => (n + 1) * ts j.toNatClampNeg (n + 1) % 2147483647)) := by
  have hcs := h
  obtain ⟨h0, ⟨f, hf1, hf2⟩, ⟨h2, h2'⟩, ⟨g3, h3, h3P⟩, h4, hFI, hSK, hDV, h8, h9, h10, h11, h12⟩ := h
  have h0' : σ 0 = zO 0 [.ref 1, .ref 2, .ref 3, .ref 4, .ref 5, .ref 9, .ref 15, .int (nI li), .int (nI gi)] := h0
  by_cases hj : isL li j
  · obtain ⟨a, ha, rfl⟩ := hj
    rw [nI_clamp (by omega)]
    obtain ⟨ca, fa, ⟨a1, a2, a3, a4, a5⟩, a6, a7⟩ := h9 a ha
    have hSa := h10 a ha
    have hfa := hf2 a (by omega)
    have hoa := hSa.1
    refine Ct.of (lv := [some (.ref 0), some (.int (nI a)), none, none, none, none]) 4 (by decide) rfl (Nat.le_of_ble_eq_true rfl) ?_
    generalize hPo : MK CS FrC σ li gi row od cf ts (isL li (nI a)) (2 * od a) (fun n => (n + 1) * ts a (n + 1) % 2147483647) = Po
    generalize hs : (fun n => (n + 1) * ts a (n + 1) % 2147483647) = s at hPo
    have hsP : ∀ n, s n < 2147483647 := fun n => by rw [← hs]; exact Nat.mod_lt _ (by omega)
    refine z_ald0 (q := 1) d_rs_derivative_0 rfl ?_
    refine z_ild1 (q := 2) d_rs_derivative_1 rfl ?_
    refine z_cV1 (q := 5) d_rs_derivative_2 rfl (ct_isListed_yes h0 (by omega) h11 ha) (by first | assumption | omega) (by first | assumption | omega) rfl ck_rs_isListed lk_rs_75 im_rs_isListed sl_rs_isListed ⟨by decide, by decide⟩ (Nat.le_of_ble_eq_true rfl) rfl rfl ?_
    refine zi_if_ne (q := 8) (tgt := 10) d_rs_derivative_5 rfl (by decide) (by omega) (fun _ => ?_) (fun hb => absurd hb (by omega))
    refine z_ald0 (q := 11) d_rs_derivative_10 rfl ?_
    refine z_get 0 (q := 14) d_rs_derivative_11 rfl fg_rs_11 (by first | assumption | omega) (by first | assumption | omega) (by rfl) ?_
    refine z_ild1 (q := 15) d_rs_derivative_14 rfl ?_
    refine z_aaload (q := 16) d_rs_derivative_15 rfl (by first | assumption | omega) (by first | assumption | omega) (by omega) (by omega) (by first | assumption | omega) ?_
    refine z_ast2 (q := 17) d_rs_derivative_16 rfl rfl ?_
    refine z_iconst (v := nI 2) (q := 18) d_rs_derivative_17 rfl (by decide) ?_
    refine z_ald2 (q := 19) d_rs_derivative_18 rfl ?_
    refine z_get 0 (q := 22) d_rs_derivative_19 rfl fg_rs_78 (by first | assumption | omega) (by first | assumption | omega) (by rfl) ?_
    first | refine zn_imul (q := 23) d_rs_derivative_22 rfl ?_ | refine z_imul (q := 23) d_rs_derivative_22 rfl ?_
    refine z_ist3 (q := 24) d_rs_derivative_23 rfl rfl ?_
    refine z_ald0 (q := 25) d_rs_derivative_24 rfl ?_
    refine z_ild3 (q := 26) d_rs_derivative_25 rfl ?_
    refine z_cV1 (q := 29) d_rs_derivative_26 rfl (ct_numberFor h0 (by omega) h11 (by omega)) (by first | assumption | omega) (by first | assumption | omega) rfl ck_rs_numberFor lk_rs_60 im_rs_numberFor sl_rs_numberFor ⟨by decide, by decide⟩ (Nat.le_of_ble_eq_true rfl) rfl rfl ?_
    refine z_ist4 (q := 31) d_rs_derivative_29 rfl rfl ?_
    refine z_ild4 (q := 33) d_rs_derivative_31 rfl ?_
    by_cases hn : 20 ≤ li ∨ 24 < 2 * od a
    · refine z_if_ge (q := 36) (tgt := 39) d_rs_derivative_33 rfl (by decide) (fun hb => absurd hb (nf_neg hn)) (fun _ => ?_)
      refine z_ild4 (q := 38) d_rs_derivative_36 rfl ?_
      exact z_iret d_rs_derivative_38 rfl (Nat.le_refl _) (Nat.le_refl _) (by rw [← hPo]; exact Or.inr (Or.inl ⟨⟨a, ha, rfl⟩, hn, rfl, rfl, fun _ _ => rfl, hcs⟩))
    rw [nf_pos (by omega) (by omega)]
    refine zi_if_ge (tgt := 39) d_rs_derivative_33 (by decide) (by omega) ?_
    have hl20 : li < 20 := by omega
    have hB24 : 2 * od a ≤ 24 := by omega

    have loop : ∀ e x, x + e = 2 * (2 * od a) → Z m_rs_derivative Po 0 0 90 (va_up σ 3 (zN 48 (fl_ s g3 x))) 42 [some (.ref 0), some (.int (nI a)), some (.ref (18 + 3 * a)), some (.int (nI (2 * od a))), some (.int (nI li)), some (.int (nI x))] [] := by
      intro e
      induction e with
      | zero =>
        intro x hx
        obtain rfl : x = 2 * (2 * od a) := by omega
        refine z_ild5 (q := 44) d_rs_derivative_42 rfl ?_
        refine z_iconst (v := nI 2) (q := 45) d_rs_derivative_44 rfl (by decide) ?_
        refine z_ild3 (q := 46) d_rs_derivative_45 rfl ?_
        first | refine zn_imul (q := 47) d_rs_derivative_46 rfl ?_ | refine z_imul (q := 47) d_rs_derivative_46 rfl ?_
        refine zn_icmp_ge (q := 50) (tgt := 80) d_rs_derivative_47 rfl (by decide) (by omega) (by omega) (fun hb => ?_) (fun hb => ?_)
        · have y0 : va_up σ 3 (zN 48 (fl_ s g3 (2 * (2 * od a)))) 0 = zO 0 [.ref 1, .ref 2, .ref 3, .ref 4, .ref 5, .ref 9, .ref 15, .int (nI li), .int (nI gi)] := by rw [zu_ne (by omega)]; exact h0
          refine z_ald0 (q := 81) d_rs_derivative_80 rfl ?_
          refine z_ild3 (q := 82) d_rs_derivative_81 rfl ?_
          have hcm := hcs.made (g := fl_ s g3 (2 * (2 * od a))) (fl_lt hsP h3P)
          refine z_gV1 (q := 85) d_rs_derivative_82 rfl (ct_enlist hcm (by omega) hB24 zu_same (fl_lt hsP h3P) (fun j hj => fl_lo (by omega)) hsP (by rw [← hs]; have := bd_derivative fp_inv ph (fun n => by rw [ph_add, ph_1]) (ob_of hSa); simp only [ph_mod, ph_mul]; rw [show 2 * od a = od a + od a by omega]; exact this)) (by first | assumption | omega) (by first | assumption | omega) rfl ck_rs_enlist lk_rs_72 im_rs_enlist sl_rs_enlist ⟨by decide, by decide⟩ (Nat.le_of_ble_eq_true rfl) rfl rfl (fun r m τ hp => ?_)
          have hen := EN_made (σ := σ) (fun j hj => zu_ne (by omega)) hp
          obtain ⟨rfl, -, rfl, -⟩ := hp
          exact z_iret d_rs_derivative_85 rfl (Nat.le_refl _) (Nat.le_refl _) (by rw [← hPo]; exact Or.inr (Or.inr ⟨⟨a, ha, rfl⟩, hl20, hB24, hen⟩))
        · exact absurd hb (by omega)
      | succ e ih =>
        intro x hx
        have y0 : va_up σ 3 (zN 48 (fl_ s g3 x)) 0 = zO 0 [.ref 1, .ref 2, .ref 3, .ref 4, .ref 5, .ref 9, .ref 15, .int (nI li), .int (nI gi)] := by rw [zu_ne (by omega)]; exact h0
        have y3 : va_up σ 3 (zN 48 (fl_ s g3 x)) 3 = zN 48 (fl_ s g3 x) := zu_same
        have ya : va_up σ 3 (zN 48 (fl_ s g3 x)) (18 + 3 * a) = zO 1 [.int (nI (od a)), .ref (19 + 3 * a), .ref (20 + 3 * a)] := by rw [zu_ne (by omega)]; exact a1
        have yt : va_up σ 3 (zN 48 (fl_ s g3 x)) (20 + 3 * a) = zN 88 fa := by rw [zu_ne (by omega)]; exact a3
        refine z_ild5 (q := 44) d_rs_derivative_42 rfl ?_
        refine z_iconst (v := nI 2) (q := 45) d_rs_derivative_44 rfl (by decide) ?_
        refine z_ild3 (q := 46) d_rs_derivative_45 rfl ?_
        first | refine zn_imul (q := 47) d_rs_derivative_46 rfl ?_ | refine z_imul (q := 47) d_rs_derivative_46 rfl ?_
        refine zn_icmp_ge (q := 50) (tgt := 80) d_rs_derivative_47 rfl (by decide) (by omega) (by omega) (fun hb => ?_) (fun hb => ?_)
        · exact absurd hb (by omega)
        · refine z_ald0 (q := 51) d_rs_derivative_50 rfl ?_
          refine z_get 2 (q := 54) d_rs_derivative_51 rfl fg_rs_19 (by first | assumption | omega) (by first | assumption | omega) (by rfl) ?_
          refine z_ild5 (q := 56) d_rs_derivative_54 rfl ?_
          refine z_ild5 (q := 58) d_rs_derivative_56 rfl ?_
          refine z_iconst (v := nI 1) (q := 59) d_rs_derivative_58 rfl (by decide) ?_
          first | refine zn_iadd (q := 60) d_rs_derivative_59 rfl ?_ | refine z_iadd (q := 60) d_rs_derivative_59 rfl ?_
          first | refine zn_i2l (q := 61) d_rs_derivative_60 rfl (by omega) ?_ | refine z_i2l (q := 61) d_rs_derivative_60 rfl ?_
          refine z_ald2 (q := 62) d_rs_derivative_61 rfl ?_
          refine z_get 2 (q := 65) d_rs_derivative_62 rfl fg_rs_81 (by first | assumption | omega) (by first | assumption | omega) (by rfl) ?_
          refine z_ild5 (q := 67) d_rs_derivative_65 rfl ?_
          refine z_iconst (v := nI 1) (q := 68) d_rs_derivative_67 rfl (by decide) ?_
          first | refine zn_iadd (q := 69) d_rs_derivative_68 rfl ?_ | refine z_iadd (q := 69) d_rs_derivative_68 rfl ?_
          refine z_laload (q := 70) d_rs_derivative_69 rfl (by first | assumption | omega) (by first | assumption | omega) (by omega) (by omega) ?_
          refine z_cS2 (q := 73) d_rs_derivative_70 rfl (ct_times 90 _ (by omega) (a5 (x + 1))) ck_nu_times lk_rs_84 st_nu_times ⟨by decide, by decide⟩ (Nat.le_of_ble_eq_true rfl) rfl rfl ?_
          refine z_lastore (q := 74) d_rs_derivative_73 rfl (by first | assumption | omega) (by first | assumption | omega) (by omega) (by omega) ?_
          refine zn_iinc5 (d := 1) (q := 77) d_rs_derivative_74 rfl rfl ?_
          refine z_goto (tgt := 42) d_rs_derivative_77 (by decide) ?_
          refine Z.eqw ?_ (ih (x + 1) (by omega))
          rw [zu_up, ← fl_s, ← hs, a7 (x + 1) (by omega)]
    refine z_iconst (v := nI 0) (q := 40) d_rs_derivative_39 rfl (by decide) ?_
    refine z_ist5 (q := 42) d_rs_derivative_40 rfl rfl ?_
    exact (Z.eqw (by rw [fl_0]; exact zu_id h3) (loop (2 * (2 * od a)) 0 (by omega)))
  · refine Ct.of (lv := [some (.ref 0), some (.int j), none, none, none, none]) 4 (by decide) rfl (Nat.le_of_ble_eq_true rfl) ?_
    refine z_ald0 (q := 1) d_rs_derivative_0 rfl ?_
    refine z_ild1 (q := 2) d_rs_derivative_1 rfl ?_
    refine z_cV1 (q := 5) d_rs_derivative_2 rfl (ct_isListed_no h0 (by omega) h11 hj) (by first | assumption | omega) (by first | assumption | omega) rfl ck_rs_isListed lk_rs_75 im_rs_isListed sl_rs_isListed ⟨by decide, by decide⟩ (Nat.le_of_ble_eq_true rfl) rfl rfl ?_
    refine zi_if_ne (q := 8) (tgt := 10) d_rs_derivative_5 rfl (by decide) (by omega) (fun hb => absurd rfl hb) (fun _ => ?_)
    refine z_iconst (v := (-1)) (q := 9) d_rs_derivative_8 rfl (by decide) ?_
    exact z_iret d_rs_derivative_9 rfl (Nat.le_refl _) (Nat.le_refl _) (Or.inl ⟨hj, rfl, rfl, fun _ _ => rfl, hcs⟩)
theorem cc_delay {σ : zWd} {li gi : Nat} {row od : Nat → Nat} {cf ts : Nat → Nat → Nat} (h : CS li gi row od cf ts σ) (j : Int32) : Ct m_rs_delay [.ref 0, .int j] 90 σ (MK CS FrC σ li gi row od cf ts (isL li j) (od j.toNatClampNeg + 1) (fun n => if n = 0 then 0 else ts j.toNatClampNeg (n - 1))) := by
  have hcs := h
  obtain ⟨h0, ⟨f, hf1, hf2⟩, ⟨h2, h2'⟩, ⟨g3, h3, h3P⟩, h4, hFI, hSK, hDV, h8, h9, h10, h11, h12⟩ := h
  have h0' : σ 0 = zO 0 [.ref 1, .ref 2, .ref 3, .ref 4, .ref 5, .ref 9, .ref 15, .int (nI li), .int (nI gi)] := h0
  by_cases hj : isL li j
  · obtain ⟨a, ha, rfl⟩ := hj
    rw [nI_clamp (by omega)]
    obtain ⟨ca, fa, ⟨a1, a2, a3, a4, a5⟩, a6, a7⟩ := h9 a ha
    have hSa := h10 a ha
    have hfa := hf2 a (by omega)
    have hoa := hSa.1
    refine Ct.of (lv := [some (.ref 0), some (.int (nI a)), none, none, none, none]) 4 (by decide) rfl (Nat.le_of_ble_eq_true rfl) ?_
    generalize hPo : MK CS FrC σ li gi row od cf ts (isL li (nI a)) (od a + 1) (fun n => if n = 0 then 0 else ts a (n - 1)) = Po
    generalize hs : (fun n => if n = 0 then 0 else ts a (n - 1)) = s at hPo
    have hsP : ∀ n, s n < 2147483647 := fun n => by rw [← hs]; exact (by dsimp only; split; omega; exact hSa.2.1 _)
    refine z_ald0 (q := 1) d_rs_delay_0 rfl ?_
    refine z_ild1 (q := 2) d_rs_delay_1 rfl ?_
    refine z_cV1 (q := 5) d_rs_delay_2 rfl (ct_isListed_yes h0 (by omega) h11 ha) (by first | assumption | omega) (by first | assumption | omega) rfl ck_rs_isListed lk_rs_75 im_rs_isListed sl_rs_isListed ⟨by decide, by decide⟩ (Nat.le_of_ble_eq_true rfl) rfl rfl ?_
    refine zi_if_ne (q := 8) (tgt := 10) d_rs_delay_5 rfl (by decide) (by omega) (fun _ => ?_) (fun hb => absurd hb (by omega))
    refine z_ald0 (q := 11) d_rs_delay_10 rfl ?_
    refine z_get 0 (q := 14) d_rs_delay_11 rfl fg_rs_11 (by first | assumption | omega) (by first | assumption | omega) (by rfl) ?_
    refine z_ild1 (q := 15) d_rs_delay_14 rfl ?_
    refine z_aaload (q := 16) d_rs_delay_15 rfl (by first | assumption | omega) (by first | assumption | omega) (by omega) (by omega) (by first | assumption | omega) ?_
    refine z_ast2 (q := 17) d_rs_delay_16 rfl rfl ?_
    refine z_ald2 (q := 18) d_rs_delay_17 rfl ?_
    refine z_get 0 (q := 21) d_rs_delay_18 rfl fg_rs_78 (by first | assumption | omega) (by first | assumption | omega) (by rfl) ?_
    refine z_iconst (v := nI 1) (q := 22) d_rs_delay_21 rfl (by decide) ?_
    first | refine zn_iadd (q := 23) d_rs_delay_22 rfl ?_ | refine z_iadd (q := 23) d_rs_delay_22 rfl ?_
    refine z_ist3 (q := 24) d_rs_delay_23 rfl rfl ?_
    refine z_ald0 (q := 25) d_rs_delay_24 rfl ?_
    refine z_ild3 (q := 26) d_rs_delay_25 rfl ?_
    refine z_cV1 (q := 29) d_rs_delay_26 rfl (ct_numberFor h0 (by omega) h11 (by omega)) (by first | assumption | omega) (by first | assumption | omega) rfl ck_rs_numberFor lk_rs_60 im_rs_numberFor sl_rs_numberFor ⟨by decide, by decide⟩ (Nat.le_of_ble_eq_true rfl) rfl rfl ?_
    refine z_ist4 (q := 31) d_rs_delay_29 rfl rfl ?_
    refine z_ild4 (q := 33) d_rs_delay_31 rfl ?_
    by_cases hn : 20 ≤ li ∨ 24 < od a + 1
    · refine z_if_ge (q := 36) (tgt := 39) d_rs_delay_33 rfl (by decide) (fun hb => absurd hb (nf_neg hn)) (fun _ => ?_)
      refine z_ild4 (q := 38) d_rs_delay_36 rfl ?_
      exact z_iret d_rs_delay_38 rfl (Nat.le_refl _) (Nat.le_refl _) (by rw [← hPo]; exact Or.inr (Or.inl ⟨⟨a, ha, rfl⟩, hn, rfl, rfl, fun _ _ => rfl, hcs⟩))
    rw [nf_pos (by omega) (by omega)]
    refine zi_if_ge (tgt := 39) d_rs_delay_33 (by decide) (by omega) ?_
    have hl20 : li < 20 := by omega
    have hB24 : od a + 1 ≤ 24 := by omega

    have loop : ∀ e x, 1 ≤ x → x + e = 2 * (od a + 1) → Z m_rs_delay Po 0 0 90 (va_up σ 3 (zN 48 (fl_ s g3 x))) 49 [some (.ref 0), some (.int (nI a)), some (.ref (18 + 3 * a)), some (.int (nI (od a + 1))), some (.int (nI li)), some (.int (nI x))] [] := by
      intro e
      induction e with
      | zero =>
        intro x hx1 hx
        obtain rfl : x = 2 * (od a + 1) := by omega
        refine z_ild5 (q := 51) d_rs_delay_49 rfl ?_
        refine z_iconst (v := nI 2) (q := 52) d_rs_delay_51 rfl (by decide) ?_
        refine z_ild3 (q := 53) d_rs_delay_52 rfl ?_
        first | refine zn_imul (q := 54) d_rs_delay_53 rfl ?_ | refine z_imul (q := 54) d_rs_delay_53 rfl ?_
        refine zn_icmp_ge (q := 57) (tgt := 79) d_rs_delay_54 rfl (by decide) (by omega) (by omega) (fun hb => ?_) (fun hb => ?_)
        · have y0 : va_up σ 3 (zN 48 (fl_ s g3 (2 * (od a + 1)))) 0 = zO 0 [.ref 1, .ref 2, .ref 3, .ref 4, .ref 5, .ref 9, .ref 15, .int (nI li), .int (nI gi)] := by rw [zu_ne (by omega)]; exact h0
          refine z_ald0 (q := 80) d_rs_delay_79 rfl ?_
          refine z_ild3 (q := 81) d_rs_delay_80 rfl ?_
          have hcm := hcs.made (g := fl_ s g3 (2 * (od a + 1))) (fl_lt hsP h3P)
          refine z_gV1 (q := 84) d_rs_delay_81 rfl (ct_enlist hcm (by omega) hB24 zu_same (fl_lt hsP h3P) (fun j hj => fl_lo (by omega)) hsP (by rw [← hs]; refine bd_delay fp_inv (ob_of hSa) (fun n => ?_); show ph (if n + 1 = 0 then 0 else ts a (n + 1 - 1)) = ph (ts a n); rw [if_neg (by omega), show n + 1 - 1 = n by omega])) (by first | assumption | omega) (by first | assumption | omega) rfl ck_rs_enlist lk_rs_72 im_rs_enlist sl_rs_enlist ⟨by decide, by decide⟩ (Nat.le_of_ble_eq_true rfl) rfl rfl (fun r m τ hp => ?_)
          have hen := EN_made (σ := σ) (fun j hj => zu_ne (by omega)) hp
          obtain ⟨rfl, -, rfl, -⟩ := hp
          exact z_iret d_rs_delay_84 rfl (Nat.le_refl _) (Nat.le_refl _) (by rw [← hPo]; exact Or.inr (Or.inr ⟨⟨a, ha, rfl⟩, hl20, hB24, hen⟩))
        · exact absurd hb (by omega)
      | succ e ih =>
        intro x hx1 hx
        have y0 : va_up σ 3 (zN 48 (fl_ s g3 x)) 0 = zO 0 [.ref 1, .ref 2, .ref 3, .ref 4, .ref 5, .ref 9, .ref 15, .int (nI li), .int (nI gi)] := by rw [zu_ne (by omega)]; exact h0
        have y3 : va_up σ 3 (zN 48 (fl_ s g3 x)) 3 = zN 48 (fl_ s g3 x) := zu_same
        have ya : va_up σ 3 (zN 48 (fl_ s g3 x)) (18 + 3 * a) = zO 1 [.int (nI (od a)), .ref (19 + 3 * a), .ref (20 + 3 * a)] := by rw [zu_ne (by omega)]; exact a1
        have yt : va_up σ 3 (zN 48 (fl_ s g3 x)) (20 + 3 * a) = zN 88 fa := by rw [zu_ne (by omega)]; exact a3
        refine z_ild5 (q := 51) d_rs_delay_49 rfl ?_
        refine z_iconst (v := nI 2) (q := 52) d_rs_delay_51 rfl (by decide) ?_
        refine z_ild3 (q := 53) d_rs_delay_52 rfl ?_
        first | refine zn_imul (q := 54) d_rs_delay_53 rfl ?_ | refine z_imul (q := 54) d_rs_delay_53 rfl ?_
        refine zn_icmp_ge (q := 57) (tgt := 79) d_rs_delay_54 rfl (by decide) (by omega) (by omega) (fun hb => ?_) (fun hb => ?_)
        · exact absurd hb (by omega)
        · refine z_ald0 (q := 58) d_rs_delay_57 rfl ?_
          refine z_get 2 (q := 61) d_rs_delay_58 rfl fg_rs_19 (by first | assumption | omega) (by first | assumption | omega) (by rfl) ?_
          refine z_ild5 (q := 63) d_rs_delay_61 rfl ?_
          refine z_ald2 (q := 64) d_rs_delay_63 rfl ?_
          refine z_get 2 (q := 67) d_rs_delay_64 rfl fg_rs_81 (by first | assumption | omega) (by first | assumption | omega) (by rfl) ?_
          refine z_ild5 (q := 69) d_rs_delay_67 rfl ?_
          refine z_iconst (v := nI 1) (q := 70) d_rs_delay_69 rfl (by decide) ?_
          first | refine zn_isub (q := 71) d_rs_delay_70 rfl (by omega) ?_ | refine z_isub (q := 71) d_rs_delay_70 rfl ?_
          refine z_laload (q := 72) d_rs_delay_71 rfl (by first | assumption | omega) (by first | assumption | omega) (by omega) (by omega) ?_
          refine z_lastore (q := 73) d_rs_delay_72 rfl (by first | assumption | omega) (by first | assumption | omega) (by omega) (by omega) ?_
          refine zn_iinc5 (d := 1) (q := 76) d_rs_delay_73 rfl rfl ?_
          refine z_goto (tgt := 49) d_rs_delay_76 (by decide) ?_
          refine Z.eqw ?_ (ih (x + 1) (by omega) (by omega))
          rw [zu_up, ← fl_s, ← hs]
          dsimp only
          rw [if_neg (by omega), a7 (x - 1) (by omega)]
    refine z_ald0 (q := 40) d_rs_delay_39 rfl ?_
    refine z_get 2 (q := 43) d_rs_delay_40 rfl fg_rs_19 (by first | assumption | omega) (by first | assumption | omega) (by rfl) ?_
    refine z_iconst (v := nI 0) (q := 44) d_rs_delay_43 rfl (by decide) ?_
    refine z_lconst (v := lN 0) (q := 45) d_rs_delay_44 rfl rfl ?_
    refine z_lastore (q := 46) d_rs_delay_45 rfl (by first | assumption | omega) (by first | assumption | omega) (by omega) (by omega) ?_
    refine z_iconst (v := nI 1) (q := 47) d_rs_delay_46 rfl (by decide) ?_
    refine z_ist5 (q := 49) d_rs_delay_47 rfl rfl ?_
    refine Z.eqw ?_ (loop (2 * (od a + 1) - 1) 1 (by omega) (by omega))
    rw [← fl_s, fl_0, ← hs]
    rfl
  · refine Ct.of (lv := [some (.ref 0), some (.int j), none, none, none, none]) 4 (by decide) rfl (Nat.le_of_ble_eq_true rfl) ?_
    refine z_ald0 (q := 1) d_rs_delay_0 rfl ?_
    refine z_ild1 (q := 2) d_rs_delay_1 rfl ?_
    refine z_cV1 (q := 5) d_rs_delay_2 rfl (ct_isListed_no h0 (by omega) h11 hj) (by first | assumption | omega) (by first | assumption | omega) rfl ck_rs_isListed lk_rs_75 im_rs_isListed sl_rs_isListed ⟨by decide, by decide⟩ (Nat.le_of_ble_eq_true rfl) rfl rfl ?_
    refine zi_if_ne (q := 8) (tgt := 10) d_rs_delay_5 rfl (by decide) (by omega) (fun hb => absurd rfl hb) (fun _ => ?_)
    refine z_iconst (v := (-1)) (q := 9) d_rs_delay_8 rfl (by decide) ?_
    exact z_iret d_rs_delay_9 rfl (Nat.le_refl _) (Nat.le_refl _) (Or.inl ⟨hj, rfl, rfl, fun _ _ => rfl, hcs⟩)
theorem cc_sums {σ : zWd} {li gi : Nat} {row od : Nat → Nat} {cf ts : Nat → Nat → Nat} (h : CS li gi row od cf ts σ) (j : Int32) : Ct m_rs_sums [.ref 0, .int j] 90 σ (MK CS FrC σ li gi row od cf ts (isL li j) (od j.toNatClampNeg + 1) (fun n => su_ (ts j.toNatClampNeg) (n + 1))) := by
  have hcs := h
  obtain ⟨h0, ⟨f, hf1, hf2⟩, ⟨h2, h2'⟩, ⟨g3, h3, h3P⟩, h4, hFI, hSK, hDV, h8, h9, h10, h11, h12⟩ := h
  have h0' : σ 0 = zO 0 [.ref 1, .ref 2, .ref 3, .ref 4, .ref 5, .ref 9, .ref 15, .int (nI li), .int (nI gi)] := h0
  by_cases hj : isL li j
  · obtain ⟨a, ha, rfl⟩ := hj
    rw [nI_clamp (by omega)]
    obtain ⟨ca, fa, ⟨a1, a2, a3, a4, a5⟩, a6, a7⟩ := h9 a ha
    have hSa := h10 a ha
    have hfa := hf2 a (by omega)
    have hoa := hSa.1
    refine Ct.of (lv := [some (.ref 0), some (.int (nI a)), none, none, none, none, none, none]) 6 (by decide) rfl (Nat.le_of_ble_eq_true rfl) ?_
    generalize hPo : MK CS FrC σ li gi row od cf ts (isL li (nI a)) (od a + 1) (fun n => su_ (ts a) (n + 1)) = Po
    generalize hs : (fun n => su_ (ts a) (n + 1)) = s at hPo
    have hsP : ∀ n, s n < 2147483647 := fun n => by rw [← hs]; exact su_lt _ _
    refine z_ald0 (q := 1) d_rs_sums_0 rfl ?_
    refine z_ild1 (q := 2) d_rs_sums_1 rfl ?_
    refine z_cV1 (q := 5) d_rs_sums_2 rfl (ct_isListed_yes h0 (by omega) h11 ha) (by first | assumption | omega) (by first | assumption | omega) rfl ck_rs_isListed lk_rs_75 im_rs_isListed sl_rs_isListed ⟨by decide, by decide⟩ (Nat.le_of_ble_eq_true rfl) rfl rfl ?_
    refine zi_if_ne (q := 8) (tgt := 10) d_rs_sums_5 rfl (by decide) (by omega) (fun _ => ?_) (fun hb => absurd hb (by omega))
    refine z_ald0 (q := 11) d_rs_sums_10 rfl ?_
    refine z_get 0 (q := 14) d_rs_sums_11 rfl fg_rs_11 (by first | assumption | omega) (by first | assumption | omega) (by rfl) ?_
    refine z_ild1 (q := 15) d_rs_sums_14 rfl ?_
    refine z_aaload (q := 16) d_rs_sums_15 rfl (by first | assumption | omega) (by first | assumption | omega) (by omega) (by omega) (by first | assumption | omega) ?_
    refine z_ast2 (q := 17) d_rs_sums_16 rfl rfl ?_
    refine z_ald2 (q := 18) d_rs_sums_17 rfl ?_
    refine z_get 0 (q := 21) d_rs_sums_18 rfl fg_rs_78 (by first | assumption | omega) (by first | assumption | omega) (by rfl) ?_
    refine z_iconst (v := nI 1) (q := 22) d_rs_sums_21 rfl (by decide) ?_
    first | refine zn_iadd (q := 23) d_rs_sums_22 rfl ?_ | refine z_iadd (q := 23) d_rs_sums_22 rfl ?_
    refine z_ist3 (q := 24) d_rs_sums_23 rfl rfl ?_
    refine z_ald0 (q := 25) d_rs_sums_24 rfl ?_
    refine z_ild3 (q := 26) d_rs_sums_25 rfl ?_
    refine z_cV1 (q := 29) d_rs_sums_26 rfl (ct_numberFor h0 (by omega) h11 (by omega)) (by first | assumption | omega) (by first | assumption | omega) rfl ck_rs_numberFor lk_rs_60 im_rs_numberFor sl_rs_numberFor ⟨by decide, by decide⟩ (Nat.le_of_ble_eq_true rfl) rfl rfl ?_
    refine z_ist4 (q := 31) d_rs_sums_29 rfl rfl ?_
    refine z_ild4 (q := 33) d_rs_sums_31 rfl ?_
    by_cases hn : 20 ≤ li ∨ 24 < od a + 1
    · refine z_if_ge (q := 36) (tgt := 39) d_rs_sums_33 rfl (by decide) (fun hb => absurd hb (nf_neg hn)) (fun _ => ?_)
      refine z_ild4 (q := 38) d_rs_sums_36 rfl ?_
      exact z_iret d_rs_sums_38 rfl (Nat.le_refl _) (Nat.le_refl _) (by rw [← hPo]; exact Or.inr (Or.inl ⟨⟨a, ha, rfl⟩, hn, rfl, rfl, fun _ _ => rfl, hcs⟩))
    rw [nf_pos (by omega) (by omega)]
    refine zi_if_ge (tgt := 39) d_rs_sums_33 (by decide) (by omega) ?_
    have hl20 : li < 20 := by omega
    have hB24 : od a + 1 ≤ 24 := by omega

    have loop : ∀ e x, x + e = 2 * (od a + 1) → Z m_rs_sums Po 0 0 90 (va_up σ 3 (zN 48 (fl_ s g3 x))) 45 [some (.ref 0), some (.int (nI a)), some (.ref (18 + 3 * a)), some (.int (nI (od a + 1))), some (.int (nI li)), some (.long (lN (su_ (ts a) x))), none, some (.int (nI x))] [] := by
      intro e
      induction e with
      | zero =>
        intro x hx
        obtain rfl : x = 2 * (od a + 1) := by omega
        refine z_ild7 (q := 47) d_rs_sums_45 rfl ?_
        refine z_iconst (v := nI 2) (q := 48) d_rs_sums_47 rfl (by decide) ?_
        refine z_ild3 (q := 49) d_rs_sums_48 rfl ?_
        first | refine zn_imul (q := 50) d_rs_sums_49 rfl ?_ | refine z_imul (q := 50) d_rs_sums_49 rfl ?_
        refine zn_icmp_ge (q := 53) (tgt := 82) d_rs_sums_50 rfl (by decide) (by omega) (by omega) (fun hb => ?_) (fun hb => ?_)
        · have y0 : va_up σ 3 (zN 48 (fl_ s g3 (2 * (od a + 1)))) 0 = zO 0 [.ref 1, .ref 2, .ref 3, .ref 4, .ref 5, .ref 9, .ref 15, .int (nI li), .int (nI gi)] := by rw [zu_ne (by omega)]; exact h0
          refine z_ald0 (q := 83) d_rs_sums_82 rfl ?_
          refine z_ild3 (q := 84) d_rs_sums_83 rfl ?_
          have hcm := hcs.made (g := fl_ s g3 (2 * (od a + 1))) (fl_lt hsP h3P)
          refine z_gV1 (q := 87) d_rs_sums_84 rfl (ct_enlist hcm (by omega) hB24 zu_same (fl_lt hsP h3P) (fun j hj => fl_lo (by omega)) hsP (by rw [← hs]; have := bd_sums fp_inv (ob_of hSa); simp only [su_ph]; exact this)) (by first | assumption | omega) (by first | assumption | omega) rfl ck_rs_enlist lk_rs_72 im_rs_enlist sl_rs_enlist ⟨by decide, by decide⟩ (Nat.le_of_ble_eq_true rfl) rfl rfl (fun r m τ hp => ?_)
          have hen := EN_made (σ := σ) (fun j hj => zu_ne (by omega)) hp
          obtain ⟨rfl, -, rfl, -⟩ := hp
          exact z_iret d_rs_sums_87 rfl (Nat.le_refl _) (Nat.le_refl _) (by rw [← hPo]; exact Or.inr (Or.inr ⟨⟨a, ha, rfl⟩, hl20, hB24, hen⟩))
        · exact absurd hb (by omega)
      | succ e ih =>
        intro x hx
        have y0 : va_up σ 3 (zN 48 (fl_ s g3 x)) 0 = zO 0 [.ref 1, .ref 2, .ref 3, .ref 4, .ref 5, .ref 9, .ref 15, .int (nI li), .int (nI gi)] := by rw [zu_ne (by omega)]; exact h0
        have y3 : va_up σ 3 (zN 48 (fl_ s g3 x)) 3 = zN 48 (fl_ s g3 x) := zu_same
        have ya : va_up σ 3 (zN 48 (fl_ s g3 x)) (18 + 3 * a) = zO 1 [.int (nI (od a)), .ref (19 + 3 * a), .ref (20 + 3 * a)] := by rw [zu_ne (by omega)]; exact a1
        have yt : va_up σ 3 (zN 48 (fl_ s g3 x)) (20 + 3 * a) = zN 88 fa := by rw [zu_ne (by omega)]; exact a3
        refine z_ild7 (q := 47) d_rs_sums_45 rfl ?_
        refine z_iconst (v := nI 2) (q := 48) d_rs_sums_47 rfl (by decide) ?_
        refine z_ild3 (q := 49) d_rs_sums_48 rfl ?_
        first | refine zn_imul (q := 50) d_rs_sums_49 rfl ?_ | refine z_imul (q := 50) d_rs_sums_49 rfl ?_
        refine zn_icmp_ge (q := 53) (tgt := 82) d_rs_sums_50 rfl (by decide) (by omega) (by omega) (fun hb => ?_) (fun hb => ?_)
        · exact absurd hb (by omega)
        · refine z_lld5 (q := 55) d_rs_sums_53 rfl ?_
          refine z_ald2 (q := 56) d_rs_sums_55 rfl ?_
          refine z_get 2 (q := 59) d_rs_sums_56 rfl fg_rs_81 (by first | assumption | omega) (by first | assumption | omega) (by rfl) ?_
          refine z_ild7 (q := 61) d_rs_sums_59 rfl ?_
          refine z_laload (q := 62) d_rs_sums_61 rfl (by first | assumption | omega) (by first | assumption | omega) (by omega) (by omega) ?_
          refine z_cS2 (q := 65) d_rs_sums_62 rfl (ct_plus 90 _ (su_lt (ts a) x) (a5 x)) ck_nu_plus lk_rs_92 st_nu_plus ⟨by decide, by decide⟩ (Nat.le_of_ble_eq_true rfl) rfl rfl ?_
          rw [a7 x (by omega)]
          refine z_lst5 (q := 67) d_rs_sums_65 rfl rfl ?_
          refine z_ald0 (q := 68) d_rs_sums_67 rfl ?_
          refine z_get 2 (q := 71) d_rs_sums_68 rfl fg_rs_19 (by first | assumption | omega) (by first | assumption | omega) (by rfl) ?_
          refine z_ild7 (q := 73) d_rs_sums_71 rfl ?_
          refine z_lld5 (q := 75) d_rs_sums_73 rfl ?_
          refine z_lastore (q := 76) d_rs_sums_75 rfl (by first | assumption | omega) (by first | assumption | omega) (by omega) (by omega) ?_
          refine zn_iinc7 (d := 1) (q := 79) d_rs_sums_76 rfl rfl ?_
          refine z_goto (tgt := 45) d_rs_sums_79 (by decide) ?_
          refine Z.eqw ?_ (ih (x + 1) (by omega))
          rw [zu_up, ← fl_s, ← hs]
          rfl
    refine z_lconst (v := lN 0) (q := 40) d_rs_sums_39 rfl rfl ?_
    refine z_lst5 (q := 42) d_rs_sums_40 rfl rfl ?_
    refine z_iconst (v := nI 0) (q := 43) d_rs_sums_42 rfl (by decide) ?_
    refine z_ist7 (q := 45) d_rs_sums_43 rfl rfl ?_
    exact (Z.eqw (by rw [fl_0]; exact zu_id h3) (loop (2 * (od a + 1)) 0 (by omega)))
  · refine Ct.of (lv := [some (.ref 0), some (.int j), none, none, none, none, none, none]) 6 (by decide) rfl (Nat.le_of_ble_eq_true rfl) ?_
    refine z_ald0 (q := 1) d_rs_sums_0 rfl ?_
    refine z_ild1 (q := 2) d_rs_sums_1 rfl ?_
    refine z_cV1 (q := 5) d_rs_sums_2 rfl (ct_isListed_no h0 (by omega) h11 hj) (by first | assumption | omega) (by first | assumption | omega) rfl ck_rs_isListed lk_rs_75 im_rs_isListed sl_rs_isListed ⟨by decide, by decide⟩ (Nat.le_of_ble_eq_true rfl) rfl rfl ?_
    refine zi_if_ne (q := 8) (tgt := 10) d_rs_sums_5 rfl (by decide) (by omega) (fun hb => absurd rfl hb) (fun _ => ?_)
    refine z_iconst (v := (-1)) (q := 9) d_rs_sums_8 rfl (by decide) ?_
    exact z_iret d_rs_sums_9 rfl (Nat.le_refl _) (Nat.le_refl _) (Or.inl ⟨hj, rfl, rfl, fun _ _ => rfl, hcs⟩)

