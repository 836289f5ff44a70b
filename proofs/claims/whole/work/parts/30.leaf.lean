/-! leaf of the class -/
def lf_ (row : Nat → Nat) (gi R : Nat) : Prop := ∀ n, 2 * R ≤ n → n < gi → row n = fo_ row row n R
def ls_ (row : Nat → Nat) (R : Nat) : Nat → Nat := se_ R row (fun n => row (R + n))
theorem se_lt {o : Nat} {c f : Nat → Nat} (hf : ∀ n, f n < 2147483647) : ∀ n, se_ o c f n < 2147483647 := by
  intro n
  by_cases h : n < o
  · rw [se_lo h]; exact hf n
  · rw [se_hi (by omega)]; exact fo_lt _ _ _ _
def LF (SP : Nat → Nat → (Nat → Nat) → (Nat → Nat) → (Nat → Nat → Nat) → (Nat → Nat → Nat) → zWd → Prop) (Fr : zWd → zWd → Prop) (σ : zWd) (li gi : Nat) (row od : Nat → Nat) (cf ts : Nat → Nat → Nat) (r : Int32) : Option Value → Nat → zWd → Prop := fun res n' σ' =>
  (¬ (isR 0 12 r ∧ 2 * r.toNatClampNeg ≤ gi) ∧ res = some (.int (-1)) ∧ n' = 90 ∧ Fr σ σ' ∧ SP li gi row od cf ts σ') ∨ ((isR 0 12 r ∧ 2 * r.toNatClampNeg ≤ gi) ∧ 20 ≤ li ∧ res = some (.int (-2)) ∧ n' = 90 ∧ Fr σ σ' ∧ SP li gi row od cf ts σ') ∨
  ((isR 0 12 r ∧ 2 * r.toNatClampNeg ≤ gi) ∧ li < 20 ∧ ¬ lf_ row gi r.toNatClampNeg ∧ res = some (.int (-4)) ∧ n' = 90 ∧ Fr σ σ' ∧ SP li gi row od cf ts σ') ∨ ((isR 0 12 r ∧ 2 * r.toNatClampNeg ≤ gi) ∧ li < 20 ∧ lf_ row gi r.toNatClampNeg ∧ EN SP Fr σ li 0 row od cf ts r.toNatClampNeg (ls_ row r.toNatClampNeg) res n' σ')
theorem ct_othersFit {σ : zWd} {li gi : Nat} {row od : Nat → Nat} {cf ts : Nat → Nat → Nat} (h : CS li gi row od cf ts σ) {R : Nat} (hR : R ≤ 12) (hgi : 2 * R ≤ gi) : Ct m_rs_othersFit [.ref 0, .int (nI R)] 90 σ (fun r n' σ' => n' = 90 ∧ σ = σ' ∧ ((lf_ row gi R ∧ r = some (.int (nI 1))) ∨ (¬ lf_ row gi R ∧ r = some (.int (nI 0))))) := by
  have hcs := h
  obtain ⟨h0, ⟨f, hf1, hf2⟩, ⟨h2, h2'⟩, ⟨g3, h3, h3P⟩, ⟨g4, h4, h4P⟩, hFI, hSK, hDV, h8, h9, h10, h11, h12⟩ := h
  have h0' : σ 0 = zO 0 [.ref 1, .ref 2, .ref 3, .ref 4, .ref 5, .ref 9, .ref 15, .int (nI li), .int (nI gi)] := h0
  refine Ct.of (lv := [some (.ref 0), some (.int (nI R)), none]) 1 (by decide) rfl (Nat.le_of_ble_eq_true rfl) ?_
  generalize hPo : (fun (r : Option Value) (n' : Nat) (σ' : zWd) => n' = 90 ∧ σ = σ' ∧ ((lf_ row gi R ∧ r = some (.int (nI 1))) ∨ (¬ lf_ row gi R ∧ r = some (.int (nI 0))))) = Po
  have loop : ∀ e x, x + e = gi → 2 * R ≤ x → (∀ n, 2 * R ≤ n → n < x → row n = fo_ row row n R) → Z m_rs_othersFit Po 0 0 90 σ 4 [some (.ref 0), some (.int (nI R)), some (.int (nI x))] [] := by
    intro e
    induction e with
    | zero =>
      intro x hx hx2 hm
      obtain rfl : x = gi := by omega
      refine z_ild2 (q := 5) d_rs_othersFit_4 rfl ?_
      refine z_ald0 (q := 6) d_rs_othersFit_5 rfl ?_
      refine z_get 8 (q := 9) d_rs_othersFit_6 rfl fg_rs_51 (by first | assumption | omega) (by first | assumption | omega) (by rfl) ?_
      refine zn_icmp_ge (q := 12) (tgt := 43) d_rs_othersFit_9 rfl (by decide) (by omega) (by omega) (fun hb => ?_) (fun hb => ?_)
      · refine z_iconst (v := nI 1) (q := 44) d_rs_othersFit_43 rfl (by decide) ?_
        exact z_zret d_rs_othersFit_44 rfl rfl (Nat.le_refl _) (Nat.le_refl _) (by rw [← hPo]; exact ⟨rfl, rfl, Or.inl ⟨hm, rfl⟩⟩)
      · exact absurd hb (by omega)
    | succ e ih =>
      intro x hx hx2 hm
      have q1 := h2' x
      have q2 := fo_lt row row x R
      refine z_ild2 (q := 5) d_rs_othersFit_4 rfl ?_
      refine z_ald0 (q := 6) d_rs_othersFit_5 rfl ?_
      refine z_get 8 (q := 9) d_rs_othersFit_6 rfl fg_rs_51 (by first | assumption | omega) (by first | assumption | omega) (by rfl) ?_
      refine zn_icmp_ge (q := 12) (tgt := 43) d_rs_othersFit_9 rfl (by decide) (by omega) (by omega) (fun hb => ?_) (fun hb => ?_)
      · exact absurd hb (by omega)
      · refine z_ald0 (q := 13) d_rs_othersFit_12 rfl ?_
        refine z_get 1 (q := 16) d_rs_othersFit_13 rfl fg_rs_15 (by first | assumption | omega) (by first | assumption | omega) (by rfl) ?_
        refine z_ild2 (q := 17) d_rs_othersFit_16 rfl ?_
        refine z_laload (q := 18) d_rs_othersFit_17 rfl (by first | assumption | omega) (by first | assumption | omega) (by omega) (by omega) ?_
        refine z_ald0 (q := 19) d_rs_othersFit_18 rfl ?_
        refine z_get 1 (q := 22) d_rs_othersFit_19 rfl fg_rs_15 (by first | assumption | omega) (by first | assumption | omega) (by rfl) ?_
        refine z_ild1 (q := 23) d_rs_othersFit_22 rfl ?_
        refine z_ald0 (q := 24) d_rs_othersFit_23 rfl ?_
        refine z_get 1 (q := 27) d_rs_othersFit_24 rfl fg_rs_15 (by first | assumption | omega) (by first | assumption | omega) (by rfl) ?_
        refine z_ild2 (q := 28) d_rs_othersFit_27 rfl ?_
        refine z_cS4 (q := 31) d_rs_othersFit_28 rfl (ct_foretold h2 h2 (by omega) (by omega) (by omega) (by omega) (by omega) (by omega) (by omega) h2' h2') ck_nu_foretold lk_rs_68 st_nu_foretold ⟨by decide, by decide⟩ (Nat.le_of_ble_eq_true rfl) rfl rfl ?_
        refine z_lcmp (q := 32) d_rs_othersFit_31 rfl ?_
        refine zc_if_eq (q := 35) (tgt := 37) d_rs_othersFit_32 rfl (by decide) (by omega) (by omega) (fun hb3 => ?_) (fun hb3 => ?_)
        · refine zn_iinc2 (d := 1) (q := 40) d_rs_othersFit_37 rfl rfl ?_
          refine z_goto (tgt := 4) d_rs_othersFit_40 (by decide) ?_
          refine ih (x + 1) (by omega) (by omega) (fun n q3 q4 => ?_)
          by_cases hnx : n = x
          · rw [hnx]; exact hb3
          · exact hm n q3 (by omega)
        · refine z_iconst (v := nI 0) (q := 36) d_rs_othersFit_35 rfl (by decide) ?_
          exact z_zret d_rs_othersFit_36 rfl rfl (Nat.le_refl _) (Nat.le_refl _) (by rw [← hPo]; exact ⟨rfl, rfl, Or.inr ⟨fun hh => hb3 (hh x hx2 (by omega)), rfl⟩⟩)
  refine z_iconst (v := nI 2) (q := 1) d_rs_othersFit_0 rfl (by decide) ?_
  refine z_ild1 (q := 2) d_rs_othersFit_1 rfl ?_
  first | refine zn_imul (q := 3) d_rs_othersFit_2 rfl ?_ | refine z_imul (q := 3) d_rs_othersFit_2 rfl ?_
  refine z_ist2 (q := 4) d_rs_othersFit_3 rfl rfl ?_
  exact loop (gi - 2 * R) (2 * R) (by omega) (Nat.le_refl _) (fun n q1 q2 => by omega)
theorem cc_leaf {σ : zWd} {li gi : Nat} {row od : Nat → Nat} {cf ts : Nat → Nat → Nat} (h : CS li gi row od cf ts σ) (r : Int32) : Ct m_rs_leaf [.ref 0, .int r] 90 σ (LF CS FrC σ li gi row od cf ts r) := by
  have hcs := h
  obtain ⟨h0, ⟨f, hf1, hf2⟩, ⟨h2, h2'⟩, ⟨g3, h3, h3P⟩, ⟨g4, h4, h4P⟩, hFI, hSK, hDV, h8, h9, h10, h11, h12⟩ := h
  have h0' : σ 0 = zO 0 [.ref 1, .ref 2, .ref 3, .ref 4, .ref 5, .ref 9, .ref 15, .int (nI li), .int (nI gi)] := h0
  have bad : ¬ (isR 0 12 r ∧ 2 * r.toNatClampNeg ≤ gi) → Z m_rs_leaf (LF CS FrC σ li gi row od cf ts r) 0 0 90 σ 20 [some (.ref 0), some (.int r), none, none] [] := by
    intro hbad
    refine z_iconst (v := (-1)) (q := 21) d_rs_leaf_20 rfl (by decide) ?_
    exact z_iret d_rs_leaf_21 rfl (Nat.le_refl _) (Nat.le_refl _) (Or.inl ⟨hbad, rfl, rfl, fun _ _ => rfl, hcs⟩)
  refine Ct.of (lv := [some (.ref 0), some (.int r), none, none]) 2 (by decide) rfl (Nat.le_of_ble_eq_true rfl) ?_
  by_cases hr : isR 0 12 r
  · have hr' := hr
    obtain ⟨R, -, hR, rfl⟩ := hr
    have eR : (nI R).toNatClampNeg = R := nI_clamp (by omega)
    refine z_ild1 (q := 1) d_rs_leaf_0 rfl ?_
    refine zi_if_lt (q := 4) (tgt := 20) d_rs_leaf_1 rfl (by decide) (by omega) ?_
    refine z_ild1 (q := 5) d_rs_leaf_4 rfl ?_
    refine z_bipush (v := nI 12) (q := 7) d_rs_leaf_5 rfl (by decide) ?_
    refine zn_icmp_gt (q := 10) (tgt := 20) d_rs_leaf_7 rfl (by decide) (by omega) (by omega) (fun hb => absurd hb (by omega)) (fun _ => ?_)
    refine z_ald0 (q := 11) d_rs_leaf_10 rfl ?_
    refine z_get 8 (q := 14) d_rs_leaf_11 rfl fg_rs_51 (by first | assumption | omega) (by first | assumption | omega) (by rfl) ?_
    refine z_iconst (v := nI 2) (q := 15) d_rs_leaf_14 rfl (by decide) ?_
    refine z_ild1 (q := 16) d_rs_leaf_15 rfl ?_
    first | refine zn_imul (q := 17) d_rs_leaf_16 rfl ?_ | refine z_imul (q := 17) d_rs_leaf_16 rfl ?_
    refine zn_icmp_ge (q := 20) (tgt := 22) d_rs_leaf_17 rfl (by decide) (by omega) (by omega) (fun hgi => ?_) (fun hgi => bad (fun hh => hgi (by rw [← eR]; exact hh.2)))
    have hgood : isR 0 12 (nI R) ∧ 2 * (nI R).toNatClampNeg ≤ gi := ⟨hr', by rw [eR]; exact hgi⟩
    clear bad
    generalize hPo : LF CS FrC σ li gi row od cf ts (nI R) = Po
    refine z_ald0 (q := 23) d_rs_leaf_22 rfl ?_
    refine z_ild1 (q := 24) d_rs_leaf_23 rfl ?_
    refine z_cV1 (q := 27) d_rs_leaf_24 rfl (ct_numberFor h0 (by omega) h11 (by omega)) (by first | assumption | omega) (by first | assumption | omega) rfl ck_rs_numberFor lk_rs_60 im_rs_numberFor sl_rs_numberFor ⟨by decide, by decide⟩ (Nat.le_of_ble_eq_true rfl) rfl rfl ?_
    refine z_ist2 (q := 28) d_rs_leaf_27 rfl rfl ?_
    refine z_ild2 (q := 29) d_rs_leaf_28 rfl ?_
    by_cases hn : 20 ≤ li
    · refine z_if_ge (q := 32) (tgt := 34) d_rs_leaf_29 rfl (by decide) (fun hb => absurd hb (nf_neg (Or.inl hn))) (fun _ => ?_)
      refine z_ild2 (q := 33) d_rs_leaf_32 rfl ?_
      exact z_iret d_rs_leaf_33 rfl (Nat.le_refl _) (Nat.le_refl _) (by rw [← hPo]; exact Or.inr (Or.inl ⟨hgood, hn, by unfold nf_; rw [if_pos hn], rfl, fun _ _ => rfl, hcs⟩))
    rw [nf_pos (by omega) (by omega)]
    refine zi_if_ge (tgt := 34) d_rs_leaf_29 (by decide) (by omega) ?_
    refine z_ald0 (q := 35) d_rs_leaf_34 rfl ?_
    refine z_ild1 (q := 36) d_rs_leaf_35 rfl ?_
    refine z_gV1 (q := 39) d_rs_leaf_36 rfl (ct_othersFit hcs hR hgi) (by first | assumption | omega) (by first | assumption | omega) rfl ck_rs_othersFit lk_rs_64 im_rs_othersFit sl_rs_othersFit ⟨by decide, by decide⟩ (Nat.le_of_ble_eq_true rfl) rfl rfl (fun r m τ hp => ?_)
    obtain ⟨rfl, rfl, ⟨hfit, rfl⟩ | ⟨hfit, rfl⟩⟩ := hp
    · refine zi_if_ne (q := 42) (tgt := 45) d_rs_leaf_39 rfl (by decide) (by decide) (fun _ => ?_) (fun hb => absurd hb (by decide))
      generalize hs : ls_ row R = s
      have hsP : ∀ n, s n < 2147483647 := fun n => by rw [← hs]; exact se_lt (fun n => h2' _) n
      have loop2 : ∀ e x, x + e = 2 * R → R ≤ x → Z m_rs_leaf Po 0 0 90 (va_up σ 3 (zN 48 (fl_ s g3 x))) 74 [some (.ref 0), some (.int (nI R)), some (.int (nI li)), some (.int (nI x))] [] := by
        intro e
        induction e with
        | zero =>
          intro x hx hx2
          obtain rfl : x = 2 * R := by omega
          refine z_ild3 (q := 75) d_rs_leaf_74 rfl ?_
          refine z_iconst (v := nI 2) (q := 76) d_rs_leaf_75 rfl (by decide) ?_
          refine z_ild1 (q := 77) d_rs_leaf_76 rfl ?_
          first | refine zn_imul (q := 78) d_rs_leaf_77 rfl ?_ | refine z_imul (q := 78) d_rs_leaf_77 rfl ?_
          refine zn_icmp_ge (q := 81) (tgt := 106) d_rs_leaf_78 rfl (by decide) (by omega) (by omega) (fun hb => ?_) (fun hb => ?_)
          · have y0 : va_up σ 3 (zN 48 (fl_ s g3 (2 * R))) 0 = zO 0 [.ref 1, .ref 2, .ref 3, .ref 4, .ref 5, .ref 9, .ref 15, .int (nI li), .int (nI gi)] := by rw [zu_ne (by omega)]; exact h0
            refine z_ald0 (q := 107) d_rs_leaf_106 rfl ?_
            refine z_iconst (v := nI 0) (q := 108) d_rs_leaf_107 rfl (by decide) ?_
            refine z_put 8 (q := 111) d_rs_leaf_108 rfl fg_rs_51 ft_rs fk_rs_51 (by first | assumption | omega) (by first | assumption | omega) (fun _ => rfl) (fun _ => rfl) (by simp) ?_
            have hcm := (hcs.made (g := fl_ s g3 (2 * R)) (fl_lt hsP h3P)).row (row' := row) (li' := li) h2' (Nat.le_refl _) (Nat.zero_le 40)
            rw [← zu_id (show va_up σ 3 (zN 48 (fl_ s g3 (2 * R))) 2 = zN 40 row by rw [zu_ne (by omega)]; exact h2)] at hcm
            refine Z.eqw (σ' := va_up (va_up σ 3 (zN 48 (fl_ s g3 (2 * R)))) 0 (c0_ li 0)) rfl ?_
            have z0 : va_up (va_up σ 3 (zN 48 (fl_ s g3 (2 * R)))) 0 (c0_ li 0) 0 = zO 0 [.ref 1, .ref 2, .ref 3, .ref 4, .ref 5, .ref 9, .ref 15, .int (nI li), .int (nI 0)] := zu_same
            refine z_ald0 (q := 112) d_rs_leaf_111 rfl ?_
            refine z_ild1 (q := 113) d_rs_leaf_112 rfl ?_
            refine z_gV1 (q := 116) d_rs_leaf_113 rfl (ct_enlist (s := s) (B := R) hcm (by omega) (by omega) (show va_up (va_up σ 3 (zN 48 (fl_ s g3 (2 * R)))) 0 (c0_ li 0) 3 = zN 48 (fl_ s g3 (2 * R)) by rw [zu_ne (by omega), zu_same]) (fl_lt hsP h3P) (fun j hj => fl_lo (by omega)) hsP (by rw [← hs]; exact ⟨R, Nat.le_refl _, _, se_ob R row _⟩)) (by first | assumption | omega) (by first | assumption | omega) rfl ck_rs_enlist lk_rs_72 im_rs_enlist sl_rs_enlist ⟨by decide, by decide⟩ (Nat.le_of_ble_eq_true rfl) rfl rfl (fun r m τ hp => ?_)
            have hen := EN_made (σ := σ) (fun j hj => by rw [zu_ne (by omega), zu_ne (by omega)]) hp
            obtain ⟨rfl, -, rfl, -⟩ := hp
            exact z_iret d_rs_leaf_116 rfl (Nat.le_refl _) (Nat.le_refl _) (by rw [← hPo]; exact Or.inr (Or.inr (Or.inr ⟨hgood, by omega, by rw [eR]; exact hfit, by rw [eR, hs]; exact hen⟩)))
          · exact absurd hb (by omega)
        | succ e ih =>
          intro x hx hx2
          have y0 : va_up σ 3 (zN 48 (fl_ s g3 x)) 0 = zO 0 [.ref 1, .ref 2, .ref 3, .ref 4, .ref 5, .ref 9, .ref 15, .int (nI li), .int (nI gi)] := by rw [zu_ne (by omega)]; exact h0
          have y2 : va_up σ 3 (zN 48 (fl_ s g3 x)) 2 = zN 40 row := by rw [zu_ne (by omega)]; exact h2
          have y3 : va_up σ 3 (zN 48 (fl_ s g3 x)) 3 = zN 48 (fl_ s g3 x) := zu_same
          refine z_ild3 (q := 75) d_rs_leaf_74 rfl ?_
          refine z_iconst (v := nI 2) (q := 76) d_rs_leaf_75 rfl (by decide) ?_
          refine z_ild1 (q := 77) d_rs_leaf_76 rfl ?_
          first | refine zn_imul (q := 78) d_rs_leaf_77 rfl ?_ | refine z_imul (q := 78) d_rs_leaf_77 rfl ?_
          refine zn_icmp_ge (q := 81) (tgt := 106) d_rs_leaf_78 rfl (by decide) (by omega) (by omega) (fun hb => ?_) (fun hb => ?_)
          · exact absurd hb (by omega)
          · refine z_ald0 (q := 82) d_rs_leaf_81 rfl ?_
            refine z_get 2 (q := 85) d_rs_leaf_82 rfl fg_rs_19 (by first | assumption | omega) (by first | assumption | omega) (by rfl) ?_
            refine z_ild3 (q := 86) d_rs_leaf_85 rfl ?_
            refine z_ald0 (q := 87) d_rs_leaf_86 rfl ?_
            refine z_get 1 (q := 90) d_rs_leaf_87 rfl fg_rs_15 (by first | assumption | omega) (by first | assumption | omega) (by rfl) ?_
            refine z_ild1 (q := 91) d_rs_leaf_90 rfl ?_
            refine z_ald0 (q := 92) d_rs_leaf_91 rfl ?_
            refine z_get 2 (q := 95) d_rs_leaf_92 rfl fg_rs_19 (by first | assumption | omega) (by first | assumption | omega) (by rfl) ?_
            refine z_ild3 (q := 96) d_rs_leaf_95 rfl ?_
            refine z_cS4 (q := 99) d_rs_leaf_96 rfl (ct_foretold y2 y3 (by omega) (by omega) (by omega) (by omega) (by omega) (by omega) (by omega) h2' (fl_lt hsP h3P)) ck_nu_foretold lk_rs_68 st_nu_foretold ⟨by decide, by decide⟩ (Nat.le_of_ble_eq_true rfl) rfl rfl ?_
            refine z_lastore (q := 100) d_rs_leaf_99 rfl (by first | assumption | omega) (by first | assumption | omega) (by omega) (by omega) ?_
            refine zn_iinc3 (d := 1) (q := 103) d_rs_leaf_100 rfl rfl ?_
            refine z_goto (tgt := 74) d_rs_leaf_103 (by decide) ?_
            refine Z.eqw ?_ (ih (x + 1) (by omega) (by omega))
            rw [zu_up, ← fl_s]
            have e1 : fo_ row (fl_ s g3 x) x R = s x := by
              have e2 : s x = fo_ row s x R := by rw [← hs]; exact se_hi hx2
              rw [e2]
              exact fo_congr (fun _ _ => rfl) (fun i hi => fl_lo (by omega))
            rw [e1]
      have loop1 : ∀ e x, x + e = R → Z m_rs_leaf Po 0 0 90 (va_up σ 3 (zN 48 (fl_ s g3 x))) 47 [some (.ref 0), some (.int (nI R)), some (.int (nI li)), some (.int (nI x))] [] := by
        intro e
        induction e with
        | zero =>
          intro x hx
          obtain rfl : x = R := by omega
          refine z_ild3 (q := 48) d_rs_leaf_47 rfl ?_
          refine z_ild1 (q := 49) d_rs_leaf_48 rfl ?_
          refine zn_icmp_ge (q := 52) (tgt := 72) d_rs_leaf_49 rfl (by decide) (by omega) (by omega) (fun hb => ?_) (fun hb => ?_)
          · refine z_ild1 (q := 73) d_rs_leaf_72 rfl ?_
            refine z_ist3 (q := 74) d_rs_leaf_73 rfl rfl ?_
            exact loop2 x x (by omega) (Nat.le_refl _)
          · exact absurd hb (by omega)
        | succ e ih =>
          intro x hx
          have y0 : va_up σ 3 (zN 48 (fl_ s g3 x)) 0 = zO 0 [.ref 1, .ref 2, .ref 3, .ref 4, .ref 5, .ref 9, .ref 15, .int (nI li), .int (nI gi)] := by rw [zu_ne (by omega)]; exact h0
          have y2 : va_up σ 3 (zN 48 (fl_ s g3 x)) 2 = zN 40 row := by rw [zu_ne (by omega)]; exact h2
          have y3 : va_up σ 3 (zN 48 (fl_ s g3 x)) 3 = zN 48 (fl_ s g3 x) := zu_same
          refine z_ild3 (q := 48) d_rs_leaf_47 rfl ?_
          refine z_ild1 (q := 49) d_rs_leaf_48 rfl ?_
          refine zn_icmp_ge (q := 52) (tgt := 72) d_rs_leaf_49 rfl (by decide) (by omega) (by omega) (fun hb => ?_) (fun hb => ?_)
          · exact absurd hb (by omega)
          · refine z_ald0 (q := 53) d_rs_leaf_52 rfl ?_
            refine z_get 2 (q := 56) d_rs_leaf_53 rfl fg_rs_19 (by first | assumption | omega) (by first | assumption | omega) (by rfl) ?_
            refine z_ild3 (q := 57) d_rs_leaf_56 rfl ?_
            refine z_ald0 (q := 58) d_rs_leaf_57 rfl ?_
            refine z_get 1 (q := 61) d_rs_leaf_58 rfl fg_rs_15 (by first | assumption | omega) (by first | assumption | omega) (by rfl) ?_
            refine z_ild1 (q := 62) d_rs_leaf_61 rfl ?_
            refine z_ild3 (q := 63) d_rs_leaf_62 rfl ?_
            first | refine zn_iadd (q := 64) d_rs_leaf_63 rfl ?_ | refine z_iadd (q := 64) d_rs_leaf_63 rfl ?_
            refine z_laload (q := 65) d_rs_leaf_64 rfl (by first | assumption | omega) (by first | assumption | omega) (by omega) (by omega) ?_
            refine z_lastore (q := 66) d_rs_leaf_65 rfl (by first | assumption | omega) (by first | assumption | omega) (by omega) (by omega) ?_
            refine zn_iinc3 (d := 1) (q := 69) d_rs_leaf_66 rfl rfl ?_
            refine z_goto (tgt := 47) d_rs_leaf_69 (by decide) ?_
            refine Z.eqw ?_ (ih (x + 1) (by omega))
            rw [zu_up, ← fl_s]
            have e2 : s x = row (R + x) := by rw [← hs]; exact se_lo (by omega)
            rw [e2]
      refine z_iconst (v := nI 0) (q := 46) d_rs_leaf_45 rfl (by decide) ?_
      refine z_ist3 (q := 47) d_rs_leaf_46 rfl rfl ?_
      exact (Z.eqw (by rw [fl_0]; exact zu_id h3) (loop1 R 0 (by omega)))
    · refine zi_if_ne (q := 42) (tgt := 45) d_rs_leaf_39 rfl (by decide) (by decide) (fun hb => absurd rfl hb) (fun _ => ?_)
      refine z_bipush (v := (-4)) (q := 44) d_rs_leaf_42 rfl (by decide) ?_
      exact z_iret d_rs_leaf_44 rfl (Nat.le_refl _) (Nat.le_refl _) (by rw [← hPo]; exact Or.inr (Or.inr (Or.inl ⟨hgood, by omega, by rw [eR]; exact hfit, rfl, rfl, fun _ _ => rfl, hcs⟩)))
  · have hbad := bad (fun hh => hr hh.1)
    refine z_ild1 (q := 1) d_rs_leaf_0 rfl ?_
    refine z_if_lt (q := 4) (tgt := 20) d_rs_leaf_1 rfl (by decide) (fun _ => hbad) (fun q1 => ?_)
    refine z_ild1 (q := 5) d_rs_leaf_4 rfl ?_
    refine z_bipush (v := nI 12) (q := 7) d_rs_leaf_5 rfl (by decide) ?_
    refine z_icmp_gt (q := 10) (tgt := 20) d_rs_leaf_7 rfl (by decide) (fun _ => hbad) (fun q2 => ?_)
    exact absurd (isR_of (by decide) (by rw [nI_0]; exact q1) (Int32.not_lt.mp q2) (by decide)) hr

