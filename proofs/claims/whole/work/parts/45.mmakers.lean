/-! The making methods of the reference -/
theorem EN_frM {SP : Nat → Nat → (Nat → Nat) → (Nat → Nat) → (Nat → Nat → Nat) → (Nat → Nat → Nat) → zWd → Prop} {σ σ0 : zWd} {li gi B n' : Nat} {row od s : Nat → Nat} {cf ts : Nat → Nat → Nat} {r : Option Value} {σ' : zWd} (e : ∀ j, j < 78 → σ0 j = σ j) (h : EN SP FrM σ0 li gi row od cf ts B s r n' σ') : EN SP FrM σ li gi row od cf ts B s r n' σ' := by
  obtain ⟨h1, h2, h3⟩ := h
  exact ⟨h1, fun j hj => (h2 j hj).trans (e j hj), h3⟩
theorem MS.t {li gi : Nat} {row od : Nat → Nat} {cf ts : Nat → Nat → Nat} {σ : zWd} {g : Nat → Nat} (h : MS li gi row od cf ts σ) (hg : ∀ j, g j < 2147483647) : MS li gi row od cf ts (va_up σ 83 (zN 2400 g)) := ⟨h.1.congr (fun j q1 q2 => zu_ne (by omega)), h.2.t hg⟩
theorem mm_derivative {σ : zWd} {li gi : Nat} {row od : Nat → Nat} {cf ts : Nat → Nat → Nat} (h : MS li gi row od cf ts σ) (j : Int32) : Ct m_mo_derivative [.ref 78, .int j] 90 σ (MK MS FrM σ li gi row od cf ts (isL li j) (2 * od j.toNatClampNeg) (fun n => (n + 1) * ts j.toNatClampNeg (n + 1) % 2147483647)) := by
  have hms := h
  obtain ⟨hMc, hMs⟩ := h
  have hMc' := hMc
  have hMs' := hMs
  obtain ⟨h0, ⟨h1, h1'⟩, ⟨fo, h2, h2'⟩, ⟨g1, h3, h3', h3''⟩, ⟨g2, h4, h4', h4''⟩, h5, h6, h7⟩ := hMc
  have h0' : σ 78 = zO 5 [.int (nI li), .int (nI gi), .ref 79, .ref 80, .ref 81, .ref 82, .ref 83, .ref 84, .ref 85, .ref 86, .ref 87, .ref 88, .ref 89] := h0
  obtain ⟨⟨gt, hgt, hgtP⟩, -⟩ := hMs
  by_cases hj : isL li j
  · obtain ⟨a, ha, rfl⟩ := hj
    rw [nI_clamp (by omega)]
    have hSa := h5 a ha
    have hoa := hSa.1
    refine Ct.of (lv := [some (.ref 78), some (.int (nI a)), none, none, none]) 3 (by decide) rfl (Nat.le_of_ble_eq_true rfl) ?_
    generalize hPo : MK MS FrM σ li gi row od cf ts (isL li (nI a)) (2 * od a) (fun n => (n + 1) * ts a (n + 1) % 2147483647) = Po
    generalize hs : (fun n => (n + 1) * ts a (n + 1) % 2147483647) = s at hPo
    have hsP : ∀ n, s n < 2147483647 := fun n => by rw [← hs]; exact Nat.mod_lt _ (by omega)
    refine z_iconst (v := nI 2) (q := 1) d_mo_derivative_0 rfl (by decide) ?_
    refine z_ald0 (q := 2) d_mo_derivative_1 rfl ?_
    refine z_ild1 (q := 3) d_mo_derivative_2 rfl ?_
    refine z_cV1 (q := 6) d_mo_derivative_3 rfl (mt_orderOf_yes h0 h2 (h2' a ha) (by omega) h6 ha) (by first | assumption | omega) (by first | assumption | omega) rfl ck_mo_orderOf lk_mo_86 im_mo_orderOf sl_mo_orderOf ⟨by decide, by decide⟩ (Nat.le_of_ble_eq_true rfl) rfl rfl ?_
    first | refine zn_imul (q := 7) d_mo_derivative_6 rfl ?_ | refine z_imul (q := 7) d_mo_derivative_6 rfl ?_
    refine z_ist2 (q := 8) d_mo_derivative_7 rfl rfl ?_
    refine z_ald0 (q := 9) d_mo_derivative_8 rfl ?_
    refine z_ald0 (q := 10) d_mo_derivative_9 rfl ?_
    refine z_ild1 (q := 11) d_mo_derivative_10 rfl ?_
    refine z_cV1 (q := 14) d_mo_derivative_11 rfl (mt_isIn_yes h0 (by omega) h6 ha) (by first | assumption | omega) (by first | assumption | omega) rfl ck_mo_isIn lk_mo_82 im_mo_isIn sl_mo_isIn ⟨by decide, by decide⟩ (Nat.le_of_ble_eq_true rfl) rfl rfl ?_
    refine z_ild2 (q := 15) d_mo_derivative_14 rfl ?_
    refine z_cV2 (q := 18) d_mo_derivative_15 rfl (mt_refusal h0 (by omega) h6 (by omega)) (by first | assumption | omega) (by first | assumption | omega) rfl ck_mo_refusal lk_mo_89 im_mo_refusal sl_mo_refusal ⟨by decide, by decide⟩ (Nat.le_of_ble_eq_true rfl) rfl rfl ?_
    refine z_ist3 (q := 19) d_mo_derivative_18 rfl rfl ?_
    refine z_ild3 (q := 20) d_mo_derivative_19 rfl ?_
    by_cases hn : 20 ≤ li ∨ 24 < 2 * od a
    · rw [if_pos hn]
      refine z_if_ge (q := 23) (tgt := 25) d_mo_derivative_20 rfl (by decide) (fun hb => absurd hb (nf_neg hn)) (fun _ => ?_)
      refine z_ild3 (q := 24) d_mo_derivative_23 rfl ?_
      exact z_iret d_mo_derivative_24 rfl (Nat.le_refl _) (Nat.le_refl _) (by rw [← hPo]; exact Or.inr (Or.inl ⟨⟨a, ha, rfl⟩, hn, rfl, rfl, fun _ _ => rfl, hms⟩))
    rw [if_neg hn]
    refine zi_if_ge (tgt := 25) d_mo_derivative_20 (by decide) (by omega) ?_
    have hl20 : li < 20 := by omega
    have hB24 : 2 * od a ≤ 24 := by omega
    refine z_ald0 (q := 26) d_mo_derivative_25 rfl ?_
    refine z_iconst (v := nI 0) (q := 27) d_mo_derivative_26 rfl (by decide) ?_
    refine z_ild1 (q := 28) d_mo_derivative_27 rfl ?_
    refine z_iconst (v := nI 2) (q := 29) d_mo_derivative_28 rfl (by decide) ?_
    refine z_ild2 (q := 30) d_mo_derivative_29 rfl ?_
    first | refine zn_imul (q := 31) d_mo_derivative_30 rfl ?_ | refine z_imul (q := 31) d_mo_derivative_30 rfl ?_
    refine z_iconst (v := nI 1) (q := 32) d_mo_derivative_31 rfl (by decide) ?_
    first | refine zn_iadd (q := 33) d_mo_derivative_32 rfl ?_ | refine z_iadd (q := 33) d_mo_derivative_32 rfl ?_
    refine z_cV3v (q := 36) d_mo_derivative_33 rfl (mt_expand (at' := 0) (m := 2 * (2 * od a) + 1) hMc' hgt hgtP ha (by omega)) (by first | assumption | omega) (by first | assumption | omega) rfl ck_mo_expand lk_mo_93 im_mo_expand sl_mo_expand ⟨by decide, by decide⟩ (Nat.le_of_ble_eq_true rfl) rfl rfl ?_
    generalize hG : ex_ (ts a) gt 0 (2 * (2 * od a) + 1) = G
    have hGP : ∀ j, G j < 2147483647 := fun j => by rw [← hG]; exact ex_lt hSa.2.1 hgtP j
    have hGa : ∀ i, i < 2 * (2 * od a) + 1 → G i = ts a i := fun i hi => by rw [← hG]; have := ex_in (s := ts a) (g := gt) (at' := 0) hi; rw [Nat.zero_add] at this; exact this
    have loop : ∀ (e x : Nat) (t : Option Value), x + e = 2 * (2 * od a) → Z m_mo_derivative Po 0 0 90 (va_up σ 83 (zN 2400 (ex_ s G 2300 x))) 39 [some (.ref 78), some (.int (nI a)), some (.int (nI (2 * od a))), some (.int (nI 0)), some (.int (nI x))] [] := by
      intro e
      induction e with
      | zero =>
        intro x t hx
        obtain rfl : x = 2 * (2 * od a) := by omega
        refine z_ild4 (q := 41) d_mo_derivative_39 rfl ?_
        refine z_iconst (v := nI 2) (q := 42) d_mo_derivative_41 rfl (by decide) ?_
        refine z_ild2 (q := 43) d_mo_derivative_42 rfl ?_
        first | refine zn_imul (q := 44) d_mo_derivative_43 rfl ?_ | refine z_imul (q := 44) d_mo_derivative_43 rfl ?_
        refine zn_icmp_ge (q := 47) (tgt := 85) d_mo_derivative_44 rfl (by decide) (by omega) (by omega) (fun hb => ?_) (fun hb => ?_)
        · have y0 : va_up σ 83 (zN 2400 (ex_ s G 2300 (2 * (2 * od a)))) 78 = zO 5 [.int (nI li), .int (nI gi), .ref 79, .ref 80, .ref 81, .ref 82, .ref 83, .ref 84, .ref 85, .ref 86, .ref 87, .ref 88, .ref 89] := by rw [zu_ne (by omega)]; exact h0
          refine z_ald0 (q := 86) d_mo_derivative_85 rfl ?_
          refine z_ild2 (q := 87) d_mo_derivative_86 rfl ?_
          have hcm := hms.t (g := ex_ s G 2300 (2 * (2 * od a))) (ex_lt hsP hGP)
          refine z_gV1 (q := 90) d_mo_derivative_87 rfl (mt_settle hcm (by omega) hB24 zu_same (ex_lt hsP hGP) (fun n hn => ex_in hn) hsP (by rw [← hs]; have := bd_derivative fp_inv ph (fun n => by rw [ph_add, ph_1]) (ob_of hSa); simp only [ph_mod, ph_mul]; rw [show 2 * od a = od a + od a by omega]; exact this)) (by first | assumption | omega) (by first | assumption | omega) rfl ck_mo_settle lk_mo_78 im_mo_settle sl_mo_settle ⟨by decide, by decide⟩ (Nat.le_of_ble_eq_true rfl) rfl rfl (fun r m τ hp => ?_)
          have hen := EN_frM (σ := σ) (fun j hj => zu_ne (by omega)) hp
          obtain ⟨rfl, -, rfl, -⟩ := hp
          exact z_iret d_mo_derivative_90 rfl (Nat.le_refl _) (Nat.le_refl _) (by rw [← hPo]; exact Or.inr (Or.inr ⟨⟨a, ha, rfl⟩, hl20, hB24, hen⟩))
        · exact absurd hb (by omega)
      | succ e ih =>
        intro x t hx
        have y0 : va_up σ 83 (zN 2400 (ex_ s G 2300 x)) 78 = zO 5 [.int (nI li), .int (nI gi), .ref 79, .ref 80, .ref 81, .ref 82, .ref 83, .ref 84, .ref 85, .ref 86, .ref 87, .ref 88, .ref 89] := by rw [zu_ne (by omega)]; exact h0
        have y3 : va_up σ 83 (zN 2400 (ex_ s G 2300 x)) 83 = zN 2400 (ex_ s G 2300 x) := zu_same
        have hrd : ∀ i, i < 2 * (2 * od a) + 1 → ex_ s G 2300 x i = ts a i := fun i hi => by rw [ex_out (by omega)]; exact hGa i hi
        refine z_ild4 (q := 41) d_mo_derivative_39 rfl ?_
        refine z_iconst (v := nI 2) (q := 42) d_mo_derivative_41 rfl (by decide) ?_
        refine z_ild2 (q := 43) d_mo_derivative_42 rfl ?_
        first | refine zn_imul (q := 44) d_mo_derivative_43 rfl ?_ | refine z_imul (q := 44) d_mo_derivative_43 rfl ?_
        refine zn_icmp_ge (q := 47) (tgt := 85) d_mo_derivative_44 rfl (by decide) (by omega) (by omega) (fun hb => ?_) (fun hb => ?_)
        · exact absurd hb (by omega)
        · have q1 := mul_lt (show x + 1 < 2147483647 by omega) (hSa.2.1 (x + 1))
          refine z_ald0 (q := 48) d_mo_derivative_47 rfl ?_
          refine z_get 6 (q := 51) d_mo_derivative_48 rfl fg_mo_23 (by first | assumption | omega) (by first | assumption | omega) (by rfl) ?_
          refine z_sipush (v := nI 2300) (q := 54) d_mo_derivative_51 rfl (by decide) ?_
          refine z_ild4 (q := 56) d_mo_derivative_54 rfl ?_
          first | refine zn_iadd (q := 57) d_mo_derivative_56 rfl ?_ | refine z_iadd (q := 57) d_mo_derivative_56 rfl ?_
          refine z_ild4 (q := 59) d_mo_derivative_57 rfl ?_
          refine z_iconst (v := nI 1) (q := 60) d_mo_derivative_59 rfl (by decide) ?_
          first | refine zn_iadd (q := 61) d_mo_derivative_60 rfl ?_ | refine z_iadd (q := 61) d_mo_derivative_60 rfl ?_
          first | refine zn_i2l (q := 62) d_mo_derivative_61 rfl (by omega) ?_ | refine z_i2l (q := 62) d_mo_derivative_61 rfl ?_
          refine z_ald0 (q := 63) d_mo_derivative_62 rfl ?_
          refine z_get 6 (q := 66) d_mo_derivative_63 rfl fg_mo_23 (by first | assumption | omega) (by first | assumption | omega) (by rfl) ?_
          refine z_iconst (v := nI 0) (q := 67) d_mo_derivative_66 rfl (by decide) ?_
          refine z_ild4 (q := 69) d_mo_derivative_67 rfl ?_
          first | refine zn_iadd (q := 70) d_mo_derivative_69 rfl ?_ | refine z_iadd (q := 70) d_mo_derivative_69 rfl ?_
          refine z_iconst (v := nI 1) (q := 71) d_mo_derivative_70 rfl (by decide) ?_
          first | refine zn_iadd (q := 72) d_mo_derivative_71 rfl ?_ | refine z_iadd (q := 72) d_mo_derivative_71 rfl ?_
          refine z_laload (q := 73) d_mo_derivative_72 rfl (by first | assumption | omega) (by first | assumption | omega) (by omega) (by omega) ?_
          rw [Nat.zero_add, hrd (x + 1) (by omega)]
          first | refine zn_lmul (q := 74) d_mo_derivative_73 rfl ?_ | refine z_lmul (q := 74) d_mo_derivative_73 rfl ?_
          refine z_ldc2 (q := 77) d_mo_derivative_74 rfl cl_mo_44 ?_
          refine zn_lrem (q := 78) d_mo_derivative_77 rfl (by omega) (by omega) (by omega) ?_
          refine z_lastore (q := 79) d_mo_derivative_78 rfl (by first | assumption | omega) (by first | assumption | omega) (by omega) (by omega) ?_
          refine zn_iinc4 (d := 1) (q := 82) d_mo_derivative_79 rfl rfl ?_
          refine z_goto (tgt := 39) d_mo_derivative_82 (by decide) ?_
          refine Z.eqw ?_ (ih (x + 1) none (by omega))
          rw [zu_up, ← ex_s, ← hs]
    refine z_iconst (v := nI 0) (q := 37) d_mo_derivative_36 rfl (by decide) ?_
    refine z_ist4 (q := 39) d_mo_derivative_37 rfl rfl ?_
    exact (Z.eqw (by rw [ex_0]) (loop (2 * (2 * od a)) 0 none (by omega)))
  · refine Ct.of (lv := [some (.ref 78), some (.int j), none, none, none]) 3 (by decide) rfl (Nat.le_of_ble_eq_true rfl) ?_
    refine z_iconst (v := nI 2) (q := 1) d_mo_derivative_0 rfl (by decide) ?_
    refine z_ald0 (q := 2) d_mo_derivative_1 rfl ?_
    refine z_ild1 (q := 3) d_mo_derivative_2 rfl ?_
    refine z_cV1 (q := 6) d_mo_derivative_3 rfl (mt_orderOf_no h0 (by omega) h6 hj) (by first | assumption | omega) (by first | assumption | omega) rfl ck_mo_orderOf lk_mo_86 im_mo_orderOf sl_mo_orderOf ⟨by decide, by decide⟩ (Nat.le_of_ble_eq_true rfl) rfl rfl ?_
    first | refine zn_imul (q := 7) d_mo_derivative_6 rfl ?_ | refine z_imul (q := 7) d_mo_derivative_6 rfl ?_
    refine z_ist2 (q := 8) d_mo_derivative_7 rfl rfl ?_
    refine z_ald0 (q := 9) d_mo_derivative_8 rfl ?_
    refine z_ald0 (q := 10) d_mo_derivative_9 rfl ?_
    refine z_ild1 (q := 11) d_mo_derivative_10 rfl ?_
    refine z_cV1 (q := 14) d_mo_derivative_11 rfl (mt_isIn_no h0 (by omega) h6 hj) (by first | assumption | omega) (by first | assumption | omega) rfl ck_mo_isIn lk_mo_82 im_mo_isIn sl_mo_isIn ⟨by decide, by decide⟩ (Nat.le_of_ble_eq_true rfl) rfl rfl ?_
    refine z_ild2 (q := 15) d_mo_derivative_14 rfl ?_
    refine z_cV2 (q := 18) d_mo_derivative_15 rfl (mt_refusal_bad) (by first | assumption | omega) (by first | assumption | omega) rfl ck_mo_refusal lk_mo_89 im_mo_refusal sl_mo_refusal ⟨by decide, by decide⟩ (Nat.le_of_ble_eq_true rfl) rfl rfl ?_
    refine z_ist3 (q := 19) d_mo_derivative_18 rfl rfl ?_
    refine z_ild3 (q := 20) d_mo_derivative_19 rfl ?_
    refine z_if_ge (q := 23) (tgt := 25) d_mo_derivative_20 rfl (by decide) (fun hb => absurd hb (by decide)) (fun _ => ?_)
    refine z_ild3 (q := 24) d_mo_derivative_23 rfl ?_
    exact z_iret d_mo_derivative_24 rfl (Nat.le_refl _) (Nat.le_refl _) (Or.inl ⟨hj, rfl, rfl, fun _ _ => rfl, hms⟩)
theorem mm_delay {σ : zWd} {li gi : Nat} {row od : Nat → Nat} {cf ts : Nat → Nat → Nat} (h : MS li gi row od cf ts σ) (j : Int32) : Ct m_mo_delay [.ref 78, .int j] 90 σ (MK MS FrM σ li gi row od cf ts (isL li j) (od j.toNatClampNeg + 1) (fun n => if n = 0 then 0 else ts j.toNatClampNeg (n - 1))) := by
  have hms := h
  obtain ⟨hMc, hMs⟩ := h
  have hMc' := hMc
  have hMs' := hMs
  obtain ⟨h0, ⟨h1, h1'⟩, ⟨fo, h2, h2'⟩, ⟨g1, h3, h3', h3''⟩, ⟨g2, h4, h4', h4''⟩, h5, h6, h7⟩ := hMc
  have h0' : σ 78 = zO 5 [.int (nI li), .int (nI gi), .ref 79, .ref 80, .ref 81, .ref 82, .ref 83, .ref 84, .ref 85, .ref 86, .ref 87, .ref 88, .ref 89] := h0
  obtain ⟨⟨gt, hgt, hgtP⟩, -⟩ := hMs
  by_cases hj : isL li j
  · obtain ⟨a, ha, rfl⟩ := hj
    rw [nI_clamp (by omega)]
    have hSa := h5 a ha
    have hoa := hSa.1
    refine Ct.of (lv := [some (.ref 78), some (.int (nI a)), none, none, none]) 3 (by decide) rfl (Nat.le_of_ble_eq_true rfl) ?_
    generalize hPo : MK MS FrM σ li gi row od cf ts (isL li (nI a)) (od a + 1) (fun n => if n = 0 then 0 else ts a (n - 1)) = Po
    generalize hs : (fun n => if n = 0 then 0 else ts a (n - 1)) = s at hPo
    have hsP : ∀ n, s n < 2147483647 := fun n => by rw [← hs]; exact (by dsimp only; split; omega; exact hSa.2.1 _)
    refine z_ald0 (q := 1) d_mo_delay_0 rfl ?_
    refine z_ild1 (q := 2) d_mo_delay_1 rfl ?_
    refine z_cV1 (q := 5) d_mo_delay_2 rfl (mt_orderOf_yes h0 h2 (h2' a ha) (by omega) h6 ha) (by first | assumption | omega) (by first | assumption | omega) rfl ck_mo_orderOf lk_mo_86 im_mo_orderOf sl_mo_orderOf ⟨by decide, by decide⟩ (Nat.le_of_ble_eq_true rfl) rfl rfl ?_
    refine z_iconst (v := nI 1) (q := 6) d_mo_delay_5 rfl (by decide) ?_
    first | refine zn_iadd (q := 7) d_mo_delay_6 rfl ?_ | refine z_iadd (q := 7) d_mo_delay_6 rfl ?_
    refine z_ist2 (q := 8) d_mo_delay_7 rfl rfl ?_
    refine z_ald0 (q := 9) d_mo_delay_8 rfl ?_
    refine z_ald0 (q := 10) d_mo_delay_9 rfl ?_
    refine z_ild1 (q := 11) d_mo_delay_10 rfl ?_
    refine z_cV1 (q := 14) d_mo_delay_11 rfl (mt_isIn_yes h0 (by omega) h6 ha) (by first | assumption | omega) (by first | assumption | omega) rfl ck_mo_isIn lk_mo_82 im_mo_isIn sl_mo_isIn ⟨by decide, by decide⟩ (Nat.le_of_ble_eq_true rfl) rfl rfl ?_
    refine z_ild2 (q := 15) d_mo_delay_14 rfl ?_
    refine z_cV2 (q := 18) d_mo_delay_15 rfl (mt_refusal h0 (by omega) h6 (by omega)) (by first | assumption | omega) (by first | assumption | omega) rfl ck_mo_refusal lk_mo_89 im_mo_refusal sl_mo_refusal ⟨by decide, by decide⟩ (Nat.le_of_ble_eq_true rfl) rfl rfl ?_
    refine z_ist3 (q := 19) d_mo_delay_18 rfl rfl ?_
    refine z_ild3 (q := 20) d_mo_delay_19 rfl ?_
    by_cases hn : 20 ≤ li ∨ 24 < od a + 1
    · rw [if_pos hn]
      refine z_if_ge (q := 23) (tgt := 25) d_mo_delay_20 rfl (by decide) (fun hb => absurd hb (nf_neg hn)) (fun _ => ?_)
      refine z_ild3 (q := 24) d_mo_delay_23 rfl ?_
      exact z_iret d_mo_delay_24 rfl (Nat.le_refl _) (Nat.le_refl _) (by rw [← hPo]; exact Or.inr (Or.inl ⟨⟨a, ha, rfl⟩, hn, rfl, rfl, fun _ _ => rfl, hms⟩))
    rw [if_neg hn]
    refine zi_if_ge (tgt := 25) d_mo_delay_20 (by decide) (by omega) ?_
    have hl20 : li < 20 := by omega
    have hB24 : od a + 1 ≤ 24 := by omega
    refine z_ald0 (q := 26) d_mo_delay_25 rfl ?_
    refine z_iconst (v := nI 0) (q := 27) d_mo_delay_26 rfl (by decide) ?_
    refine z_ild1 (q := 28) d_mo_delay_27 rfl ?_
    refine z_iconst (v := nI 2) (q := 29) d_mo_delay_28 rfl (by decide) ?_
    refine z_ild2 (q := 30) d_mo_delay_29 rfl ?_
    first | refine zn_imul (q := 31) d_mo_delay_30 rfl ?_ | refine z_imul (q := 31) d_mo_delay_30 rfl ?_
    refine z_cV3v (q := 34) d_mo_delay_31 rfl (mt_expand (at' := 0) (m := 2 * (od a + 1)) hMc' hgt hgtP ha (by omega)) (by first | assumption | omega) (by first | assumption | omega) rfl ck_mo_expand lk_mo_93 im_mo_expand sl_mo_expand ⟨by decide, by decide⟩ (Nat.le_of_ble_eq_true rfl) rfl rfl ?_
    generalize hG : ex_ (ts a) gt 0 (2 * (od a + 1)) = G
    have hGP : ∀ j, G j < 2147483647 := fun j => by rw [← hG]; exact ex_lt hSa.2.1 hgtP j
    have hGa : ∀ i, i < 2 * (od a + 1) → G i = ts a i := fun i hi => by rw [← hG]; have := ex_in (s := ts a) (g := gt) (at' := 0) hi; rw [Nat.zero_add] at this; exact this
    have loop : ∀ (e x : Nat) (t : Option Value), 1 ≤ x → x + e = 2 * (od a + 1) → Z m_mo_delay Po 0 0 90 (va_up σ 83 (zN 2400 (ex_ s G 2300 x))) 46 [some (.ref 78), some (.int (nI a)), some (.int (nI (od a + 1))), some (.int (nI 0)), some (.int (nI x))] [] := by
      intro e
      induction e with
      | zero =>
        intro x t hx1 hx
        obtain rfl : x = 2 * (od a + 1) := by omega
        refine z_ild4 (q := 48) d_mo_delay_46 rfl ?_
        refine z_iconst (v := nI 2) (q := 49) d_mo_delay_48 rfl (by decide) ?_
        refine z_ild2 (q := 50) d_mo_delay_49 rfl ?_
        first | refine zn_imul (q := 51) d_mo_delay_50 rfl ?_ | refine z_imul (q := 51) d_mo_delay_50 rfl ?_
        refine zn_icmp_ge (q := 54) (tgt := 82) d_mo_delay_51 rfl (by decide) (by omega) (by omega) (fun hb => ?_) (fun hb => ?_)
        · have y0 : va_up σ 83 (zN 2400 (ex_ s G 2300 (2 * (od a + 1)))) 78 = zO 5 [.int (nI li), .int (nI gi), .ref 79, .ref 80, .ref 81, .ref 82, .ref 83, .ref 84, .ref 85, .ref 86, .ref 87, .ref 88, .ref 89] := by rw [zu_ne (by omega)]; exact h0
          refine z_ald0 (q := 83) d_mo_delay_82 rfl ?_
          refine z_ild2 (q := 84) d_mo_delay_83 rfl ?_
          have hcm := hms.t (g := ex_ s G 2300 (2 * (od a + 1))) (ex_lt hsP hGP)
          refine z_gV1 (q := 87) d_mo_delay_84 rfl (mt_settle hcm (by omega) hB24 zu_same (ex_lt hsP hGP) (fun n hn => ex_in hn) hsP (by rw [← hs]; refine bd_delay fp_inv (ob_of hSa) (fun n => ?_); show ph (if n + 1 = 0 then 0 else ts a (n + 1 - 1)) = ph (ts a n); rw [if_neg (by omega), show n + 1 - 1 = n by omega])) (by first | assumption | omega) (by first | assumption | omega) rfl ck_mo_settle lk_mo_78 im_mo_settle sl_mo_settle ⟨by decide, by decide⟩ (Nat.le_of_ble_eq_true rfl) rfl rfl (fun r m τ hp => ?_)
          have hen := EN_frM (σ := σ) (fun j hj => zu_ne (by omega)) hp
          obtain ⟨rfl, -, rfl, -⟩ := hp
          exact z_iret d_mo_delay_87 rfl (Nat.le_refl _) (Nat.le_refl _) (by rw [← hPo]; exact Or.inr (Or.inr ⟨⟨a, ha, rfl⟩, hl20, hB24, hen⟩))
        · exact absurd hb (by omega)
      | succ e ih =>
        intro x t hx1 hx
        have y0 : va_up σ 83 (zN 2400 (ex_ s G 2300 x)) 78 = zO 5 [.int (nI li), .int (nI gi), .ref 79, .ref 80, .ref 81, .ref 82, .ref 83, .ref 84, .ref 85, .ref 86, .ref 87, .ref 88, .ref 89] := by rw [zu_ne (by omega)]; exact h0
        have y3 : va_up σ 83 (zN 2400 (ex_ s G 2300 x)) 83 = zN 2400 (ex_ s G 2300 x) := zu_same
        have hrd : ∀ i, i < 2 * (od a + 1) → ex_ s G 2300 x i = ts a i := fun i hi => by rw [ex_out (by omega)]; exact hGa i hi
        refine z_ild4 (q := 48) d_mo_delay_46 rfl ?_
        refine z_iconst (v := nI 2) (q := 49) d_mo_delay_48 rfl (by decide) ?_
        refine z_ild2 (q := 50) d_mo_delay_49 rfl ?_
        first | refine zn_imul (q := 51) d_mo_delay_50 rfl ?_ | refine z_imul (q := 51) d_mo_delay_50 rfl ?_
        refine zn_icmp_ge (q := 54) (tgt := 82) d_mo_delay_51 rfl (by decide) (by omega) (by omega) (fun hb => ?_) (fun hb => ?_)
        · exact absurd hb (by omega)
        · refine z_ald0 (q := 55) d_mo_delay_54 rfl ?_
          refine z_get 6 (q := 58) d_mo_delay_55 rfl fg_mo_23 (by first | assumption | omega) (by first | assumption | omega) (by rfl) ?_
          refine z_sipush (v := nI 2300) (q := 61) d_mo_delay_58 rfl (by decide) ?_
          refine z_ild4 (q := 63) d_mo_delay_61 rfl ?_
          first | refine zn_iadd (q := 64) d_mo_delay_63 rfl ?_ | refine z_iadd (q := 64) d_mo_delay_63 rfl ?_
          refine z_ald0 (q := 65) d_mo_delay_64 rfl ?_
          refine z_get 6 (q := 68) d_mo_delay_65 rfl fg_mo_23 (by first | assumption | omega) (by first | assumption | omega) (by rfl) ?_
          refine z_iconst (v := nI 0) (q := 69) d_mo_delay_68 rfl (by decide) ?_
          refine z_ild4 (q := 71) d_mo_delay_69 rfl ?_
          first | refine zn_iadd (q := 72) d_mo_delay_71 rfl ?_ | refine z_iadd (q := 72) d_mo_delay_71 rfl ?_
          refine z_iconst (v := nI 1) (q := 73) d_mo_delay_72 rfl (by decide) ?_
          first | refine zn_isub (q := 74) d_mo_delay_73 rfl (by omega) ?_ | refine z_isub (q := 74) d_mo_delay_73 rfl ?_
          refine z_laload (q := 75) d_mo_delay_74 rfl (by first | assumption | omega) (by first | assumption | omega) (by omega) (by omega) ?_
          rw [Nat.zero_add, hrd (x - 1) (by omega)]
          refine z_lastore (q := 76) d_mo_delay_75 rfl (by first | assumption | omega) (by first | assumption | omega) (by omega) (by omega) ?_
          refine zn_iinc4 (d := 1) (q := 79) d_mo_delay_76 rfl rfl ?_
          refine z_goto (tgt := 46) d_mo_delay_79 (by decide) ?_
          refine Z.eqw ?_ (ih (x + 1) none (by omega) (by omega))
          rw [zu_up, ← ex_s, ← hs]
          dsimp only
          rw [if_neg (by omega)]
    have z0 : va_up σ 83 (zN 2400 G) 78 = zO 5 [.int (nI li), .int (nI gi), .ref 79, .ref 80, .ref 81, .ref 82, .ref 83, .ref 84, .ref 85, .ref 86, .ref 87, .ref 88, .ref 89] := by rw [zu_ne (by omega)]; exact h0
    have z3 : va_up σ 83 (zN 2400 G) 83 = zN 2400 G := zu_same
    refine z_ald0 (q := 35) d_mo_delay_34 rfl ?_
    refine z_get 6 (q := 38) d_mo_delay_35 rfl fg_mo_23 (by first | assumption | omega) (by first | assumption | omega) (by rfl) ?_
    refine z_sipush (v := nI 2300) (q := 41) d_mo_delay_38 rfl (by decide) ?_
    refine z_lconst (v := lN 0) (q := 42) d_mo_delay_41 rfl rfl ?_
    refine z_lastore (q := 43) d_mo_delay_42 rfl (by first | assumption | omega) (by first | assumption | omega) (by omega) (by omega) ?_
    refine z_iconst (v := nI 1) (q := 44) d_mo_delay_43 rfl (by decide) ?_
    refine z_ist4 (q := 46) d_mo_delay_44 rfl rfl ?_
    refine Z.eqw ?_ (loop (2 * (od a + 1) - 1) 1 none (by omega) (by omega))
    rw [zu_up, ← ex_s, ex_0, ← hs]
    rfl
  · refine Ct.of (lv := [some (.ref 78), some (.int j), none, none, none]) 3 (by decide) rfl (Nat.le_of_ble_eq_true rfl) ?_
    refine z_ald0 (q := 1) d_mo_delay_0 rfl ?_
    refine z_ild1 (q := 2) d_mo_delay_1 rfl ?_
    refine z_cV1 (q := 5) d_mo_delay_2 rfl (mt_orderOf_no h0 (by omega) h6 hj) (by first | assumption | omega) (by first | assumption | omega) rfl ck_mo_orderOf lk_mo_86 im_mo_orderOf sl_mo_orderOf ⟨by decide, by decide⟩ (Nat.le_of_ble_eq_true rfl) rfl rfl ?_
    refine z_iconst (v := nI 1) (q := 6) d_mo_delay_5 rfl (by decide) ?_
    first | refine zn_iadd (q := 7) d_mo_delay_6 rfl ?_ | refine z_iadd (q := 7) d_mo_delay_6 rfl ?_
    refine z_ist2 (q := 8) d_mo_delay_7 rfl rfl ?_
    refine z_ald0 (q := 9) d_mo_delay_8 rfl ?_
    refine z_ald0 (q := 10) d_mo_delay_9 rfl ?_
    refine z_ild1 (q := 11) d_mo_delay_10 rfl ?_
    refine z_cV1 (q := 14) d_mo_delay_11 rfl (mt_isIn_no h0 (by omega) h6 hj) (by first | assumption | omega) (by first | assumption | omega) rfl ck_mo_isIn lk_mo_82 im_mo_isIn sl_mo_isIn ⟨by decide, by decide⟩ (Nat.le_of_ble_eq_true rfl) rfl rfl ?_
    refine z_ild2 (q := 15) d_mo_delay_14 rfl ?_
    refine z_cV2 (q := 18) d_mo_delay_15 rfl (mt_refusal_bad) (by first | assumption | omega) (by first | assumption | omega) rfl ck_mo_refusal lk_mo_89 im_mo_refusal sl_mo_refusal ⟨by decide, by decide⟩ (Nat.le_of_ble_eq_true rfl) rfl rfl ?_
    refine z_ist3 (q := 19) d_mo_delay_18 rfl rfl ?_
    refine z_ild3 (q := 20) d_mo_delay_19 rfl ?_
    refine z_if_ge (q := 23) (tgt := 25) d_mo_delay_20 rfl (by decide) (fun hb => absurd hb (by decide)) (fun _ => ?_)
    refine z_ild3 (q := 24) d_mo_delay_23 rfl ?_
    exact z_iret d_mo_delay_24 rfl (Nat.le_refl _) (Nat.le_refl _) (Or.inl ⟨hj, rfl, rfl, fun _ _ => rfl, hms⟩)
theorem mm_sums {σ : zWd} {li gi : Nat} {row od : Nat → Nat} {cf ts : Nat → Nat → Nat} (h : MS li gi row od cf ts σ) (j : Int32) : Ct m_mo_sums [.ref 78, .int j] 90 σ (MK MS FrM σ li gi row od cf ts (isL li j) (od j.toNatClampNeg + 1) (fun n => su_ (ts j.toNatClampNeg) (n + 1))) := by
  have hms := h
  obtain ⟨hMc, hMs⟩ := h
  have hMc' := hMc
  have hMs' := hMs
  obtain ⟨h0, ⟨h1, h1'⟩, ⟨fo, h2, h2'⟩, ⟨g1, h3, h3', h3''⟩, ⟨g2, h4, h4', h4''⟩, h5, h6, h7⟩ := hMc
  have h0' : σ 78 = zO 5 [.int (nI li), .int (nI gi), .ref 79, .ref 80, .ref 81, .ref 82, .ref 83, .ref 84, .ref 85, .ref 86, .ref 87, .ref 88, .ref 89] := h0
  obtain ⟨⟨gt, hgt, hgtP⟩, -⟩ := hMs
  by_cases hj : isL li j
  · obtain ⟨a, ha, rfl⟩ := hj
    rw [nI_clamp (by omega)]
    have hSa := h5 a ha
    have hoa := hSa.1
    refine Ct.of (lv := [some (.ref 78), some (.int (nI a)), none, none, none, none, none]) 5 (by decide) rfl (Nat.le_of_ble_eq_true rfl) ?_
    generalize hPo : MK MS FrM σ li gi row od cf ts (isL li (nI a)) (od a + 1) (fun n => su_ (ts a) (n + 1)) = Po
    generalize hs : (fun n => su_ (ts a) (n + 1)) = s at hPo
    have hsP : ∀ n, s n < 2147483647 := fun n => by rw [← hs]; exact su_lt _ _
    refine z_ald0 (q := 1) d_mo_sums_0 rfl ?_
    refine z_ild1 (q := 2) d_mo_sums_1 rfl ?_
    refine z_cV1 (q := 5) d_mo_sums_2 rfl (mt_orderOf_yes h0 h2 (h2' a ha) (by omega) h6 ha) (by first | assumption | omega) (by first | assumption | omega) rfl ck_mo_orderOf lk_mo_86 im_mo_orderOf sl_mo_orderOf ⟨by decide, by decide⟩ (Nat.le_of_ble_eq_true rfl) rfl rfl ?_
    refine z_iconst (v := nI 1) (q := 6) d_mo_sums_5 rfl (by decide) ?_
    first | refine zn_iadd (q := 7) d_mo_sums_6 rfl ?_ | refine z_iadd (q := 7) d_mo_sums_6 rfl ?_
    refine z_ist2 (q := 8) d_mo_sums_7 rfl rfl ?_
    refine z_ald0 (q := 9) d_mo_sums_8 rfl ?_
    refine z_ald0 (q := 10) d_mo_sums_9 rfl ?_
    refine z_ild1 (q := 11) d_mo_sums_10 rfl ?_
    refine z_cV1 (q := 14) d_mo_sums_11 rfl (mt_isIn_yes h0 (by omega) h6 ha) (by first | assumption | omega) (by first | assumption | omega) rfl ck_mo_isIn lk_mo_82 im_mo_isIn sl_mo_isIn ⟨by decide, by decide⟩ (Nat.le_of_ble_eq_true rfl) rfl rfl ?_
    refine z_ild2 (q := 15) d_mo_sums_14 rfl ?_
    refine z_cV2 (q := 18) d_mo_sums_15 rfl (mt_refusal h0 (by omega) h6 (by omega)) (by first | assumption | omega) (by first | assumption | omega) rfl ck_mo_refusal lk_mo_89 im_mo_refusal sl_mo_refusal ⟨by decide, by decide⟩ (Nat.le_of_ble_eq_true rfl) rfl rfl ?_
    refine z_ist3 (q := 19) d_mo_sums_18 rfl rfl ?_
    refine z_ild3 (q := 20) d_mo_sums_19 rfl ?_
    by_cases hn : 20 ≤ li ∨ 24 < od a + 1
    · rw [if_pos hn]
      refine z_if_ge (q := 23) (tgt := 25) d_mo_sums_20 rfl (by decide) (fun hb => absurd hb (nf_neg hn)) (fun _ => ?_)
      refine z_ild3 (q := 24) d_mo_sums_23 rfl ?_
      exact z_iret d_mo_sums_24 rfl (Nat.le_refl _) (Nat.le_refl _) (by rw [← hPo]; exact Or.inr (Or.inl ⟨⟨a, ha, rfl⟩, hn, rfl, rfl, fun _ _ => rfl, hms⟩))
    rw [if_neg hn]
    refine zi_if_ge (tgt := 25) d_mo_sums_20 (by decide) (by omega) ?_
    have hl20 : li < 20 := by omega
    have hB24 : od a + 1 ≤ 24 := by omega
    refine z_ald0 (q := 26) d_mo_sums_25 rfl ?_
    refine z_iconst (v := nI 0) (q := 27) d_mo_sums_26 rfl (by decide) ?_
    refine z_ild1 (q := 28) d_mo_sums_27 rfl ?_
    refine z_iconst (v := nI 2) (q := 29) d_mo_sums_28 rfl (by decide) ?_
    refine z_ild2 (q := 30) d_mo_sums_29 rfl ?_
    first | refine zn_imul (q := 31) d_mo_sums_30 rfl ?_ | refine z_imul (q := 31) d_mo_sums_30 rfl ?_
    refine z_cV3v (q := 34) d_mo_sums_31 rfl (mt_expand (at' := 0) (m := 2 * (od a + 1)) hMc' hgt hgtP ha (by omega)) (by first | assumption | omega) (by first | assumption | omega) rfl ck_mo_expand lk_mo_93 im_mo_expand sl_mo_expand ⟨by decide, by decide⟩ (Nat.le_of_ble_eq_true rfl) rfl rfl ?_
    generalize hG : ex_ (ts a) gt 0 (2 * (od a + 1)) = G
    have hGP : ∀ j, G j < 2147483647 := fun j => by rw [← hG]; exact ex_lt hSa.2.1 hgtP j
    have hGa : ∀ i, i < 2 * (od a + 1) → G i = ts a i := fun i hi => by rw [← hG]; have := ex_in (s := ts a) (g := gt) (at' := 0) hi; rw [Nat.zero_add] at this; exact this
    have loop : ∀ (e x : Nat) (t : Option Value), x + e = 2 * (od a + 1) → Z m_mo_sums Po 0 0 90 (va_up σ 83 (zN 2400 (ex_ s G 2300 x))) 40 [some (.ref 78), some (.int (nI a)), some (.int (nI (od a + 1))), some (.int (nI 0)), some (.long (lN (su_ (ts a) x))), none, some (.int (nI x))] [] := by
      intro e
      induction e with
      | zero =>
        intro x t hx
        obtain rfl : x = 2 * (od a + 1) := by omega
        refine z_ild6 (q := 42) d_mo_sums_40 rfl ?_
        refine z_iconst (v := nI 2) (q := 43) d_mo_sums_42 rfl (by decide) ?_
        refine z_ild2 (q := 44) d_mo_sums_43 rfl ?_
        first | refine zn_imul (q := 45) d_mo_sums_44 rfl ?_ | refine z_imul (q := 45) d_mo_sums_44 rfl ?_
        refine zn_icmp_ge (q := 48) (tgt := 85) d_mo_sums_45 rfl (by decide) (by omega) (by omega) (fun hb => ?_) (fun hb => ?_)
        · have y0 : va_up σ 83 (zN 2400 (ex_ s G 2300 (2 * (od a + 1)))) 78 = zO 5 [.int (nI li), .int (nI gi), .ref 79, .ref 80, .ref 81, .ref 82, .ref 83, .ref 84, .ref 85, .ref 86, .ref 87, .ref 88, .ref 89] := by rw [zu_ne (by omega)]; exact h0
          refine z_ald0 (q := 86) d_mo_sums_85 rfl ?_
          refine z_ild2 (q := 87) d_mo_sums_86 rfl ?_
          have hcm := hms.t (g := ex_ s G 2300 (2 * (od a + 1))) (ex_lt hsP hGP)
          refine z_gV1 (q := 90) d_mo_sums_87 rfl (mt_settle hcm (by omega) hB24 zu_same (ex_lt hsP hGP) (fun n hn => ex_in hn) hsP (by rw [← hs]; have := bd_sums fp_inv (ob_of hSa); simp only [su_ph]; exact this)) (by first | assumption | omega) (by first | assumption | omega) rfl ck_mo_settle lk_mo_78 im_mo_settle sl_mo_settle ⟨by decide, by decide⟩ (Nat.le_of_ble_eq_true rfl) rfl rfl (fun r m τ hp => ?_)
          have hen := EN_frM (σ := σ) (fun j hj => zu_ne (by omega)) hp
          obtain ⟨rfl, -, rfl, -⟩ := hp
          exact z_iret d_mo_sums_90 rfl (Nat.le_refl _) (Nat.le_refl _) (by rw [← hPo]; exact Or.inr (Or.inr ⟨⟨a, ha, rfl⟩, hl20, hB24, hen⟩))
        · exact absurd hb (by omega)
      | succ e ih =>
        intro x t hx
        have y0 : va_up σ 83 (zN 2400 (ex_ s G 2300 x)) 78 = zO 5 [.int (nI li), .int (nI gi), .ref 79, .ref 80, .ref 81, .ref 82, .ref 83, .ref 84, .ref 85, .ref 86, .ref 87, .ref 88, .ref 89] := by rw [zu_ne (by omega)]; exact h0
        have y3 : va_up σ 83 (zN 2400 (ex_ s G 2300 x)) 83 = zN 2400 (ex_ s G 2300 x) := zu_same
        have hrd : ∀ i, i < 2 * (od a + 1) → ex_ s G 2300 x i = ts a i := fun i hi => by rw [ex_out (by omega)]; exact hGa i hi
        refine z_ild6 (q := 42) d_mo_sums_40 rfl ?_
        refine z_iconst (v := nI 2) (q := 43) d_mo_sums_42 rfl (by decide) ?_
        refine z_ild2 (q := 44) d_mo_sums_43 rfl ?_
        first | refine zn_imul (q := 45) d_mo_sums_44 rfl ?_ | refine z_imul (q := 45) d_mo_sums_44 rfl ?_
        refine zn_icmp_ge (q := 48) (tgt := 85) d_mo_sums_45 rfl (by decide) (by omega) (by omega) (fun hb => ?_) (fun hb => ?_)
        · exact absurd hb (by omega)
        · have q1 := su_lt (ts a) x
          have q2 := hSa.2.1 x
          refine z_lld4 (q := 50) d_mo_sums_48 rfl ?_
          refine z_ald0 (q := 51) d_mo_sums_50 rfl ?_
          refine z_get 6 (q := 54) d_mo_sums_51 rfl fg_mo_23 (by first | assumption | omega) (by first | assumption | omega) (by rfl) ?_
          refine z_iconst (v := nI 0) (q := 55) d_mo_sums_54 rfl (by decide) ?_
          refine z_ild6 (q := 57) d_mo_sums_55 rfl ?_
          first | refine zn_iadd (q := 58) d_mo_sums_57 rfl ?_ | refine z_iadd (q := 58) d_mo_sums_57 rfl ?_
          refine z_laload (q := 59) d_mo_sums_58 rfl (by first | assumption | omega) (by first | assumption | omega) (by omega) (by omega) ?_
          rw [Nat.zero_add, hrd x (by omega)]
          first | refine zn_ladd (q := 60) d_mo_sums_59 rfl ?_ | refine z_ladd (q := 60) d_mo_sums_59 rfl ?_
          refine z_ldc2 (q := 63) d_mo_sums_60 rfl cl_mo_44 ?_
          refine zn_lrem (q := 64) d_mo_sums_63 rfl (by omega) (by omega) (by omega) ?_
          refine z_lst4 (q := 66) d_mo_sums_64 rfl rfl ?_
          refine z_ald0 (q := 67) d_mo_sums_66 rfl ?_
          refine z_get 6 (q := 70) d_mo_sums_67 rfl fg_mo_23 (by first | assumption | omega) (by first | assumption | omega) (by rfl) ?_
          refine z_sipush (v := nI 2300) (q := 73) d_mo_sums_70 rfl (by decide) ?_
          refine z_ild6 (q := 75) d_mo_sums_73 rfl ?_
          first | refine zn_iadd (q := 76) d_mo_sums_75 rfl ?_ | refine z_iadd (q := 76) d_mo_sums_75 rfl ?_
          refine z_lld4 (q := 78) d_mo_sums_76 rfl ?_
          refine z_lastore (q := 79) d_mo_sums_78 rfl (by first | assumption | omega) (by first | assumption | omega) (by omega) (by omega) ?_
          refine zn_iinc6 (d := 1) (q := 82) d_mo_sums_79 rfl rfl ?_
          refine z_goto (tgt := 40) d_mo_sums_82 (by decide) ?_
          refine Z.eqw ?_ (ih (x + 1) none (by omega))
          rw [zu_up, ← ex_s, ← hs]
          rfl
    refine z_lconst (v := lN 0) (q := 35) d_mo_sums_34 rfl rfl ?_
    refine z_lst4 (q := 37) d_mo_sums_35 rfl rfl ?_
    refine z_iconst (v := nI 0) (q := 38) d_mo_sums_37 rfl (by decide) ?_
    refine z_ist6 (q := 40) d_mo_sums_38 rfl rfl ?_
    exact (Z.eqw (by rw [ex_0]) (loop (2 * (od a + 1)) 0 none (by omega)))
  · refine Ct.of (lv := [some (.ref 78), some (.int j), none, none, none, none, none]) 5 (by decide) rfl (Nat.le_of_ble_eq_true rfl) ?_
    refine z_ald0 (q := 1) d_mo_sums_0 rfl ?_
    refine z_ild1 (q := 2) d_mo_sums_1 rfl ?_
    refine z_cV1 (q := 5) d_mo_sums_2 rfl (mt_orderOf_no h0 (by omega) h6 hj) (by first | assumption | omega) (by first | assumption | omega) rfl ck_mo_orderOf lk_mo_86 im_mo_orderOf sl_mo_orderOf ⟨by decide, by decide⟩ (Nat.le_of_ble_eq_true rfl) rfl rfl ?_
    refine z_iconst (v := nI 1) (q := 6) d_mo_sums_5 rfl (by decide) ?_
    first | refine zn_iadd (q := 7) d_mo_sums_6 rfl ?_ | refine z_iadd (q := 7) d_mo_sums_6 rfl ?_
    refine z_ist2 (q := 8) d_mo_sums_7 rfl rfl ?_
    refine z_ald0 (q := 9) d_mo_sums_8 rfl ?_
    refine z_ald0 (q := 10) d_mo_sums_9 rfl ?_
    refine z_ild1 (q := 11) d_mo_sums_10 rfl ?_
    refine z_cV1 (q := 14) d_mo_sums_11 rfl (mt_isIn_no h0 (by omega) h6 hj) (by first | assumption | omega) (by first | assumption | omega) rfl ck_mo_isIn lk_mo_82 im_mo_isIn sl_mo_isIn ⟨by decide, by decide⟩ (Nat.le_of_ble_eq_true rfl) rfl rfl ?_
    refine z_ild2 (q := 15) d_mo_sums_14 rfl ?_
    refine z_cV2 (q := 18) d_mo_sums_15 rfl (mt_refusal_bad) (by first | assumption | omega) (by first | assumption | omega) rfl ck_mo_refusal lk_mo_89 im_mo_refusal sl_mo_refusal ⟨by decide, by decide⟩ (Nat.le_of_ble_eq_true rfl) rfl rfl ?_
    refine z_ist3 (q := 19) d_mo_sums_18 rfl rfl ?_
    refine z_ild3 (q := 20) d_mo_sums_19 rfl ?_
    refine z_if_ge (q := 23) (tgt := 25) d_mo_sums_20 rfl (by decide) (fun hb => absurd hb (by decide)) (fun _ => ?_)
    refine z_ild3 (q := 24) d_mo_sums_23 rfl ?_
    exact z_iret d_mo_sums_24 rfl (Nat.le_refl _) (Nat.le_refl _) (Or.inl ⟨hj, rfl, rfl, fun _ _ => rfl, hms⟩)
theorem mm_combine {σ : zWd} {li gi : Nat} {row od : Nat → Nat} {cf ts : Nat → Nat → Nat} (h : MS li gi row od cf ts σ) (j k u v : Int32) : Ct m_mo_combine [.ref 78, .int j, .int k, .int u, .int v] 90 σ (MK MS FrM σ li gi row od cf ts (isL li j ∧ isL li k) (od j.toNatClampNeg + od k.toNatClampNeg) (fun n => (nu_ u * ts j.toNatClampNeg n + nu_ v * ts k.toNatClampNeg n) % 2147483647)) := by
  have hms := h
  obtain ⟨hMc, hMs⟩ := h
  have hMc' := hMc
  have hMs' := hMs
  obtain ⟨h0, ⟨h1, h1'⟩, ⟨fo, h2, h2'⟩, ⟨g1, h3, h3', h3''⟩, ⟨g2, h4, h4', h4''⟩, h5, h6, h7⟩ := hMc
  have h0' : σ 78 = zO 5 [.int (nI li), .int (nI gi), .ref 79, .ref 80, .ref 81, .ref 82, .ref 83, .ref 84, .ref 85, .ref 86, .ref 87, .ref 88, .ref 89] := h0
  obtain ⟨⟨gt, hgt, hgtP⟩, -⟩ := hMs
  by_cases hj : isL li j
  · by_cases hk : isL li k
    · obtain ⟨a, ha, rfl⟩ := hj
      obtain ⟨b, hb, rfl⟩ := hk
      rw [nI_clamp (by omega), nI_clamp (by omega)]
      have hSa := h5 a ha
      have hoa := hSa.1
      have hSb := h5 b hb
      have hob := hSb.1

      have hgood : isL li (nI a) ∧ isL li (nI b) := ⟨⟨a, ha, rfl⟩, ⟨b, hb, rfl⟩⟩
      refine Ct.of (lv := [some (.ref 78), some (.int (nI a)), some (.int (nI b)), some (.int u), some (.int v), none, none, none, none, none, none, none]) 7 (by decide) rfl (Nat.le_of_ble_eq_true rfl) ?_
      generalize hPo : MK MS FrM σ li gi row od cf ts (isL li (nI a) ∧ isL li (nI b)) (od a + od b) (fun n => (nu_ u * ts a n + nu_ v * ts b n) % 2147483647) = Po
      generalize hs : (fun n => (nu_ u * ts a n + nu_ v * ts b n) % 2147483647) = s at hPo
      have hsP : ∀ n, s n < 2147483647 := fun n => by rw [← hs]; exact Nat.mod_lt _ (by omega)
      refine z_ald0 (q := 1) d_mo_combine_0 rfl ?_
      refine z_ild1 (q := 2) d_mo_combine_1 rfl ?_
      refine z_cV1 (q := 5) d_mo_combine_2 rfl (mt_orderOf_yes h0 h2 (h2' a ha) (by omega) h6 ha) (by first | assumption | omega) (by first | assumption | omega) rfl ck_mo_orderOf lk_mo_86 im_mo_orderOf sl_mo_orderOf ⟨by decide, by decide⟩ (Nat.le_of_ble_eq_true rfl) rfl rfl ?_
      refine z_ald0 (q := 6) d_mo_combine_5 rfl ?_
      refine z_ild2 (q := 7) d_mo_combine_6 rfl ?_
      refine z_cV1 (q := 10) d_mo_combine_7 rfl (mt_orderOf_yes h0 h2 (h2' b hb) (by omega) h6 hb) (by first | assumption | omega) (by first | assumption | omega) rfl ck_mo_orderOf lk_mo_86 im_mo_orderOf sl_mo_orderOf ⟨by decide, by decide⟩ (Nat.le_of_ble_eq_true rfl) rfl rfl ?_
      first | refine zn_iadd (q := 11) d_mo_combine_10 rfl ?_ | refine z_iadd (q := 11) d_mo_combine_10 rfl ?_
      refine z_ist5 (q := 13) d_mo_combine_11 rfl rfl ?_
      refine z_ald0 (q := 14) d_mo_combine_13 rfl ?_
      refine z_ald0 (q := 15) d_mo_combine_14 rfl ?_
      refine z_ild1 (q := 16) d_mo_combine_15 rfl ?_
      refine z_cV1 (q := 19) d_mo_combine_16 rfl (mt_isIn_yes h0 (by omega) h6 ha) (by first | assumption | omega) (by first | assumption | omega) rfl ck_mo_isIn lk_mo_82 im_mo_isIn sl_mo_isIn ⟨by decide, by decide⟩ (Nat.le_of_ble_eq_true rfl) rfl rfl ?_
      refine zi_if_eq (q := 22) (tgt := 34) d_mo_combine_19 rfl (by decide) (by omega) (fun hb9 => absurd hb9 (by omega)) (fun _ => ?_)
      refine z_ald0 (q := 23) d_mo_combine_22 rfl ?_
      refine z_ild2 (q := 24) d_mo_combine_23 rfl ?_
      refine z_cV1 (q := 27) d_mo_combine_24 rfl (mt_isIn_yes h0 (by omega) h6 hb) (by first | assumption | omega) (by first | assumption | omega) rfl ck_mo_isIn lk_mo_82 im_mo_isIn sl_mo_isIn ⟨by decide, by decide⟩ (Nat.le_of_ble_eq_true rfl) rfl rfl ?_
      refine zi_if_eq (q := 30) (tgt := 34) d_mo_combine_27 rfl (by decide) (by omega) (fun hb9 => absurd hb9 (by omega)) (fun _ => ?_)
      refine z_iconst (v := nI 1) (q := 31) d_mo_combine_30 rfl (by decide) ?_
      refine z_goto (tgt := 35) d_mo_combine_31 (by decide) ?_
      refine z_ild5 (q := 37) d_mo_combine_35 rfl ?_
      refine z_cV2 (q := 40) d_mo_combine_37 rfl (mt_refusal h0 (by omega) h6 (by omega)) (by first | assumption | omega) (by first | assumption | omega) rfl ck_mo_refusal lk_mo_89 im_mo_refusal sl_mo_refusal ⟨by decide, by decide⟩ (Nat.le_of_ble_eq_true rfl) rfl rfl ?_
      refine z_ist6 (q := 42) d_mo_combine_40 rfl rfl ?_
      refine z_ild6 (q := 44) d_mo_combine_42 rfl ?_
      by_cases hn : 20 ≤ li ∨ 24 < od a + od b
      · rw [if_pos hn]
        refine z_if_ge (q := 47) (tgt := 50) d_mo_combine_44 rfl (by decide) (fun hb => absurd hb (nf_neg hn)) (fun _ => ?_)
        refine z_ild6 (q := 49) d_mo_combine_47 rfl ?_
        exact z_iret d_mo_combine_49 rfl (Nat.le_refl _) (Nat.le_refl _) (by rw [← hPo]; exact Or.inr (Or.inl ⟨hgood, hn, rfl, rfl, fun _ _ => rfl, hms⟩))
      rw [if_neg hn]
      refine zi_if_ge (tgt := 50) d_mo_combine_44 (by decide) (by omega) ?_
      have hl20 : li < 20 := by omega
      have hB24 : od a + od b ≤ 24 := by omega
      refine z_ald0 (q := 51) d_mo_combine_50 rfl ?_
      refine z_iconst (v := nI 0) (q := 52) d_mo_combine_51 rfl (by decide) ?_
      refine z_ild1 (q := 53) d_mo_combine_52 rfl ?_
      refine z_iconst (v := nI 2) (q := 54) d_mo_combine_53 rfl (by decide) ?_
      refine z_ild5 (q := 56) d_mo_combine_54 rfl ?_
      first | refine zn_imul (q := 57) d_mo_combine_56 rfl ?_ | refine z_imul (q := 57) d_mo_combine_56 rfl ?_
      refine z_cV3v (q := 60) d_mo_combine_57 rfl (mt_expand (at' := 0) (m := 2 * (od a + od b)) hMc' hgt hgtP ha (by omega)) (by first | assumption | omega) (by first | assumption | omega) rfl ck_mo_expand lk_mo_93 im_mo_expand sl_mo_expand ⟨by decide, by decide⟩ (Nat.le_of_ble_eq_true rfl) rfl rfl ?_
      have hGP1 := ex_lt (at' := 0) (x := 2 * (od a + od b)) hSa.2.1 hgtP
      have hGa1 : ∀ i, i < 2 * (od a + od b) → ex_ (ts a) gt 0 (2 * (od a + od b)) i = ts a i := fun i hi => by have := ex_in (s := ts a) (g := gt) (at' := 0) hi; rw [Nat.zero_add] at this; exact this
      generalize ex_ (ts a) gt 0 (2 * (od a + od b)) = G1 at hGP1 hGa1
      have hM1 : MS li gi row od cf ts (va_up σ 83 (zN 2400 G1)) := hms.t hGP1
      have z0 : va_up σ 83 (zN 2400 G1) 78 = zO 5 [.int (nI li), .int (nI gi), .ref 79, .ref 80, .ref 81, .ref 82, .ref 83, .ref 84, .ref 85, .ref 86, .ref 87, .ref 88, .ref 89] := by rw [zu_ne (by omega)]; exact h0
      refine z_ald0 (q := 61) d_mo_combine_60 rfl ?_
      refine z_sipush (v := nI 2200) (q := 64) d_mo_combine_61 rfl (by decide) ?_
      refine z_ild2 (q := 65) d_mo_combine_64 rfl ?_
      refine z_iconst (v := nI 2) (q := 66) d_mo_combine_65 rfl (by decide) ?_
      refine z_ild5 (q := 68) d_mo_combine_66 rfl ?_
      first | refine zn_imul (q := 69) d_mo_combine_68 rfl ?_ | refine z_imul (q := 69) d_mo_combine_68 rfl ?_
      refine z_cV3v (q := 72) d_mo_combine_69 rfl (mt_expand (at' := 2200) (m := 2 * (od a + od b)) hM1.1 zu_same hGP1 hb (by omega)) (by first | assumption | omega) (by first | assumption | omega) rfl ck_mo_expand lk_mo_93 im_mo_expand sl_mo_expand ⟨by decide, by decide⟩ (Nat.le_of_ble_eq_true rfl) rfl rfl ?_
      rw [zu_up]
      have hGP : ∀ j, ex_ (ts b) G1 2200 (2 * (od a + od b)) j < 2147483647 := ex_lt hSb.2.1 hGP1
      have hGa : ∀ i, i < 2 * (od a + od b) → ex_ (ts b) G1 2200 (2 * (od a + od b)) i = ts a i := fun i hi => by rw [ex_out (by omega)]; exact hGa1 i hi
      have hGb : ∀ i, i < 2 * (od a + od b) → ex_ (ts b) G1 2200 (2 * (od a + od b)) (2200 + i) = ts b i := fun i hi => ex_in hi
      generalize ex_ (ts b) G1 2200 (2 * (od a + od b)) = G at hGP hGa hGb
      refine z_ild3 (q := 73) d_mo_combine_72 rfl ?_
      refine z_cS1 (q := 76) d_mo_combine_73 rfl (mt_number 90 _ u) ck_mo_number lk_mo_74 st_mo_number ⟨by decide, by decide⟩ (Nat.le_of_ble_eq_true rfl) rfl rfl ?_
      refine z_lst7 (q := 78) d_mo_combine_76 rfl rfl ?_
      refine z_ild4 (q := 80) d_mo_combine_78 rfl ?_
      refine z_cS1 (q := 83) d_mo_combine_80 rfl (mt_number 90 _ v) ck_mo_number lk_mo_74 st_mo_number ⟨by decide, by decide⟩ (Nat.le_of_ble_eq_true rfl) rfl rfl ?_
      refine z_lst9 (q := 85) d_mo_combine_83 rfl rfl ?_
      refine z_iconst (v := nI 0) (q := 86) d_mo_combine_85 rfl (by decide) ?_
      refine z_ist11 (q := 88) d_mo_combine_86 rfl rfl ?_
      have loop : ∀ (e x : Nat) (t t' t'' : Option Value), x + e = 2 * (od a + od b) → Z m_mo_combine Po 0 0 90 (va_up σ 83 (zN 2400 (ex_ s G 2300 x))) 88 [some (.ref 78), some (.int (nI a)), some (.int (nI b)), some (.int u), some (.int v), some (.int (nI (od a + od b))), some (.int (nI 0)), some (.long (lN (nu_ u))), none, some (.long (lN (nu_ v))), none, some (.int (nI x))] [] := by
        intro e
        induction e with
        | zero =>
          intro x t t' t'' hx
          obtain rfl : x = 2 * (od a + od b) := by omega
          refine z_ild11 (q := 90) d_mo_combine_88 rfl ?_
          refine z_iconst (v := nI 2) (q := 91) d_mo_combine_90 rfl (by decide) ?_
          refine z_ild5 (q := 93) d_mo_combine_91 rfl ?_
          first | refine zn_imul (q := 94) d_mo_combine_93 rfl ?_ | refine z_imul (q := 94) d_mo_combine_93 rfl ?_
          refine zn_icmp_ge (q := 97) (tgt := 153) d_mo_combine_94 rfl (by decide) (by omega) (by omega) (fun hb => ?_) (fun hb => ?_)
          · have y0 : va_up σ 83 (zN 2400 (ex_ s G 2300 (2 * (od a + od b)))) 78 = zO 5 [.int (nI li), .int (nI gi), .ref 79, .ref 80, .ref 81, .ref 82, .ref 83, .ref 84, .ref 85, .ref 86, .ref 87, .ref 88, .ref 89] := by rw [zu_ne (by omega)]; exact h0
            refine z_ald0 (q := 154) d_mo_combine_153 rfl ?_
            refine z_ild5 (q := 156) d_mo_combine_154 rfl ?_
            have hcm := hms.t (g := ex_ s G 2300 (2 * (od a + od b))) (ex_lt hsP hGP)
            refine z_gV1 (q := 159) d_mo_combine_156 rfl (mt_settle hcm (by omega) hB24 zu_same (ex_lt hsP hGP) (fun n hn => ex_in hn) hsP (by rw [← hs]; have := bd_combine fp_inv (ob_of hSa) (ob_of hSb) (ph (nu_ u)) (ph (nu_ v)); simp only [ph_mod, ph_add, ph_mul]; exact this)) (by first | assumption | omega) (by first | assumption | omega) rfl ck_mo_settle lk_mo_78 im_mo_settle sl_mo_settle ⟨by decide, by decide⟩ (Nat.le_of_ble_eq_true rfl) rfl rfl (fun r m τ hp => ?_)
            have hen := EN_frM (σ := σ) (fun j hj => zu_ne (by omega)) hp
            obtain ⟨rfl, -, rfl, -⟩ := hp
            exact z_iret d_mo_combine_159 rfl (Nat.le_refl _) (Nat.le_refl _) (by rw [← hPo]; exact Or.inr (Or.inr ⟨hgood, hl20, hB24, hen⟩))
          · exact absurd hb (by omega)
        | succ e ih =>
          intro x t t' t'' hx
          have y0 : va_up σ 83 (zN 2400 (ex_ s G 2300 x)) 78 = zO 5 [.int (nI li), .int (nI gi), .ref 79, .ref 80, .ref 81, .ref 82, .ref 83, .ref 84, .ref 85, .ref 86, .ref 87, .ref 88, .ref 89] := by rw [zu_ne (by omega)]; exact h0
          have y3 : va_up σ 83 (zN 2400 (ex_ s G 2300 x)) 83 = zN 2400 (ex_ s G 2300 x) := zu_same
          have hra : ∀ i, i < 2 * (od a + od b) → ex_ s G 2300 x i = ts a i := fun i hi => by rw [ex_out (by omega)]; exact hGa i hi
          have hrb : ∀ i, i < 2 * (od a + od b) → ex_ s G 2300 x (2200 + i) = ts b i := fun i hi => by rw [ex_out (by omega)]; exact hGb i hi
          refine z_ild11 (q := 90) d_mo_combine_88 rfl ?_
          refine z_iconst (v := nI 2) (q := 91) d_mo_combine_90 rfl (by decide) ?_
          refine z_ild5 (q := 93) d_mo_combine_91 rfl ?_
          first | refine zn_imul (q := 94) d_mo_combine_93 rfl ?_ | refine z_imul (q := 94) d_mo_combine_93 rfl ?_
          refine zn_icmp_ge (q := 97) (tgt := 153) d_mo_combine_94 rfl (by decide) (by omega) (by omega) (fun hb => ?_) (fun hb => ?_)
          · exact absurd hb (by omega)
          · have q1 := mul_lt (nu_lt u) (hSa.2.1 x)
            have q2 := mul_lt (nu_lt v) (hSb.2.1 x)
            refine z_ald0 (q := 98) d_mo_combine_97 rfl ?_
            refine z_get 6 (q := 101) d_mo_combine_98 rfl fg_mo_23 (by first | assumption | omega) (by first | assumption | omega) (by rfl) ?_
            refine z_sipush (v := nI 2300) (q := 104) d_mo_combine_101 rfl (by decide) ?_
            refine z_ild11 (q := 106) d_mo_combine_104 rfl ?_
            first | refine zn_iadd (q := 107) d_mo_combine_106 rfl ?_ | refine z_iadd (q := 107) d_mo_combine_106 rfl ?_
            refine z_lld7 (q := 109) d_mo_combine_107 rfl ?_
            refine z_ald0 (q := 110) d_mo_combine_109 rfl ?_
            refine z_get 6 (q := 113) d_mo_combine_110 rfl fg_mo_23 (by first | assumption | omega) (by first | assumption | omega) (by rfl) ?_
            refine z_iconst (v := nI 0) (q := 114) d_mo_combine_113 rfl (by decide) ?_
            refine z_ild11 (q := 116) d_mo_combine_114 rfl ?_
            first | refine zn_iadd (q := 117) d_mo_combine_116 rfl ?_ | refine z_iadd (q := 117) d_mo_combine_116 rfl ?_
            refine z_laload (q := 118) d_mo_combine_117 rfl (by first | assumption | omega) (by first | assumption | omega) (by omega) (by omega) ?_
            rw [Nat.zero_add, hra x (by omega)]
            first | refine zn_lmul (q := 119) d_mo_combine_118 rfl ?_ | refine z_lmul (q := 119) d_mo_combine_118 rfl ?_
            refine z_ldc2 (q := 122) d_mo_combine_119 rfl cl_mo_44 ?_
            refine zn_lrem (q := 123) d_mo_combine_122 rfl (by omega) (by omega) (by omega) ?_
            refine z_lld9 (q := 125) d_mo_combine_123 rfl ?_
            refine z_ald0 (q := 126) d_mo_combine_125 rfl ?_
            refine z_get 6 (q := 129) d_mo_combine_126 rfl fg_mo_23 (by first | assumption | omega) (by first | assumption | omega) (by rfl) ?_
            refine z_sipush (v := nI 2200) (q := 132) d_mo_combine_129 rfl (by decide) ?_
            refine z_ild11 (q := 134) d_mo_combine_132 rfl ?_
            first | refine zn_iadd (q := 135) d_mo_combine_134 rfl ?_ | refine z_iadd (q := 135) d_mo_combine_134 rfl ?_
            refine z_laload (q := 136) d_mo_combine_135 rfl (by first | assumption | omega) (by first | assumption | omega) (by omega) (by omega) ?_
            rw [hrb x (by omega)]
            first | refine zn_lmul (q := 137) d_mo_combine_136 rfl ?_ | refine z_lmul (q := 137) d_mo_combine_136 rfl ?_
            refine z_ldc2 (q := 140) d_mo_combine_137 rfl cl_mo_44 ?_
            refine zn_lrem (q := 141) d_mo_combine_140 rfl (by omega) (by omega) (by omega) ?_
            first | refine zn_ladd (q := 142) d_mo_combine_141 rfl ?_ | refine z_ladd (q := 142) d_mo_combine_141 rfl ?_
            refine z_ldc2 (q := 145) d_mo_combine_142 rfl cl_mo_44 ?_
            refine zn_lrem (q := 146) d_mo_combine_145 rfl (by omega) (by omega) (by omega) ?_
            refine z_lastore (q := 147) d_mo_combine_146 rfl (by first | assumption | omega) (by first | assumption | omega) (by omega) (by omega) ?_
            refine zn_iinc11 (d := 1) (q := 150) d_mo_combine_147 rfl rfl ?_
            refine z_goto (tgt := 88) d_mo_combine_150 (by decide) ?_
            refine Z.eqw ?_ (ih (x + 1) t t' t'' (by omega))
            rw [zu_up, ← ex_s, ← hs, ← Nat.add_mod]
      exact (Z.eqw (by rw [ex_0]) (loop (2 * (od a + od b)) 0 none none none (by omega)))
    · obtain ⟨a, ha, rfl⟩ := hj
      refine Ct.of (lv := [some (.ref 78), some (.int (nI a)), some (.int k), some (.int u), some (.int v), none, none, none, none, none, none, none]) 7 (by decide) rfl (Nat.le_of_ble_eq_true rfl) ?_
      refine z_ald0 (q := 1) d_mo_combine_0 rfl ?_
      refine z_ild1 (q := 2) d_mo_combine_1 rfl ?_
      refine z_cV1 (q := 5) d_mo_combine_2 rfl (mt_orderOf_yes h0 h2 (h2' a ha) (by omega) h6 ha) (by first | assumption | omega) (by first | assumption | omega) rfl ck_mo_orderOf lk_mo_86 im_mo_orderOf sl_mo_orderOf ⟨by decide, by decide⟩ (Nat.le_of_ble_eq_true rfl) rfl rfl ?_
      refine z_ald0 (q := 6) d_mo_combine_5 rfl ?_
      refine z_ild2 (q := 7) d_mo_combine_6 rfl ?_
      refine z_cV1 (q := 10) d_mo_combine_7 rfl (mt_orderOf_no h0 (by omega) h6 hk) (by first | assumption | omega) (by first | assumption | omega) rfl ck_mo_orderOf lk_mo_86 im_mo_orderOf sl_mo_orderOf ⟨by decide, by decide⟩ (Nat.le_of_ble_eq_true rfl) rfl rfl ?_
      first | refine zn_iadd (q := 11) d_mo_combine_10 rfl ?_ | refine z_iadd (q := 11) d_mo_combine_10 rfl ?_
      refine z_ist5 (q := 13) d_mo_combine_11 rfl rfl ?_
      refine z_ald0 (q := 14) d_mo_combine_13 rfl ?_
      refine z_ald0 (q := 15) d_mo_combine_14 rfl ?_
      refine z_ild1 (q := 16) d_mo_combine_15 rfl ?_
      refine z_cV1 (q := 19) d_mo_combine_16 rfl (mt_isIn_yes h0 (by omega) h6 ha) (by first | assumption | omega) (by first | assumption | omega) rfl ck_mo_isIn lk_mo_82 im_mo_isIn sl_mo_isIn ⟨by decide, by decide⟩ (Nat.le_of_ble_eq_true rfl) rfl rfl ?_
      refine zi_if_eq (q := 22) (tgt := 34) d_mo_combine_19 rfl (by decide) (by omega) (fun hb9 => absurd hb9 (by omega)) (fun _ => ?_)
      refine z_ald0 (q := 23) d_mo_combine_22 rfl ?_
      refine z_ild2 (q := 24) d_mo_combine_23 rfl ?_
      refine z_cV1 (q := 27) d_mo_combine_24 rfl (mt_isIn_no h0 (by omega) h6 hk) (by first | assumption | omega) (by first | assumption | omega) rfl ck_mo_isIn lk_mo_82 im_mo_isIn sl_mo_isIn ⟨by decide, by decide⟩ (Nat.le_of_ble_eq_true rfl) rfl rfl ?_
      refine zi_if_eq (q := 30) (tgt := 34) d_mo_combine_27 rfl (by decide) (by omega) (fun _ => ?_) (fun hb9 => absurd rfl hb9)
      refine z_iconst (v := nI 0) (q := 35) d_mo_combine_34 rfl (by decide) ?_
      refine z_ild5 (q := 37) d_mo_combine_35 rfl ?_
      refine z_cV2 (q := 40) d_mo_combine_37 rfl (mt_refusal_bad) (by first | assumption | omega) (by first | assumption | omega) rfl ck_mo_refusal lk_mo_89 im_mo_refusal sl_mo_refusal ⟨by decide, by decide⟩ (Nat.le_of_ble_eq_true rfl) rfl rfl ?_
      refine z_ist6 (q := 42) d_mo_combine_40 rfl rfl ?_
      refine z_ild6 (q := 44) d_mo_combine_42 rfl ?_
      refine z_if_ge (q := 47) (tgt := 50) d_mo_combine_44 rfl (by decide) (fun hb => absurd hb (by decide)) (fun _ => ?_)
      refine z_ild6 (q := 49) d_mo_combine_47 rfl ?_
      exact z_iret d_mo_combine_49 rfl (Nat.le_refl _) (Nat.le_refl _) (Or.inl ⟨fun hh => hk hh.2, rfl, rfl, fun _ _ => rfl, hms⟩)
  · by_cases hk : isL li k
    · obtain ⟨b, hb, rfl⟩ := hk
      refine Ct.of (lv := [some (.ref 78), some (.int j), some (.int (nI b)), some (.int u), some (.int v), none, none, none, none, none, none, none]) 7 (by decide) rfl (Nat.le_of_ble_eq_true rfl) ?_
      refine z_ald0 (q := 1) d_mo_combine_0 rfl ?_
      refine z_ild1 (q := 2) d_mo_combine_1 rfl ?_
      refine z_cV1 (q := 5) d_mo_combine_2 rfl (mt_orderOf_no h0 (by omega) h6 hj) (by first | assumption | omega) (by first | assumption | omega) rfl ck_mo_orderOf lk_mo_86 im_mo_orderOf sl_mo_orderOf ⟨by decide, by decide⟩ (Nat.le_of_ble_eq_true rfl) rfl rfl ?_
      refine z_ald0 (q := 6) d_mo_combine_5 rfl ?_
      refine z_ild2 (q := 7) d_mo_combine_6 rfl ?_
      refine z_cV1 (q := 10) d_mo_combine_7 rfl (mt_orderOf_yes h0 h2 (h2' b hb) (by omega) h6 hb) (by first | assumption | omega) (by first | assumption | omega) rfl ck_mo_orderOf lk_mo_86 im_mo_orderOf sl_mo_orderOf ⟨by decide, by decide⟩ (Nat.le_of_ble_eq_true rfl) rfl rfl ?_
      first | refine zn_iadd (q := 11) d_mo_combine_10 rfl ?_ | refine z_iadd (q := 11) d_mo_combine_10 rfl ?_
      refine z_ist5 (q := 13) d_mo_combine_11 rfl rfl ?_
      refine z_ald0 (q := 14) d_mo_combine_13 rfl ?_
      refine z_ald0 (q := 15) d_mo_combine_14 rfl ?_
      refine z_ild1 (q := 16) d_mo_combine_15 rfl ?_
      refine z_cV1 (q := 19) d_mo_combine_16 rfl (mt_isIn_no h0 (by omega) h6 hj) (by first | assumption | omega) (by first | assumption | omega) rfl ck_mo_isIn lk_mo_82 im_mo_isIn sl_mo_isIn ⟨by decide, by decide⟩ (Nat.le_of_ble_eq_true rfl) rfl rfl ?_
      refine zi_if_eq (q := 22) (tgt := 34) d_mo_combine_19 rfl (by decide) (by omega) (fun _ => ?_) (fun hb9 => absurd rfl hb9)
      refine z_iconst (v := nI 0) (q := 35) d_mo_combine_34 rfl (by decide) ?_
      refine z_ild5 (q := 37) d_mo_combine_35 rfl ?_
      refine z_cV2 (q := 40) d_mo_combine_37 rfl (mt_refusal_bad) (by first | assumption | omega) (by first | assumption | omega) rfl ck_mo_refusal lk_mo_89 im_mo_refusal sl_mo_refusal ⟨by decide, by decide⟩ (Nat.le_of_ble_eq_true rfl) rfl rfl ?_
      refine z_ist6 (q := 42) d_mo_combine_40 rfl rfl ?_
      refine z_ild6 (q := 44) d_mo_combine_42 rfl ?_
      refine z_if_ge (q := 47) (tgt := 50) d_mo_combine_44 rfl (by decide) (fun hb => absurd hb (by decide)) (fun _ => ?_)
      refine z_ild6 (q := 49) d_mo_combine_47 rfl ?_
      exact z_iret d_mo_combine_49 rfl (Nat.le_refl _) (Nat.le_refl _) (Or.inl ⟨fun hh => hj hh.1, rfl, rfl, fun _ _ => rfl, hms⟩)
    · refine Ct.of (lv := [some (.ref 78), some (.int j), some (.int k), some (.int u), some (.int v), none, none, none, none, none, none, none]) 7 (by decide) rfl (Nat.le_of_ble_eq_true rfl) ?_
      refine z_ald0 (q := 1) d_mo_combine_0 rfl ?_
      refine z_ild1 (q := 2) d_mo_combine_1 rfl ?_
      refine z_cV1 (q := 5) d_mo_combine_2 rfl (mt_orderOf_no h0 (by omega) h6 hj) (by first | assumption | omega) (by first | assumption | omega) rfl ck_mo_orderOf lk_mo_86 im_mo_orderOf sl_mo_orderOf ⟨by decide, by decide⟩ (Nat.le_of_ble_eq_true rfl) rfl rfl ?_
      refine z_ald0 (q := 6) d_mo_combine_5 rfl ?_
      refine z_ild2 (q := 7) d_mo_combine_6 rfl ?_
      refine z_cV1 (q := 10) d_mo_combine_7 rfl (mt_orderOf_no h0 (by omega) h6 hk) (by first | assumption | omega) (by first | assumption | omega) rfl ck_mo_orderOf lk_mo_86 im_mo_orderOf sl_mo_orderOf ⟨by decide, by decide⟩ (Nat.le_of_ble_eq_true rfl) rfl rfl ?_
      first | refine zn_iadd (q := 11) d_mo_combine_10 rfl ?_ | refine z_iadd (q := 11) d_mo_combine_10 rfl ?_
      refine z_ist5 (q := 13) d_mo_combine_11 rfl rfl ?_
      refine z_ald0 (q := 14) d_mo_combine_13 rfl ?_
      refine z_ald0 (q := 15) d_mo_combine_14 rfl ?_
      refine z_ild1 (q := 16) d_mo_combine_15 rfl ?_
      refine z_cV1 (q := 19) d_mo_combine_16 rfl (mt_isIn_no h0 (by omega) h6 hj) (by first | assumption | omega) (by first | assumption | omega) rfl ck_mo_isIn lk_mo_82 im_mo_isIn sl_mo_isIn ⟨by decide, by decide⟩ (Nat.le_of_ble_eq_true rfl) rfl rfl ?_
      refine zi_if_eq (q := 22) (tgt := 34) d_mo_combine_19 rfl (by decide) (by omega) (fun _ => ?_) (fun hb9 => absurd rfl hb9)
      refine z_iconst (v := nI 0) (q := 35) d_mo_combine_34 rfl (by decide) ?_
      refine z_ild5 (q := 37) d_mo_combine_35 rfl ?_
      refine z_cV2 (q := 40) d_mo_combine_37 rfl (mt_refusal_bad) (by first | assumption | omega) (by first | assumption | omega) rfl ck_mo_refusal lk_mo_89 im_mo_refusal sl_mo_refusal ⟨by decide, by decide⟩ (Nat.le_of_ble_eq_true rfl) rfl rfl ?_
      refine z_ist6 (q := 42) d_mo_combine_40 rfl rfl ?_
      refine z_ild6 (q := 44) d_mo_combine_42 rfl ?_
      refine z_if_ge (q := 47) (tgt := 50) d_mo_combine_44 rfl (by decide) (fun hb => absurd hb (by decide)) (fun _ => ?_)
      refine z_ild6 (q := 49) d_mo_combine_47 rfl ?_
      exact z_iret d_mo_combine_49 rfl (Nat.le_refl _) (Nat.le_refl _) (Or.inl ⟨fun hh => hj hh.1, rfl, rfl, fun _ _ => rfl, hms⟩)
theorem mm_product {σ : zWd} {li gi : Nat} {row od : Nat → Nat} {cf ts : Nat → Nat → Nat} (h : MS li gi row od cf ts σ) (j k : Int32) : Ct m_mo_product [.ref 78, .int j, .int k] 90 σ (MK MS FrM σ li gi row od cf ts (isL li j ∧ isL li k) (od j.toNatClampNeg + od k.toNatClampNeg) (fun n => pd_ (ts j.toNatClampNeg) (ts k.toNatClampNeg) n (n + 1))) := by
  have hms := h
  obtain ⟨hMc, hMs⟩ := h
  have hMc' := hMc
  have hMs' := hMs
  obtain ⟨h0, ⟨h1, h1'⟩, ⟨fo, h2, h2'⟩, ⟨g1, h3, h3', h3''⟩, ⟨g2, h4, h4', h4''⟩, h5, h6, h7⟩ := hMc
  have h0' : σ 78 = zO 5 [.int (nI li), .int (nI gi), .ref 79, .ref 80, .ref 81, .ref 82, .ref 83, .ref 84, .ref 85, .ref 86, .ref 87, .ref 88, .ref 89] := h0
  obtain ⟨⟨gt, hgt, hgtP⟩, -⟩ := hMs
  by_cases hj : isL li j
  · by_cases hk : isL li k
    · obtain ⟨a, ha, rfl⟩ := hj
      obtain ⟨b, hb, rfl⟩ := hk
      rw [nI_clamp (by omega), nI_clamp (by omega)]
      have hSa := h5 a ha
      have hoa := hSa.1
      have hSb := h5 b hb
      have hob := hSb.1

      have hgood : isL li (nI a) ∧ isL li (nI b) := ⟨⟨a, ha, rfl⟩, ⟨b, hb, rfl⟩⟩
      refine Ct.of (lv := [some (.ref 78), some (.int (nI a)), some (.int (nI b)), none, none, none, none, none, none]) 6 (by decide) rfl (Nat.le_of_ble_eq_true rfl) ?_
      generalize hPo : MK MS FrM σ li gi row od cf ts (isL li (nI a) ∧ isL li (nI b)) (od a + od b) (fun n => pd_ (ts a) (ts b) n (n + 1)) = Po
      generalize hs : (fun n => pd_ (ts a) (ts b) n (n + 1)) = s at hPo
      have hsP : ∀ n, s n < 2147483647 := fun n => by rw [← hs]; exact pd_lt _ _ _ _
      refine z_ald0 (q := 1) d_mo_product_0 rfl ?_
      refine z_ild1 (q := 2) d_mo_product_1 rfl ?_
      refine z_cV1 (q := 5) d_mo_product_2 rfl (mt_orderOf_yes h0 h2 (h2' a ha) (by omega) h6 ha) (by first | assumption | omega) (by first | assumption | omega) rfl ck_mo_orderOf lk_mo_86 im_mo_orderOf sl_mo_orderOf ⟨by decide, by decide⟩ (Nat.le_of_ble_eq_true rfl) rfl rfl ?_
      refine z_ald0 (q := 6) d_mo_product_5 rfl ?_
      refine z_ild2 (q := 7) d_mo_product_6 rfl ?_
      refine z_cV1 (q := 10) d_mo_product_7 rfl (mt_orderOf_yes h0 h2 (h2' b hb) (by omega) h6 hb) (by first | assumption | omega) (by first | assumption | omega) rfl ck_mo_orderOf lk_mo_86 im_mo_orderOf sl_mo_orderOf ⟨by decide, by decide⟩ (Nat.le_of_ble_eq_true rfl) rfl rfl ?_
      first | refine zn_iadd (q := 11) d_mo_product_10 rfl ?_ | refine z_iadd (q := 11) d_mo_product_10 rfl ?_
      refine z_ist3 (q := 12) d_mo_product_11 rfl rfl ?_
      refine z_ald0 (q := 13) d_mo_product_12 rfl ?_
      refine z_ald0 (q := 14) d_mo_product_13 rfl ?_
      refine z_ild1 (q := 15) d_mo_product_14 rfl ?_
      refine z_cV1 (q := 18) d_mo_product_15 rfl (mt_isIn_yes h0 (by omega) h6 ha) (by first | assumption | omega) (by first | assumption | omega) rfl ck_mo_isIn lk_mo_82 im_mo_isIn sl_mo_isIn ⟨by decide, by decide⟩ (Nat.le_of_ble_eq_true rfl) rfl rfl ?_
      refine zi_if_eq (q := 21) (tgt := 33) d_mo_product_18 rfl (by decide) (by omega) (fun hb9 => absurd hb9 (by omega)) (fun _ => ?_)
      refine z_ald0 (q := 22) d_mo_product_21 rfl ?_
      refine z_ild2 (q := 23) d_mo_product_22 rfl ?_
      refine z_cV1 (q := 26) d_mo_product_23 rfl (mt_isIn_yes h0 (by omega) h6 hb) (by first | assumption | omega) (by first | assumption | omega) rfl ck_mo_isIn lk_mo_82 im_mo_isIn sl_mo_isIn ⟨by decide, by decide⟩ (Nat.le_of_ble_eq_true rfl) rfl rfl ?_
      refine zi_if_eq (q := 29) (tgt := 33) d_mo_product_26 rfl (by decide) (by omega) (fun hb9 => absurd hb9 (by omega)) (fun _ => ?_)
      refine z_iconst (v := nI 1) (q := 30) d_mo_product_29 rfl (by decide) ?_
      refine z_goto (tgt := 34) d_mo_product_30 (by decide) ?_
      refine z_ild3 (q := 35) d_mo_product_34 rfl ?_
      refine z_cV2 (q := 38) d_mo_product_35 rfl (mt_refusal h0 (by omega) h6 (by omega)) (by first | assumption | omega) (by first | assumption | omega) rfl ck_mo_refusal lk_mo_89 im_mo_refusal sl_mo_refusal ⟨by decide, by decide⟩ (Nat.le_of_ble_eq_true rfl) rfl rfl ?_
      refine z_ist4 (q := 40) d_mo_product_38 rfl rfl ?_
      refine z_ild4 (q := 42) d_mo_product_40 rfl ?_
      by_cases hn : 20 ≤ li ∨ 24 < od a + od b
      · rw [if_pos hn]
        refine z_if_ge (q := 45) (tgt := 48) d_mo_product_42 rfl (by decide) (fun hb => absurd hb (nf_neg hn)) (fun _ => ?_)
        refine z_ild4 (q := 47) d_mo_product_45 rfl ?_
        exact z_iret d_mo_product_47 rfl (Nat.le_refl _) (Nat.le_refl _) (by rw [← hPo]; exact Or.inr (Or.inl ⟨hgood, hn, rfl, rfl, fun _ _ => rfl, hms⟩))
      rw [if_neg hn]
      refine zi_if_ge (tgt := 48) d_mo_product_42 (by decide) (by omega) ?_
      have hl20 : li < 20 := by omega
      have hB24 : od a + od b ≤ 24 := by omega
      refine z_ald0 (q := 49) d_mo_product_48 rfl ?_
      refine z_iconst (v := nI 0) (q := 50) d_mo_product_49 rfl (by decide) ?_
      refine z_ild1 (q := 51) d_mo_product_50 rfl ?_
      refine z_iconst (v := nI 2) (q := 52) d_mo_product_51 rfl (by decide) ?_
      refine z_ild3 (q := 53) d_mo_product_52 rfl ?_
      first | refine zn_imul (q := 54) d_mo_product_53 rfl ?_ | refine z_imul (q := 54) d_mo_product_53 rfl ?_
      refine z_cV3v (q := 57) d_mo_product_54 rfl (mt_expand (at' := 0) (m := 2 * (od a + od b)) hMc' hgt hgtP ha (by omega)) (by first | assumption | omega) (by first | assumption | omega) rfl ck_mo_expand lk_mo_93 im_mo_expand sl_mo_expand ⟨by decide, by decide⟩ (Nat.le_of_ble_eq_true rfl) rfl rfl ?_
      have hGP1 := ex_lt (at' := 0) (x := 2 * (od a + od b)) hSa.2.1 hgtP
      have hGa1 : ∀ i, i < 2 * (od a + od b) → ex_ (ts a) gt 0 (2 * (od a + od b)) i = ts a i := fun i hi => by have := ex_in (s := ts a) (g := gt) (at' := 0) hi; rw [Nat.zero_add] at this; exact this
      generalize ex_ (ts a) gt 0 (2 * (od a + od b)) = G1 at hGP1 hGa1
      have hM1 : MS li gi row od cf ts (va_up σ 83 (zN 2400 G1)) := hms.t hGP1
      have z0 : va_up σ 83 (zN 2400 G1) 78 = zO 5 [.int (nI li), .int (nI gi), .ref 79, .ref 80, .ref 81, .ref 82, .ref 83, .ref 84, .ref 85, .ref 86, .ref 87, .ref 88, .ref 89] := by rw [zu_ne (by omega)]; exact h0
      refine z_ald0 (q := 58) d_mo_product_57 rfl ?_
      refine z_sipush (v := nI 2200) (q := 61) d_mo_product_58 rfl (by decide) ?_
      refine z_ild2 (q := 62) d_mo_product_61 rfl ?_
      refine z_iconst (v := nI 2) (q := 63) d_mo_product_62 rfl (by decide) ?_
      refine z_ild3 (q := 64) d_mo_product_63 rfl ?_
      first | refine zn_imul (q := 65) d_mo_product_64 rfl ?_ | refine z_imul (q := 65) d_mo_product_64 rfl ?_
      refine z_cV3v (q := 68) d_mo_product_65 rfl (mt_expand (at' := 2200) (m := 2 * (od a + od b)) hM1.1 zu_same hGP1 hb (by omega)) (by first | assumption | omega) (by first | assumption | omega) rfl ck_mo_expand lk_mo_93 im_mo_expand sl_mo_expand ⟨by decide, by decide⟩ (Nat.le_of_ble_eq_true rfl) rfl rfl ?_
      rw [zu_up]
      have hGP : ∀ j, ex_ (ts b) G1 2200 (2 * (od a + od b)) j < 2147483647 := ex_lt hSb.2.1 hGP1
      have hGa : ∀ i, i < 2 * (od a + od b) → ex_ (ts b) G1 2200 (2 * (od a + od b)) i = ts a i := fun i hi => by rw [ex_out (by omega)]; exact hGa1 i hi
      have hGb : ∀ i, i < 2 * (od a + od b) → ex_ (ts b) G1 2200 (2 * (od a + od b)) (2200 + i) = ts b i := fun i hi => ex_in hi
      generalize ex_ (ts b) G1 2200 (2 * (od a + od b)) = G at hGP hGa hGb
      refine z_iconst (v := nI 0) (q := 69) d_mo_product_68 rfl (by decide) ?_
      refine z_ist5 (q := 71) d_mo_product_69 rfl rfl ?_
      have loop : ∀ (e x : Nat) (t t' t'' : Option Value), x + e = 2 * (od a + od b) → Z m_mo_product Po 0 0 90 (va_up σ 83 (zN 2400 (ex_ s G 2300 x))) 71 [some (.ref 78), some (.int (nI a)), some (.int (nI b)), some (.int (nI (od a + od b))), some (.int (nI 0)), some (.int (nI x)), t, t', t''] [] := by
        intro e
        induction e with
        | zero =>
          intro x t t' t'' hx
          obtain rfl : x = 2 * (od a + od b) := by omega
          refine z_ild5 (q := 73) d_mo_product_71 rfl ?_
          refine z_iconst (v := nI 2) (q := 74) d_mo_product_73 rfl (by decide) ?_
          refine z_ild3 (q := 75) d_mo_product_74 rfl ?_
          first | refine zn_imul (q := 76) d_mo_product_75 rfl ?_ | refine z_imul (q := 76) d_mo_product_75 rfl ?_
          refine zn_icmp_ge (q := 79) (tgt := 150) d_mo_product_76 rfl (by decide) (by omega) (by omega) (fun hb => ?_) (fun hb => ?_)
          · have y0 : va_up σ 83 (zN 2400 (ex_ s G 2300 (2 * (od a + od b)))) 78 = zO 5 [.int (nI li), .int (nI gi), .ref 79, .ref 80, .ref 81, .ref 82, .ref 83, .ref 84, .ref 85, .ref 86, .ref 87, .ref 88, .ref 89] := by rw [zu_ne (by omega)]; exact h0
            refine z_ald0 (q := 151) d_mo_product_150 rfl ?_
            refine z_ild3 (q := 152) d_mo_product_151 rfl ?_
            have hcm := hms.t (g := ex_ s G 2300 (2 * (od a + od b))) (ex_lt hsP hGP)
            refine z_gV1 (q := 155) d_mo_product_152 rfl (mt_settle hcm (by omega) hB24 zu_same (ex_lt hsP hGP) (fun n hn => ex_in hn) hsP (by rw [← hs]; have := bd_product fp_inv (ob_of hSa) (ob_of hSb); simp only [pd_ph]; exact this)) (by first | assumption | omega) (by first | assumption | omega) rfl ck_mo_settle lk_mo_78 im_mo_settle sl_mo_settle ⟨by decide, by decide⟩ (Nat.le_of_ble_eq_true rfl) rfl rfl (fun r m τ hp => ?_)
            have hen := EN_frM (σ := σ) (fun j hj => zu_ne (by omega)) hp
            obtain ⟨rfl, -, rfl, -⟩ := hp
            exact z_iret d_mo_product_155 rfl (Nat.le_refl _) (Nat.le_refl _) (by rw [← hPo]; exact Or.inr (Or.inr ⟨hgood, hl20, hB24, hen⟩))
          · exact absurd hb (by omega)
        | succ e ih =>
          intro x t t' t'' hx
          have y0 : va_up σ 83 (zN 2400 (ex_ s G 2300 x)) 78 = zO 5 [.int (nI li), .int (nI gi), .ref 79, .ref 80, .ref 81, .ref 82, .ref 83, .ref 84, .ref 85, .ref 86, .ref 87, .ref 88, .ref 89] := by rw [zu_ne (by omega)]; exact h0
          have y3 : va_up σ 83 (zN 2400 (ex_ s G 2300 x)) 83 = zN 2400 (ex_ s G 2300 x) := zu_same
          have hra : ∀ i, i < 2 * (od a + od b) → ex_ s G 2300 x i = ts a i := fun i hi => by rw [ex_out (by omega)]; exact hGa i hi
          have hrb : ∀ i, i < 2 * (od a + od b) → ex_ s G 2300 x (2200 + i) = ts b i := fun i hi => by rw [ex_out (by omega)]; exact hGb i hi
          refine z_ild5 (q := 73) d_mo_product_71 rfl ?_
          refine z_iconst (v := nI 2) (q := 74) d_mo_product_73 rfl (by decide) ?_
          refine z_ild3 (q := 75) d_mo_product_74 rfl ?_
          first | refine zn_imul (q := 76) d_mo_product_75 rfl ?_ | refine z_imul (q := 76) d_mo_product_75 rfl ?_
          refine zn_icmp_ge (q := 79) (tgt := 150) d_mo_product_76 rfl (by decide) (by omega) (by omega) (fun hb => ?_) (fun hb => ?_)
          · exact absurd hb (by omega)
          · have inner : ∀ e2 z, z + e2 = x + 1 → Z m_mo_product Po 0 0 90 (va_up σ 83 (zN 2400 (ex_ s G 2300 x))) 85 [some (.ref 78), some (.int (nI a)), some (.int (nI b)), some (.int (nI (od a + od b))), some (.int (nI 0)), some (.int (nI x)), some (.long (lN (pd_ (ts a) (ts b) x z))), none, some (.int (nI z))] [] := by
              intro e2
              induction e2 with
              | zero =>
                intro z hz
                obtain rfl : z = x + 1 := by omega
                refine z_ild8 (q := 87) d_mo_product_85 rfl ?_
                refine z_ild5 (q := 89) d_mo_product_87 rfl ?_
                refine zn_icmp_gt (q := 92) (tgt := 131) d_mo_product_89 rfl (by decide) (by omega) (by omega) (fun hb => ?_) (fun hb => ?_)
                · refine z_ald0 (q := 132) d_mo_product_131 rfl ?_
                  refine z_get 6 (q := 135) d_mo_product_132 rfl fg_mo_23 (by first | assumption | omega) (by first | assumption | omega) (by rfl) ?_
                  refine z_sipush (v := nI 2300) (q := 138) d_mo_product_135 rfl (by decide) ?_
                  refine z_ild5 (q := 140) d_mo_product_138 rfl ?_
                  first | refine zn_iadd (q := 141) d_mo_product_140 rfl ?_ | refine z_iadd (q := 141) d_mo_product_140 rfl ?_
                  refine z_lld6 (q := 143) d_mo_product_141 rfl ?_
                  refine z_lastore (q := 144) d_mo_product_143 rfl (by first | assumption | omega) (by first | assumption | omega) (by omega) (by omega) ?_
                  refine zn_iinc5 (d := 1) (q := 147) d_mo_product_144 rfl rfl ?_
                  refine z_goto (tgt := 71) d_mo_product_147 (by decide) ?_
                  refine Z.eqw ?_ (ih (x + 1) _ _ _ (by omega))
                  rw [zu_up, ← ex_s, ← hs]
                · exact absurd hb (by omega)
              | succ e2 ih2 =>
                intro z hz
                have q1 := pd_lt (ts a) (ts b) x z
                have q2 := mul_lt (hSa.2.1 z) (hSb.2.1 (x - z))
                refine z_ild8 (q := 87) d_mo_product_85 rfl ?_
                refine z_ild5 (q := 89) d_mo_product_87 rfl ?_
                refine zn_icmp_gt (q := 92) (tgt := 131) d_mo_product_89 rfl (by decide) (by omega) (by omega) (fun hb => ?_) (fun hb => ?_)
                · exact absurd hb (by omega)
                · refine z_lld6 (q := 94) d_mo_product_92 rfl ?_
                  refine z_ald0 (q := 95) d_mo_product_94 rfl ?_
                  refine z_get 6 (q := 98) d_mo_product_95 rfl fg_mo_23 (by first | assumption | omega) (by first | assumption | omega) (by rfl) ?_
                  refine z_iconst (v := nI 0) (q := 99) d_mo_product_98 rfl (by decide) ?_
                  refine z_ild8 (q := 101) d_mo_product_99 rfl ?_
                  first | refine zn_iadd (q := 102) d_mo_product_101 rfl ?_ | refine z_iadd (q := 102) d_mo_product_101 rfl ?_
                  refine z_laload (q := 103) d_mo_product_102 rfl (by first | assumption | omega) (by first | assumption | omega) (by omega) (by omega) ?_
                  rw [Nat.zero_add, hra z (by omega)]
                  refine z_ald0 (q := 104) d_mo_product_103 rfl ?_
                  refine z_get 6 (q := 107) d_mo_product_104 rfl fg_mo_23 (by first | assumption | omega) (by first | assumption | omega) (by rfl) ?_
                  refine z_sipush (v := nI 2200) (q := 110) d_mo_product_107 rfl (by decide) ?_
                  refine z_ild5 (q := 112) d_mo_product_110 rfl ?_
                  first | refine zn_iadd (q := 113) d_mo_product_112 rfl ?_ | refine z_iadd (q := 113) d_mo_product_112 rfl ?_
                  refine z_ild8 (q := 115) d_mo_product_113 rfl ?_
                  first | refine zn_isub (q := 116) d_mo_product_115 rfl (by omega) ?_ | refine z_isub (q := 116) d_mo_product_115 rfl ?_
                  refine z_laload (q := 117) d_mo_product_116 rfl (by first | assumption | omega) (by first | assumption | omega) (by omega) (by omega) ?_
                  rw [show 2200 + x - z = 2200 + (x - z) by omega, hrb (x - z) (by omega)]
                  first | refine zn_lmul (q := 118) d_mo_product_117 rfl ?_ | refine z_lmul (q := 118) d_mo_product_117 rfl ?_
                  first | refine zn_ladd (q := 119) d_mo_product_118 rfl ?_ | refine z_ladd (q := 119) d_mo_product_118 rfl ?_
                  refine z_ldc2 (q := 122) d_mo_product_119 rfl cl_mo_44 ?_
                  refine zn_lrem (q := 123) d_mo_product_122 rfl (by omega) (by omega) (by omega) ?_
                  refine z_lst6 (q := 125) d_mo_product_123 rfl rfl ?_
                  refine zn_iinc8 (d := 1) (q := 128) d_mo_product_125 rfl rfl ?_
                  refine z_goto (tgt := 85) d_mo_product_128 (by decide) ?_
                  exact ih2 (z + 1) (by omega)
            refine z_lconst (v := lN 0) (q := 80) d_mo_product_79 rfl rfl ?_
            refine z_lst6 (q := 82) d_mo_product_80 rfl rfl ?_
            refine z_iconst (v := nI 0) (q := 83) d_mo_product_82 rfl (by decide) ?_
            refine z_ist8 (q := 85) d_mo_product_83 rfl rfl ?_
            exact inner (x + 1) 0 (by omega)
      exact (Z.eqw (by rw [ex_0]) (loop (2 * (od a + od b)) 0 _ _ _ (by omega)))
    · obtain ⟨a, ha, rfl⟩ := hj
      refine Ct.of (lv := [some (.ref 78), some (.int (nI a)), some (.int k), none, none, none, none, none, none]) 6 (by decide) rfl (Nat.le_of_ble_eq_true rfl) ?_
      refine z_ald0 (q := 1) d_mo_product_0 rfl ?_
      refine z_ild1 (q := 2) d_mo_product_1 rfl ?_
      refine z_cV1 (q := 5) d_mo_product_2 rfl (mt_orderOf_yes h0 h2 (h2' a ha) (by omega) h6 ha) (by first | assumption | omega) (by first | assumption | omega) rfl ck_mo_orderOf lk_mo_86 im_mo_orderOf sl_mo_orderOf ⟨by decide, by decide⟩ (Nat.le_of_ble_eq_true rfl) rfl rfl ?_
      refine z_ald0 (q := 6) d_mo_product_5 rfl ?_
      refine z_ild2 (q := 7) d_mo_product_6 rfl ?_
      refine z_cV1 (q := 10) d_mo_product_7 rfl (mt_orderOf_no h0 (by omega) h6 hk) (by first | assumption | omega) (by first | assumption | omega) rfl ck_mo_orderOf lk_mo_86 im_mo_orderOf sl_mo_orderOf ⟨by decide, by decide⟩ (Nat.le_of_ble_eq_true rfl) rfl rfl ?_
      first | refine zn_iadd (q := 11) d_mo_product_10 rfl ?_ | refine z_iadd (q := 11) d_mo_product_10 rfl ?_
      refine z_ist3 (q := 12) d_mo_product_11 rfl rfl ?_
      refine z_ald0 (q := 13) d_mo_product_12 rfl ?_
      refine z_ald0 (q := 14) d_mo_product_13 rfl ?_
      refine z_ild1 (q := 15) d_mo_product_14 rfl ?_
      refine z_cV1 (q := 18) d_mo_product_15 rfl (mt_isIn_yes h0 (by omega) h6 ha) (by first | assumption | omega) (by first | assumption | omega) rfl ck_mo_isIn lk_mo_82 im_mo_isIn sl_mo_isIn ⟨by decide, by decide⟩ (Nat.le_of_ble_eq_true rfl) rfl rfl ?_
      refine zi_if_eq (q := 21) (tgt := 33) d_mo_product_18 rfl (by decide) (by omega) (fun hb9 => absurd hb9 (by omega)) (fun _ => ?_)
      refine z_ald0 (q := 22) d_mo_product_21 rfl ?_
      refine z_ild2 (q := 23) d_mo_product_22 rfl ?_
      refine z_cV1 (q := 26) d_mo_product_23 rfl (mt_isIn_no h0 (by omega) h6 hk) (by first | assumption | omega) (by first | assumption | omega) rfl ck_mo_isIn lk_mo_82 im_mo_isIn sl_mo_isIn ⟨by decide, by decide⟩ (Nat.le_of_ble_eq_true rfl) rfl rfl ?_
      refine zi_if_eq (q := 29) (tgt := 33) d_mo_product_26 rfl (by decide) (by omega) (fun _ => ?_) (fun hb9 => absurd rfl hb9)
      refine z_iconst (v := nI 0) (q := 34) d_mo_product_33 rfl (by decide) ?_
      refine z_ild3 (q := 35) d_mo_product_34 rfl ?_
      refine z_cV2 (q := 38) d_mo_product_35 rfl (mt_refusal_bad) (by first | assumption | omega) (by first | assumption | omega) rfl ck_mo_refusal lk_mo_89 im_mo_refusal sl_mo_refusal ⟨by decide, by decide⟩ (Nat.le_of_ble_eq_true rfl) rfl rfl ?_
      refine z_ist4 (q := 40) d_mo_product_38 rfl rfl ?_
      refine z_ild4 (q := 42) d_mo_product_40 rfl ?_
      refine z_if_ge (q := 45) (tgt := 48) d_mo_product_42 rfl (by decide) (fun hb => absurd hb (by decide)) (fun _ => ?_)
      refine z_ild4 (q := 47) d_mo_product_45 rfl ?_
      exact z_iret d_mo_product_47 rfl (Nat.le_refl _) (Nat.le_refl _) (Or.inl ⟨fun hh => hk hh.2, rfl, rfl, fun _ _ => rfl, hms⟩)
  · by_cases hk : isL li k
    · obtain ⟨b, hb, rfl⟩ := hk
      refine Ct.of (lv := [some (.ref 78), some (.int j), some (.int (nI b)), none, none, none, none, none, none]) 6 (by decide) rfl (Nat.le_of_ble_eq_true rfl) ?_
      refine z_ald0 (q := 1) d_mo_product_0 rfl ?_
      refine z_ild1 (q := 2) d_mo_product_1 rfl ?_
      refine z_cV1 (q := 5) d_mo_product_2 rfl (mt_orderOf_no h0 (by omega) h6 hj) (by first | assumption | omega) (by first | assumption | omega) rfl ck_mo_orderOf lk_mo_86 im_mo_orderOf sl_mo_orderOf ⟨by decide, by decide⟩ (Nat.le_of_ble_eq_true rfl) rfl rfl ?_
      refine z_ald0 (q := 6) d_mo_product_5 rfl ?_
      refine z_ild2 (q := 7) d_mo_product_6 rfl ?_
      refine z_cV1 (q := 10) d_mo_product_7 rfl (mt_orderOf_yes h0 h2 (h2' b hb) (by omega) h6 hb) (by first | assumption | omega) (by first | assumption | omega) rfl ck_mo_orderOf lk_mo_86 im_mo_orderOf sl_mo_orderOf ⟨by decide, by decide⟩ (Nat.le_of_ble_eq_true rfl) rfl rfl ?_
      first | refine zn_iadd (q := 11) d_mo_product_10 rfl ?_ | refine z_iadd (q := 11) d_mo_product_10 rfl ?_
      refine z_ist3 (q := 12) d_mo_product_11 rfl rfl ?_
      refine z_ald0 (q := 13) d_mo_product_12 rfl ?_
      refine z_ald0 (q := 14) d_mo_product_13 rfl ?_
      refine z_ild1 (q := 15) d_mo_product_14 rfl ?_
      refine z_cV1 (q := 18) d_mo_product_15 rfl (mt_isIn_no h0 (by omega) h6 hj) (by first | assumption | omega) (by first | assumption | omega) rfl ck_mo_isIn lk_mo_82 im_mo_isIn sl_mo_isIn ⟨by decide, by decide⟩ (Nat.le_of_ble_eq_true rfl) rfl rfl ?_
      refine zi_if_eq (q := 21) (tgt := 33) d_mo_product_18 rfl (by decide) (by omega) (fun _ => ?_) (fun hb9 => absurd rfl hb9)
      refine z_iconst (v := nI 0) (q := 34) d_mo_product_33 rfl (by decide) ?_
      refine z_ild3 (q := 35) d_mo_product_34 rfl ?_
      refine z_cV2 (q := 38) d_mo_product_35 rfl (mt_refusal_bad) (by first | assumption | omega) (by first | assumption | omega) rfl ck_mo_refusal lk_mo_89 im_mo_refusal sl_mo_refusal ⟨by decide, by decide⟩ (Nat.le_of_ble_eq_true rfl) rfl rfl ?_
      refine z_ist4 (q := 40) d_mo_product_38 rfl rfl ?_
      refine z_ild4 (q := 42) d_mo_product_40 rfl ?_
      refine z_if_ge (q := 45) (tgt := 48) d_mo_product_42 rfl (by decide) (fun hb => absurd hb (by decide)) (fun _ => ?_)
      refine z_ild4 (q := 47) d_mo_product_45 rfl ?_
      exact z_iret d_mo_product_47 rfl (Nat.le_refl _) (Nat.le_refl _) (Or.inl ⟨fun hh => hj hh.1, rfl, rfl, fun _ _ => rfl, hms⟩)
    · refine Ct.of (lv := [some (.ref 78), some (.int j), some (.int k), none, none, none, none, none, none]) 6 (by decide) rfl (Nat.le_of_ble_eq_true rfl) ?_
      refine z_ald0 (q := 1) d_mo_product_0 rfl ?_
      refine z_ild1 (q := 2) d_mo_product_1 rfl ?_
      refine z_cV1 (q := 5) d_mo_product_2 rfl (mt_orderOf_no h0 (by omega) h6 hj) (by first | assumption | omega) (by first | assumption | omega) rfl ck_mo_orderOf lk_mo_86 im_mo_orderOf sl_mo_orderOf ⟨by decide, by decide⟩ (Nat.le_of_ble_eq_true rfl) rfl rfl ?_
      refine z_ald0 (q := 6) d_mo_product_5 rfl ?_
      refine z_ild2 (q := 7) d_mo_product_6 rfl ?_
      refine z_cV1 (q := 10) d_mo_product_7 rfl (mt_orderOf_no h0 (by omega) h6 hk) (by first | assumption | omega) (by first | assumption | omega) rfl ck_mo_orderOf lk_mo_86 im_mo_orderOf sl_mo_orderOf ⟨by decide, by decide⟩ (Nat.le_of_ble_eq_true rfl) rfl rfl ?_
      first | refine zn_iadd (q := 11) d_mo_product_10 rfl ?_ | refine z_iadd (q := 11) d_mo_product_10 rfl ?_
      refine z_ist3 (q := 12) d_mo_product_11 rfl rfl ?_
      refine z_ald0 (q := 13) d_mo_product_12 rfl ?_
      refine z_ald0 (q := 14) d_mo_product_13 rfl ?_
      refine z_ild1 (q := 15) d_mo_product_14 rfl ?_
      refine z_cV1 (q := 18) d_mo_product_15 rfl (mt_isIn_no h0 (by omega) h6 hj) (by first | assumption | omega) (by first | assumption | omega) rfl ck_mo_isIn lk_mo_82 im_mo_isIn sl_mo_isIn ⟨by decide, by decide⟩ (Nat.le_of_ble_eq_true rfl) rfl rfl ?_
      refine zi_if_eq (q := 21) (tgt := 33) d_mo_product_18 rfl (by decide) (by omega) (fun _ => ?_) (fun hb9 => absurd rfl hb9)
      refine z_iconst (v := nI 0) (q := 34) d_mo_product_33 rfl (by decide) ?_
      refine z_ild3 (q := 35) d_mo_product_34 rfl ?_
      refine z_cV2 (q := 38) d_mo_product_35 rfl (mt_refusal_bad) (by first | assumption | omega) (by first | assumption | omega) rfl ck_mo_refusal lk_mo_89 im_mo_refusal sl_mo_refusal ⟨by decide, by decide⟩ (Nat.le_of_ble_eq_true rfl) rfl rfl ?_
      refine z_ist4 (q := 40) d_mo_product_38 rfl rfl ?_
      refine z_ild4 (q := 42) d_mo_product_40 rfl ?_
      refine z_if_ge (q := 45) (tgt := 48) d_mo_product_42 rfl (by decide) (fun hb => absurd hb (by decide)) (fun _ => ?_)
      refine z_ild4 (q := 47) d_mo_product_45 rfl ?_
      exact z_iret d_mo_product_47 rfl (Nat.le_refl _) (Nat.le_refl _) (Or.inl ⟨fun hh => hj hh.1, rfl, rfl, fun _ _ => rfl, hms⟩)
theorem mm_pairwise {σ : zWd} {li gi : Nat} {row od : Nat → Nat} {cf ts : Nat → Nat → Nat} (h : MS li gi row od cf ts σ) (j k : Int32) : Ct m_mo_pairwise [.ref 78, .int j, .int k] 90 σ (MK MS FrM σ li gi row od cf ts (isL li j ∧ isL li k) (od j.toNatClampNeg * od k.toNatClampNeg) (fun n => ts j.toNatClampNeg n * ts k.toNatClampNeg n % 2147483647)) := by
  have hms := h
  obtain ⟨hMc, hMs⟩ := h
  have hMc' := hMc
  have hMs' := hMs
  obtain ⟨h0, ⟨h1, h1'⟩, ⟨fo, h2, h2'⟩, ⟨g1, h3, h3', h3''⟩, ⟨g2, h4, h4', h4''⟩, h5, h6, h7⟩ := hMc
  have h0' : σ 78 = zO 5 [.int (nI li), .int (nI gi), .ref 79, .ref 80, .ref 81, .ref 82, .ref 83, .ref 84, .ref 85, .ref 86, .ref 87, .ref 88, .ref 89] := h0
  obtain ⟨⟨gt, hgt, hgtP⟩, -⟩ := hMs
  by_cases hj : isL li j
  · by_cases hk : isL li k
    · obtain ⟨a, ha, rfl⟩ := hj
      obtain ⟨b, hb, rfl⟩ := hk
      rw [nI_clamp (by omega), nI_clamp (by omega)]
      have hSa := h5 a ha
      have hoa := hSa.1
      have hSb := h5 b hb
      have hob := hSb.1
      have hab : od a * od b ≤ 24 * 24 := Nat.mul_le_mul hoa hob
      have hgood : isL li (nI a) ∧ isL li (nI b) := ⟨⟨a, ha, rfl⟩, ⟨b, hb, rfl⟩⟩
      refine Ct.of (lv := [some (.ref 78), some (.int (nI a)), some (.int (nI b)), none, none, none]) 3 (by decide) rfl (Nat.le_of_ble_eq_true rfl) ?_
      generalize hPo : MK MS FrM σ li gi row od cf ts (isL li (nI a) ∧ isL li (nI b)) (od a * od b) (fun n => ts a n * ts b n % 2147483647) = Po
      generalize hs : (fun n => ts a n * ts b n % 2147483647) = s at hPo
      have hsP : ∀ n, s n < 2147483647 := fun n => by rw [← hs]; exact Nat.mod_lt _ (by omega)
      refine z_ald0 (q := 1) d_mo_pairwise_0 rfl ?_
      refine z_ild1 (q := 2) d_mo_pairwise_1 rfl ?_
      refine z_cV1 (q := 5) d_mo_pairwise_2 rfl (mt_orderOf_yes h0 h2 (h2' a ha) (by omega) h6 ha) (by first | assumption | omega) (by first | assumption | omega) rfl ck_mo_orderOf lk_mo_86 im_mo_orderOf sl_mo_orderOf ⟨by decide, by decide⟩ (Nat.le_of_ble_eq_true rfl) rfl rfl ?_
      refine z_ald0 (q := 6) d_mo_pairwise_5 rfl ?_
      refine z_ild2 (q := 7) d_mo_pairwise_6 rfl ?_
      refine z_cV1 (q := 10) d_mo_pairwise_7 rfl (mt_orderOf_yes h0 h2 (h2' b hb) (by omega) h6 hb) (by first | assumption | omega) (by first | assumption | omega) rfl ck_mo_orderOf lk_mo_86 im_mo_orderOf sl_mo_orderOf ⟨by decide, by decide⟩ (Nat.le_of_ble_eq_true rfl) rfl rfl ?_
      first | refine zn_imul (q := 11) d_mo_pairwise_10 rfl ?_ | refine z_imul (q := 11) d_mo_pairwise_10 rfl ?_
      refine z_ist3 (q := 12) d_mo_pairwise_11 rfl rfl ?_
      refine z_ald0 (q := 13) d_mo_pairwise_12 rfl ?_
      refine z_ald0 (q := 14) d_mo_pairwise_13 rfl ?_
      refine z_ild1 (q := 15) d_mo_pairwise_14 rfl ?_
      refine z_cV1 (q := 18) d_mo_pairwise_15 rfl (mt_isIn_yes h0 (by omega) h6 ha) (by first | assumption | omega) (by first | assumption | omega) rfl ck_mo_isIn lk_mo_82 im_mo_isIn sl_mo_isIn ⟨by decide, by decide⟩ (Nat.le_of_ble_eq_true rfl) rfl rfl ?_
      refine zi_if_eq (q := 21) (tgt := 33) d_mo_pairwise_18 rfl (by decide) (by omega) (fun hb9 => absurd hb9 (by omega)) (fun _ => ?_)
      refine z_ald0 (q := 22) d_mo_pairwise_21 rfl ?_
      refine z_ild2 (q := 23) d_mo_pairwise_22 rfl ?_
      refine z_cV1 (q := 26) d_mo_pairwise_23 rfl (mt_isIn_yes h0 (by omega) h6 hb) (by first | assumption | omega) (by first | assumption | omega) rfl ck_mo_isIn lk_mo_82 im_mo_isIn sl_mo_isIn ⟨by decide, by decide⟩ (Nat.le_of_ble_eq_true rfl) rfl rfl ?_
      refine zi_if_eq (q := 29) (tgt := 33) d_mo_pairwise_26 rfl (by decide) (by omega) (fun hb9 => absurd hb9 (by omega)) (fun _ => ?_)
      refine z_iconst (v := nI 1) (q := 30) d_mo_pairwise_29 rfl (by decide) ?_
      refine z_goto (tgt := 34) d_mo_pairwise_30 (by decide) ?_
      refine z_ild3 (q := 35) d_mo_pairwise_34 rfl ?_
      refine z_cV2 (q := 38) d_mo_pairwise_35 rfl (mt_refusal h0 (by omega) h6 (by omega)) (by first | assumption | omega) (by first | assumption | omega) rfl ck_mo_refusal lk_mo_89 im_mo_refusal sl_mo_refusal ⟨by decide, by decide⟩ (Nat.le_of_ble_eq_true rfl) rfl rfl ?_
      refine z_ist4 (q := 40) d_mo_pairwise_38 rfl rfl ?_
      refine z_ild4 (q := 42) d_mo_pairwise_40 rfl ?_
      by_cases hn : 20 ≤ li ∨ 24 < od a * od b
      · rw [if_pos hn]
        refine z_if_ge (q := 45) (tgt := 48) d_mo_pairwise_42 rfl (by decide) (fun hb => absurd hb (nf_neg hn)) (fun _ => ?_)
        refine z_ild4 (q := 47) d_mo_pairwise_45 rfl ?_
        exact z_iret d_mo_pairwise_47 rfl (Nat.le_refl _) (Nat.le_refl _) (by rw [← hPo]; exact Or.inr (Or.inl ⟨hgood, hn, rfl, rfl, fun _ _ => rfl, hms⟩))
      rw [if_neg hn]
      refine zi_if_ge (tgt := 48) d_mo_pairwise_42 (by decide) (by omega) ?_
      have hl20 : li < 20 := by omega
      have hB24 : od a * od b ≤ 24 := by omega
      refine z_ald0 (q := 49) d_mo_pairwise_48 rfl ?_
      refine z_iconst (v := nI 0) (q := 50) d_mo_pairwise_49 rfl (by decide) ?_
      refine z_ild1 (q := 51) d_mo_pairwise_50 rfl ?_
      refine z_iconst (v := nI 2) (q := 52) d_mo_pairwise_51 rfl (by decide) ?_
      refine z_ild3 (q := 53) d_mo_pairwise_52 rfl ?_
      first | refine zn_imul (q := 54) d_mo_pairwise_53 rfl ?_ | refine z_imul (q := 54) d_mo_pairwise_53 rfl ?_
      refine z_cV3v (q := 57) d_mo_pairwise_54 rfl (mt_expand (at' := 0) (m := 2 * (od a * od b)) hMc' hgt hgtP ha (by omega)) (by first | assumption | omega) (by first | assumption | omega) rfl ck_mo_expand lk_mo_93 im_mo_expand sl_mo_expand ⟨by decide, by decide⟩ (Nat.le_of_ble_eq_true rfl) rfl rfl ?_
      have hGP1 := ex_lt (at' := 0) (x := 2 * (od a * od b)) hSa.2.1 hgtP
      have hGa1 : ∀ i, i < 2 * (od a * od b) → ex_ (ts a) gt 0 (2 * (od a * od b)) i = ts a i := fun i hi => by have := ex_in (s := ts a) (g := gt) (at' := 0) hi; rw [Nat.zero_add] at this; exact this
      generalize ex_ (ts a) gt 0 (2 * (od a * od b)) = G1 at hGP1 hGa1
      have hM1 : MS li gi row od cf ts (va_up σ 83 (zN 2400 G1)) := hms.t hGP1
      have z0 : va_up σ 83 (zN 2400 G1) 78 = zO 5 [.int (nI li), .int (nI gi), .ref 79, .ref 80, .ref 81, .ref 82, .ref 83, .ref 84, .ref 85, .ref 86, .ref 87, .ref 88, .ref 89] := by rw [zu_ne (by omega)]; exact h0
      refine z_ald0 (q := 58) d_mo_pairwise_57 rfl ?_
      refine z_sipush (v := nI 2200) (q := 61) d_mo_pairwise_58 rfl (by decide) ?_
      refine z_ild2 (q := 62) d_mo_pairwise_61 rfl ?_
      refine z_iconst (v := nI 2) (q := 63) d_mo_pairwise_62 rfl (by decide) ?_
      refine z_ild3 (q := 64) d_mo_pairwise_63 rfl ?_
      first | refine zn_imul (q := 65) d_mo_pairwise_64 rfl ?_ | refine z_imul (q := 65) d_mo_pairwise_64 rfl ?_
      refine z_cV3v (q := 68) d_mo_pairwise_65 rfl (mt_expand (at' := 2200) (m := 2 * (od a * od b)) hM1.1 zu_same hGP1 hb (by omega)) (by first | assumption | omega) (by first | assumption | omega) rfl ck_mo_expand lk_mo_93 im_mo_expand sl_mo_expand ⟨by decide, by decide⟩ (Nat.le_of_ble_eq_true rfl) rfl rfl ?_
      rw [zu_up]
      have hGP : ∀ j, ex_ (ts b) G1 2200 (2 * (od a * od b)) j < 2147483647 := ex_lt hSb.2.1 hGP1
      have hGa : ∀ i, i < 2 * (od a * od b) → ex_ (ts b) G1 2200 (2 * (od a * od b)) i = ts a i := fun i hi => by rw [ex_out (by omega)]; exact hGa1 i hi
      have hGb : ∀ i, i < 2 * (od a * od b) → ex_ (ts b) G1 2200 (2 * (od a * od b)) (2200 + i) = ts b i := fun i hi => ex_in hi
      generalize ex_ (ts b) G1 2200 (2 * (od a * od b)) = G at hGP hGa hGb
      refine z_iconst (v := nI 0) (q := 69) d_mo_pairwise_68 rfl (by decide) ?_
      refine z_ist5 (q := 71) d_mo_pairwise_69 rfl rfl ?_
      have loop : ∀ (e x : Nat) (t t' t'' : Option Value), x + e = 2 * (od a * od b) → Z m_mo_pairwise Po 0 0 90 (va_up σ 83 (zN 2400 (ex_ s G 2300 x))) 71 [some (.ref 78), some (.int (nI a)), some (.int (nI b)), some (.int (nI (od a * od b))), some (.int (nI 0)), some (.int (nI x))] [] := by
        intro e
        induction e with
        | zero =>
          intro x t t' t'' hx
          obtain rfl : x = 2 * (od a * od b) := by omega
          refine z_ild5 (q := 73) d_mo_pairwise_71 rfl ?_
          refine z_iconst (v := nI 2) (q := 74) d_mo_pairwise_73 rfl (by decide) ?_
          refine z_ild3 (q := 75) d_mo_pairwise_74 rfl ?_
          first | refine zn_imul (q := 76) d_mo_pairwise_75 rfl ?_ | refine z_imul (q := 76) d_mo_pairwise_75 rfl ?_
          refine zn_icmp_ge (q := 79) (tgt := 121) d_mo_pairwise_76 rfl (by decide) (by omega) (by omega) (fun hb => ?_) (fun hb => ?_)
          · have y0 : va_up σ 83 (zN 2400 (ex_ s G 2300 (2 * (od a * od b)))) 78 = zO 5 [.int (nI li), .int (nI gi), .ref 79, .ref 80, .ref 81, .ref 82, .ref 83, .ref 84, .ref 85, .ref 86, .ref 87, .ref 88, .ref 89] := by rw [zu_ne (by omega)]; exact h0
            refine z_ald0 (q := 122) d_mo_pairwise_121 rfl ?_
            refine z_ild3 (q := 123) d_mo_pairwise_122 rfl ?_
            have hcm := hms.t (g := ex_ s G 2300 (2 * (od a * od b))) (ex_lt hsP hGP)
            refine z_gV1 (q := 126) d_mo_pairwise_123 rfl (mt_settle hcm (by omega) hB24 zu_same (ex_lt hsP hGP) (fun n hn => ex_in hn) hsP (by rw [← hs]; have := bd_pairwise fp_inv (ob_of hSa) (ob_of hSb); simp only [ph_mod, ph_mul]; exact this)) (by first | assumption | omega) (by first | assumption | omega) rfl ck_mo_settle lk_mo_78 im_mo_settle sl_mo_settle ⟨by decide, by decide⟩ (Nat.le_of_ble_eq_true rfl) rfl rfl (fun r m τ hp => ?_)
            have hen := EN_frM (σ := σ) (fun j hj => zu_ne (by omega)) hp
            obtain ⟨rfl, -, rfl, -⟩ := hp
            exact z_iret d_mo_pairwise_126 rfl (Nat.le_refl _) (Nat.le_refl _) (by rw [← hPo]; exact Or.inr (Or.inr ⟨hgood, hl20, hB24, hen⟩))
          · exact absurd hb (by omega)
        | succ e ih =>
          intro x t t' t'' hx
          have y0 : va_up σ 83 (zN 2400 (ex_ s G 2300 x)) 78 = zO 5 [.int (nI li), .int (nI gi), .ref 79, .ref 80, .ref 81, .ref 82, .ref 83, .ref 84, .ref 85, .ref 86, .ref 87, .ref 88, .ref 89] := by rw [zu_ne (by omega)]; exact h0
          have y3 : va_up σ 83 (zN 2400 (ex_ s G 2300 x)) 83 = zN 2400 (ex_ s G 2300 x) := zu_same
          have hra : ∀ i, i < 2 * (od a * od b) → ex_ s G 2300 x i = ts a i := fun i hi => by rw [ex_out (by omega)]; exact hGa i hi
          have hrb : ∀ i, i < 2 * (od a * od b) → ex_ s G 2300 x (2200 + i) = ts b i := fun i hi => by rw [ex_out (by omega)]; exact hGb i hi
          refine z_ild5 (q := 73) d_mo_pairwise_71 rfl ?_
          refine z_iconst (v := nI 2) (q := 74) d_mo_pairwise_73 rfl (by decide) ?_
          refine z_ild3 (q := 75) d_mo_pairwise_74 rfl ?_
          first | refine zn_imul (q := 76) d_mo_pairwise_75 rfl ?_ | refine z_imul (q := 76) d_mo_pairwise_75 rfl ?_
          refine zn_icmp_ge (q := 79) (tgt := 121) d_mo_pairwise_76 rfl (by decide) (by omega) (by omega) (fun hb => ?_) (fun hb => ?_)
          · exact absurd hb (by omega)
          · have q1 := mul_lt (hSa.2.1 x) (hSb.2.1 x)
            refine z_ald0 (q := 80) d_mo_pairwise_79 rfl ?_
            refine z_get 6 (q := 83) d_mo_pairwise_80 rfl fg_mo_23 (by first | assumption | omega) (by first | assumption | omega) (by rfl) ?_
            refine z_sipush (v := nI 2300) (q := 86) d_mo_pairwise_83 rfl (by decide) ?_
            refine z_ild5 (q := 88) d_mo_pairwise_86 rfl ?_
            first | refine zn_iadd (q := 89) d_mo_pairwise_88 rfl ?_ | refine z_iadd (q := 89) d_mo_pairwise_88 rfl ?_
            refine z_ald0 (q := 90) d_mo_pairwise_89 rfl ?_
            refine z_get 6 (q := 93) d_mo_pairwise_90 rfl fg_mo_23 (by first | assumption | omega) (by first | assumption | omega) (by rfl) ?_
            refine z_iconst (v := nI 0) (q := 94) d_mo_pairwise_93 rfl (by decide) ?_
            refine z_ild5 (q := 96) d_mo_pairwise_94 rfl ?_
            first | refine zn_iadd (q := 97) d_mo_pairwise_96 rfl ?_ | refine z_iadd (q := 97) d_mo_pairwise_96 rfl ?_
            refine z_laload (q := 98) d_mo_pairwise_97 rfl (by first | assumption | omega) (by first | assumption | omega) (by omega) (by omega) ?_
            rw [Nat.zero_add, hra x (by omega)]
            refine z_ald0 (q := 99) d_mo_pairwise_98 rfl ?_
            refine z_get 6 (q := 102) d_mo_pairwise_99 rfl fg_mo_23 (by first | assumption | omega) (by first | assumption | omega) (by rfl) ?_
            refine z_sipush (v := nI 2200) (q := 105) d_mo_pairwise_102 rfl (by decide) ?_
            refine z_ild5 (q := 107) d_mo_pairwise_105 rfl ?_
            first | refine zn_iadd (q := 108) d_mo_pairwise_107 rfl ?_ | refine z_iadd (q := 108) d_mo_pairwise_107 rfl ?_
            refine z_laload (q := 109) d_mo_pairwise_108 rfl (by first | assumption | omega) (by first | assumption | omega) (by omega) (by omega) ?_
            rw [hrb x (by omega)]
            first | refine zn_lmul (q := 110) d_mo_pairwise_109 rfl ?_ | refine z_lmul (q := 110) d_mo_pairwise_109 rfl ?_
            refine z_ldc2 (q := 113) d_mo_pairwise_110 rfl cl_mo_44 ?_
            refine zn_lrem (q := 114) d_mo_pairwise_113 rfl (by omega) (by omega) (by omega) ?_
            refine z_lastore (q := 115) d_mo_pairwise_114 rfl (by first | assumption | omega) (by first | assumption | omega) (by omega) (by omega) ?_
            refine zn_iinc5 (d := 1) (q := 118) d_mo_pairwise_115 rfl rfl ?_
            refine z_goto (tgt := 71) d_mo_pairwise_118 (by decide) ?_
            refine Z.eqw ?_ (ih (x + 1) t t' t'' (by omega))
            rw [zu_up, ← ex_s, ← hs]
      exact (Z.eqw (by rw [ex_0]) (loop (2 * (od a * od b)) 0 none none none (by omega)))
    · obtain ⟨a, ha, rfl⟩ := hj
      refine Ct.of (lv := [some (.ref 78), some (.int (nI a)), some (.int k), none, none, none]) 3 (by decide) rfl (Nat.le_of_ble_eq_true rfl) ?_
      refine z_ald0 (q := 1) d_mo_pairwise_0 rfl ?_
      refine z_ild1 (q := 2) d_mo_pairwise_1 rfl ?_
      refine z_cV1 (q := 5) d_mo_pairwise_2 rfl (mt_orderOf_yes h0 h2 (h2' a ha) (by omega) h6 ha) (by first | assumption | omega) (by first | assumption | omega) rfl ck_mo_orderOf lk_mo_86 im_mo_orderOf sl_mo_orderOf ⟨by decide, by decide⟩ (Nat.le_of_ble_eq_true rfl) rfl rfl ?_
      refine z_ald0 (q := 6) d_mo_pairwise_5 rfl ?_
      refine z_ild2 (q := 7) d_mo_pairwise_6 rfl ?_
      refine z_cV1 (q := 10) d_mo_pairwise_7 rfl (mt_orderOf_no h0 (by omega) h6 hk) (by first | assumption | omega) (by first | assumption | omega) rfl ck_mo_orderOf lk_mo_86 im_mo_orderOf sl_mo_orderOf ⟨by decide, by decide⟩ (Nat.le_of_ble_eq_true rfl) rfl rfl ?_
      first | refine zn_imul (q := 11) d_mo_pairwise_10 rfl ?_ | refine z_imul (q := 11) d_mo_pairwise_10 rfl ?_
      refine z_ist3 (q := 12) d_mo_pairwise_11 rfl rfl ?_
      refine z_ald0 (q := 13) d_mo_pairwise_12 rfl ?_
      refine z_ald0 (q := 14) d_mo_pairwise_13 rfl ?_
      refine z_ild1 (q := 15) d_mo_pairwise_14 rfl ?_
      refine z_cV1 (q := 18) d_mo_pairwise_15 rfl (mt_isIn_yes h0 (by omega) h6 ha) (by first | assumption | omega) (by first | assumption | omega) rfl ck_mo_isIn lk_mo_82 im_mo_isIn sl_mo_isIn ⟨by decide, by decide⟩ (Nat.le_of_ble_eq_true rfl) rfl rfl ?_
      refine zi_if_eq (q := 21) (tgt := 33) d_mo_pairwise_18 rfl (by decide) (by omega) (fun hb9 => absurd hb9 (by omega)) (fun _ => ?_)
      refine z_ald0 (q := 22) d_mo_pairwise_21 rfl ?_
      refine z_ild2 (q := 23) d_mo_pairwise_22 rfl ?_
      refine z_cV1 (q := 26) d_mo_pairwise_23 rfl (mt_isIn_no h0 (by omega) h6 hk) (by first | assumption | omega) (by first | assumption | omega) rfl ck_mo_isIn lk_mo_82 im_mo_isIn sl_mo_isIn ⟨by decide, by decide⟩ (Nat.le_of_ble_eq_true rfl) rfl rfl ?_
      refine zi_if_eq (q := 29) (tgt := 33) d_mo_pairwise_26 rfl (by decide) (by omega) (fun _ => ?_) (fun hb9 => absurd rfl hb9)
      refine z_iconst (v := nI 0) (q := 34) d_mo_pairwise_33 rfl (by decide) ?_
      refine z_ild3 (q := 35) d_mo_pairwise_34 rfl ?_
      refine z_cV2 (q := 38) d_mo_pairwise_35 rfl (mt_refusal_bad) (by first | assumption | omega) (by first | assumption | omega) rfl ck_mo_refusal lk_mo_89 im_mo_refusal sl_mo_refusal ⟨by decide, by decide⟩ (Nat.le_of_ble_eq_true rfl) rfl rfl ?_
      refine z_ist4 (q := 40) d_mo_pairwise_38 rfl rfl ?_
      refine z_ild4 (q := 42) d_mo_pairwise_40 rfl ?_
      refine z_if_ge (q := 45) (tgt := 48) d_mo_pairwise_42 rfl (by decide) (fun hb => absurd hb (by decide)) (fun _ => ?_)
      refine z_ild4 (q := 47) d_mo_pairwise_45 rfl ?_
      exact z_iret d_mo_pairwise_47 rfl (Nat.le_refl _) (Nat.le_refl _) (Or.inl ⟨fun hh => hk hh.2, rfl, rfl, fun _ _ => rfl, hms⟩)
  · by_cases hk : isL li k
    · obtain ⟨b, hb, rfl⟩ := hk
      refine Ct.of (lv := [some (.ref 78), some (.int j), some (.int (nI b)), none, none, none]) 3 (by decide) rfl (Nat.le_of_ble_eq_true rfl) ?_
      refine z_ald0 (q := 1) d_mo_pairwise_0 rfl ?_
      refine z_ild1 (q := 2) d_mo_pairwise_1 rfl ?_
      refine z_cV1 (q := 5) d_mo_pairwise_2 rfl (mt_orderOf_no h0 (by omega) h6 hj) (by first | assumption | omega) (by first | assumption | omega) rfl ck_mo_orderOf lk_mo_86 im_mo_orderOf sl_mo_orderOf ⟨by decide, by decide⟩ (Nat.le_of_ble_eq_true rfl) rfl rfl ?_
      refine z_ald0 (q := 6) d_mo_pairwise_5 rfl ?_
      refine z_ild2 (q := 7) d_mo_pairwise_6 rfl ?_
      refine z_cV1 (q := 10) d_mo_pairwise_7 rfl (mt_orderOf_yes h0 h2 (h2' b hb) (by omega) h6 hb) (by first | assumption | omega) (by first | assumption | omega) rfl ck_mo_orderOf lk_mo_86 im_mo_orderOf sl_mo_orderOf ⟨by decide, by decide⟩ (Nat.le_of_ble_eq_true rfl) rfl rfl ?_
      first | refine zn_imul (q := 11) d_mo_pairwise_10 rfl ?_ | refine z_imul (q := 11) d_mo_pairwise_10 rfl ?_
      refine z_ist3 (q := 12) d_mo_pairwise_11 rfl rfl ?_
      refine z_ald0 (q := 13) d_mo_pairwise_12 rfl ?_
      refine z_ald0 (q := 14) d_mo_pairwise_13 rfl ?_
      refine z_ild1 (q := 15) d_mo_pairwise_14 rfl ?_
      refine z_cV1 (q := 18) d_mo_pairwise_15 rfl (mt_isIn_no h0 (by omega) h6 hj) (by first | assumption | omega) (by first | assumption | omega) rfl ck_mo_isIn lk_mo_82 im_mo_isIn sl_mo_isIn ⟨by decide, by decide⟩ (Nat.le_of_ble_eq_true rfl) rfl rfl ?_
      refine zi_if_eq (q := 21) (tgt := 33) d_mo_pairwise_18 rfl (by decide) (by omega) (fun _ => ?_) (fun hb9 => absurd rfl hb9)
      refine z_iconst (v := nI 0) (q := 34) d_mo_pairwise_33 rfl (by decide) ?_
      refine z_ild3 (q := 35) d_mo_pairwise_34 rfl ?_
      refine z_cV2 (q := 38) d_mo_pairwise_35 rfl (mt_refusal_bad) (by first | assumption | omega) (by first | assumption | omega) rfl ck_mo_refusal lk_mo_89 im_mo_refusal sl_mo_refusal ⟨by decide, by decide⟩ (Nat.le_of_ble_eq_true rfl) rfl rfl ?_
      refine z_ist4 (q := 40) d_mo_pairwise_38 rfl rfl ?_
      refine z_ild4 (q := 42) d_mo_pairwise_40 rfl ?_
      refine z_if_ge (q := 45) (tgt := 48) d_mo_pairwise_42 rfl (by decide) (fun hb => absurd hb (by decide)) (fun _ => ?_)
      refine z_ild4 (q := 47) d_mo_pairwise_45 rfl ?_
      exact z_iret d_mo_pairwise_47 rfl (Nat.le_refl _) (Nat.le_refl _) (Or.inl ⟨fun hh => hj hh.1, rfl, rfl, fun _ _ => rfl, hms⟩)
    · refine Ct.of (lv := [some (.ref 78), some (.int j), some (.int k), none, none, none]) 3 (by decide) rfl (Nat.le_of_ble_eq_true rfl) ?_
      refine z_ald0 (q := 1) d_mo_pairwise_0 rfl ?_
      refine z_ild1 (q := 2) d_mo_pairwise_1 rfl ?_
      refine z_cV1 (q := 5) d_mo_pairwise_2 rfl (mt_orderOf_no h0 (by omega) h6 hj) (by first | assumption | omega) (by first | assumption | omega) rfl ck_mo_orderOf lk_mo_86 im_mo_orderOf sl_mo_orderOf ⟨by decide, by decide⟩ (Nat.le_of_ble_eq_true rfl) rfl rfl ?_
      refine z_ald0 (q := 6) d_mo_pairwise_5 rfl ?_
      refine z_ild2 (q := 7) d_mo_pairwise_6 rfl ?_
      refine z_cV1 (q := 10) d_mo_pairwise_7 rfl (mt_orderOf_no h0 (by omega) h6 hk) (by first | assumption | omega) (by first | assumption | omega) rfl ck_mo_orderOf lk_mo_86 im_mo_orderOf sl_mo_orderOf ⟨by decide, by decide⟩ (Nat.le_of_ble_eq_true rfl) rfl rfl ?_
      first | refine zn_imul (q := 11) d_mo_pairwise_10 rfl ?_ | refine z_imul (q := 11) d_mo_pairwise_10 rfl ?_
      refine z_ist3 (q := 12) d_mo_pairwise_11 rfl rfl ?_
      refine z_ald0 (q := 13) d_mo_pairwise_12 rfl ?_
      refine z_ald0 (q := 14) d_mo_pairwise_13 rfl ?_
      refine z_ild1 (q := 15) d_mo_pairwise_14 rfl ?_
      refine z_cV1 (q := 18) d_mo_pairwise_15 rfl (mt_isIn_no h0 (by omega) h6 hj) (by first | assumption | omega) (by first | assumption | omega) rfl ck_mo_isIn lk_mo_82 im_mo_isIn sl_mo_isIn ⟨by decide, by decide⟩ (Nat.le_of_ble_eq_true rfl) rfl rfl ?_
      refine zi_if_eq (q := 21) (tgt := 33) d_mo_pairwise_18 rfl (by decide) (by omega) (fun _ => ?_) (fun hb9 => absurd rfl hb9)
      refine z_iconst (v := nI 0) (q := 34) d_mo_pairwise_33 rfl (by decide) ?_
      refine z_ild3 (q := 35) d_mo_pairwise_34 rfl ?_
      refine z_cV2 (q := 38) d_mo_pairwise_35 rfl (mt_refusal_bad) (by first | assumption | omega) (by first | assumption | omega) rfl ck_mo_refusal lk_mo_89 im_mo_refusal sl_mo_refusal ⟨by decide, by decide⟩ (Nat.le_of_ble_eq_true rfl) rfl rfl ?_
      refine z_ist4 (q := 40) d_mo_pairwise_38 rfl rfl ?_
      refine z_ild4 (q := 42) d_mo_pairwise_40 rfl ?_
      refine z_if_ge (q := 45) (tgt := 48) d_mo_pairwise_42 rfl (by decide) (fun hb => absurd hb (by decide)) (fun _ => ?_)
      refine z_ild4 (q := 47) d_mo_pairwise_45 rfl ?_
      exact z_iret d_mo_pairwise_47 rfl (Nat.le_refl _) (Nat.le_refl _) (Or.inl ⟨fun hh => hj hh.1, rfl, rfl, fun _ _ => rfl, hms⟩)

