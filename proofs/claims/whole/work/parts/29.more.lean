/-! spread, section and leaf of the class -/
theorem cc_spread {σ : zWd} {li gi : Nat} {row od : Nat → Nat} {cf ts : Nat → Nat → Nat} (h : CS li gi row od cf ts σ) (j m : Int32) : Ct m_rs_spread [.ref 0, .int j, .int m] 90 σ (MK CS FrC σ li gi row od cf ts (isL li j ∧ isR 1 24 m) (m.toNatClampNeg * od j.toNatClampNeg) (fun n => if n % m.toNatClampNeg = 0 then ts j.toNatClampNeg (n / m.toNatClampNeg) else 0)) := by
  have hcs := h
  obtain ⟨h0, ⟨f, hf1, hf2⟩, ⟨h2, h2'⟩, ⟨g3, h3, h3P⟩, ⟨g4, h4, h4P⟩, hFI, hSK, hDV, h8, h9, h10, h11, h12⟩ := h
  have h0' : σ 0 = zO 0 [.ref 1, .ref 2, .ref 3, .ref 4, .ref 5, .ref 9, .ref 15, .int (nI li), .int (nI gi)] := h0
  by_cases hj : isL li j
  · by_cases hm : isR 1 24 m
    · have hgood : isL li j ∧ isR 1 24 m := ⟨hj, hm⟩
      obtain ⟨a, ha, rfl⟩ := hj
      obtain ⟨b, hb1, hb2, rfl⟩ := hm
      rw [nI_clamp (by omega), nI_clamp (by omega)]
      obtain ⟨ca, fa, ⟨a1, a2, a3, a4, a5⟩, a6, a7⟩ := h9 a ha
      have hSa := h10 a ha
      have hfa := hf2 a (by omega)
      have hoa := hSa.1
      have hab : b * od a ≤ 24 * 24 := Nat.mul_le_mul hb2 hoa
      refine Ct.of (lv := [some (.ref 0), some (.int (nI a)), some (.int (nI b)), none, none, none, none]) 4 (by decide) rfl (Nat.le_of_ble_eq_true rfl) ?_
      generalize hPo : MK CS FrC σ li gi row od cf ts (isL li (nI a) ∧ isR 1 24 (nI b)) (b * od a) (fun n => if n % b = 0 then ts a (n / b) else 0) = Po
      generalize hs : (fun n => if n % b = 0 then ts a (n / b) else 0) = s at hPo
      have hsP : ∀ n, s n < 2147483647 := fun n => by
        rw [← hs]; dsimp only; split
        · exact hSa.2.1 _
        · omega
      refine z_ald0 (q := 1) d_rs_spread_0 rfl ?_
      refine z_ild1 (q := 2) d_rs_spread_1 rfl ?_
      refine z_cV1 (q := 5) d_rs_spread_2 rfl (ct_isListed_yes h0 (by omega) h11 ha) (by first | assumption | omega) (by first | assumption | omega) rfl ck_rs_isListed lk_rs_75 im_rs_isListed sl_rs_isListed ⟨by decide, by decide⟩ (Nat.le_of_ble_eq_true rfl) rfl rfl ?_
      refine zi_if_eq (q := 8) (tgt := 19) d_rs_spread_5 rfl (by decide) (by omega) (fun hb => absurd hb (by omega)) (fun _ => ?_)
      refine z_ild2 (q := 9) d_rs_spread_8 rfl ?_
      refine z_iconst (v := nI 1) (q := 10) d_rs_spread_9 rfl (by decide) ?_
      refine zn_icmp_lt (q := 13) (tgt := 19) d_rs_spread_10 rfl (by decide) (by omega) (by omega) (fun hb => absurd hb (by omega)) (fun _ => ?_)
      refine z_ild2 (q := 14) d_rs_spread_13 rfl ?_
      refine z_bipush (v := nI 24) (q := 16) d_rs_spread_14 rfl (by decide) ?_
      refine zn_icmp_le (q := 19) (tgt := 21) d_rs_spread_16 rfl (by decide) (by omega) (by omega) (fun _ => ?_) (fun hb => absurd hb2 hb)
      refine z_ald0 (q := 22) d_rs_spread_21 rfl ?_
      refine z_get 0 (q := 25) d_rs_spread_22 rfl fg_rs_11 (by first | assumption | omega) (by first | assumption | omega) (by rfl) ?_
      refine z_ild1 (q := 26) d_rs_spread_25 rfl ?_
      refine z_aaload (q := 27) d_rs_spread_26 rfl (by first | assumption | omega) (by first | assumption | omega) (by omega) (by omega) (by first | assumption | omega) ?_
      refine z_ast3 (q := 28) d_rs_spread_27 rfl rfl ?_
      refine z_ild2 (q := 29) d_rs_spread_28 rfl ?_
      refine z_ald3 (q := 30) d_rs_spread_29 rfl ?_
      refine z_get 0 (q := 33) d_rs_spread_30 rfl fg_rs_78 (by first | assumption | omega) (by first | assumption | omega) (by rfl) ?_
      first | refine zn_imul (q := 34) d_rs_spread_33 rfl ?_ | refine z_imul (q := 34) d_rs_spread_33 rfl ?_
      refine z_ist4 (q := 36) d_rs_spread_34 rfl rfl ?_
      refine z_ald0 (q := 37) d_rs_spread_36 rfl ?_
      refine z_ild4 (q := 39) d_rs_spread_37 rfl ?_
      refine z_cV1 (q := 42) d_rs_spread_39 rfl (ct_numberFor h0 (by omega) h11 (by omega)) (by first | assumption | omega) (by first | assumption | omega) rfl ck_rs_numberFor lk_rs_60 im_rs_numberFor sl_rs_numberFor ⟨by decide, by decide⟩ (Nat.le_of_ble_eq_true rfl) rfl rfl ?_
      refine z_ist5 (q := 44) d_rs_spread_42 rfl rfl ?_
      refine z_ild5 (q := 46) d_rs_spread_44 rfl ?_
      by_cases hn : 20 ≤ li ∨ 24 < b * od a
      · refine z_if_ge (q := 49) (tgt := 52) d_rs_spread_46 rfl (by decide) (fun hb => absurd hb (nf_neg hn)) (fun _ => ?_)
        refine z_ild5 (q := 51) d_rs_spread_49 rfl ?_
        exact z_iret d_rs_spread_51 rfl (Nat.le_refl _) (Nat.le_refl _) (by rw [← hPo]; exact Or.inr (Or.inl ⟨hgood, hn, rfl, rfl, fun _ _ => rfl, hcs⟩))
      rw [nf_pos (by omega) (by omega)]
      refine zi_if_ge (tgt := 52) d_rs_spread_46 (by decide) (by omega) ?_
      have hl20 : li < 20 := by omega
      have hB24 : b * od a ≤ 24 := by omega
      refine z_iconst (v := nI 0) (q := 53) d_rs_spread_52 rfl (by decide) ?_
      refine z_ist6 (q := 55) d_rs_spread_53 rfl rfl ?_
      have loop : ∀ e x, x + e = 2 * (b * od a) → Z m_rs_spread Po 0 0 90 (va_up σ 3 (zN 48 (fl_ s g3 x))) 55 [some (.ref 0), some (.int (nI a)), some (.int (nI b)), some (.ref (18 + 3 * a)), some (.int (nI (b * od a))), some (.int (nI li)), some (.int (nI x))] [] := by
        intro e
        induction e with
        | zero =>
          intro x hx
          obtain rfl : x = 2 * (b * od a) := by omega
          refine z_ild6 (q := 57) d_rs_spread_55 rfl ?_
          refine z_iconst (v := nI 2) (q := 58) d_rs_spread_57 rfl (by decide) ?_
          refine z_ild4 (q := 60) d_rs_spread_58 rfl ?_
          first | refine zn_imul (q := 61) d_rs_spread_60 rfl ?_ | refine z_imul (q := 61) d_rs_spread_60 rfl ?_
          refine zn_icmp_ge (q := 64) (tgt := 97) d_rs_spread_61 rfl (by decide) (by omega) (by omega) (fun hb => ?_) (fun hb => ?_)
          · have y0 : va_up σ 3 (zN 48 (fl_ s g3 (2 * (b * od a)))) 0 = zO 0 [.ref 1, .ref 2, .ref 3, .ref 4, .ref 5, .ref 9, .ref 15, .int (nI li), .int (nI gi)] := by rw [zu_ne (by omega)]; exact h0
            refine z_ald0 (q := 98) d_rs_spread_97 rfl ?_
            refine z_ild4 (q := 100) d_rs_spread_98 rfl ?_
            have hcm := hcs.made (g := fl_ s g3 (2 * (b * od a))) (fl_lt hsP h3P)
            refine z_gV1 (q := 103) d_rs_spread_100 rfl (ct_enlist hcm (by omega) hB24 zu_same (fl_lt hsP h3P) (fun j hj => fl_lo (by omega)) hsP (by rw [← hs]; obtain ⟨c9, hc9⟩ := bd_spread (ob_of hSa) b (by omega); refine ⟨b * od a, Nat.le_refl _, c9, ?_⟩; rw [Nat.mul_comm b (od a)]; have e9 : (fun n => ph (if n % b = 0 then ts a (n / b) else 0)) = (fun n => if n % b = 0 then ph (ts a (n / b)) else 0) := funext (fun n => by split <;> rfl); rw [e9]; exact hc9)) (by first | assumption | omega) (by first | assumption | omega) rfl ck_rs_enlist lk_rs_72 im_rs_enlist sl_rs_enlist ⟨by decide, by decide⟩ (Nat.le_of_ble_eq_true rfl) rfl rfl (fun r m τ hp => ?_)
            have hen := EN_made (σ := σ) (fun j hj => zu_ne (by omega)) hp
            obtain ⟨rfl, -, rfl, -⟩ := hp
            exact z_iret d_rs_spread_103 rfl (Nat.le_refl _) (Nat.le_refl _) (by rw [← hPo]; exact Or.inr (Or.inr ⟨hgood, hl20, hB24, hen⟩))
          · exact absurd hb (by omega)
        | succ e ih =>
          intro x hx
          have y0 : va_up σ 3 (zN 48 (fl_ s g3 x)) 0 = zO 0 [.ref 1, .ref 2, .ref 3, .ref 4, .ref 5, .ref 9, .ref 15, .int (nI li), .int (nI gi)] := by rw [zu_ne (by omega)]; exact h0
          have y3 : va_up σ 3 (zN 48 (fl_ s g3 x)) 3 = zN 48 (fl_ s g3 x) := zu_same
          have ya : va_up σ 3 (zN 48 (fl_ s g3 x)) (18 + 3 * a) = zO 1 [.int (nI (od a)), .ref (19 + 3 * a), .ref (20 + 3 * a)] := by rw [zu_ne (by omega)]; exact a1
          have yt : va_up σ 3 (zN 48 (fl_ s g3 x)) (20 + 3 * a) = zN 88 fa := by rw [zu_ne (by omega)]; exact a3
          have hmod : x % b < b := Nat.mod_lt _ (by omega)
          have hdiv : x / b ≤ x := Nat.div_le_self _ _
          refine z_ild6 (q := 57) d_rs_spread_55 rfl ?_
          refine z_iconst (v := nI 2) (q := 58) d_rs_spread_57 rfl (by decide) ?_
          refine z_ild4 (q := 60) d_rs_spread_58 rfl ?_
          first | refine zn_imul (q := 61) d_rs_spread_60 rfl ?_ | refine z_imul (q := 61) d_rs_spread_60 rfl ?_
          refine zn_icmp_ge (q := 64) (tgt := 97) d_rs_spread_61 rfl (by decide) (by omega) (by omega) (fun hb => ?_) (fun hb => ?_)
          · exact absurd hb (by omega)
          · refine z_ald0 (q := 65) d_rs_spread_64 rfl ?_
            refine z_get 2 (q := 68) d_rs_spread_65 rfl fg_rs_19 (by first | assumption | omega) (by first | assumption | omega) (by rfl) ?_
            refine z_ild6 (q := 70) d_rs_spread_68 rfl ?_
            refine z_ild6 (q := 72) d_rs_spread_70 rfl ?_
            refine z_ild2 (q := 73) d_rs_spread_72 rfl ?_
            refine zn_irem (q := 74) d_rs_spread_73 rfl (by omega) (by omega) (by omega) ?_
            refine zi_if_ne (q := 77) (tgt := 89) d_rs_spread_74 rfl (by decide) (by omega) (fun hb3 => ?_) (fun hb3 => ?_)
            · refine z_lconst (v := lN 0) (q := 90) d_rs_spread_89 rfl rfl ?_
              refine z_lastore (q := 91) d_rs_spread_90 rfl (by first | assumption | omega) (by first | assumption | omega) (by omega) (by omega) ?_
              refine zn_iinc6 (d := 1) (q := 94) d_rs_spread_91 rfl rfl ?_
              refine z_goto (tgt := 55) d_rs_spread_94 (by decide) ?_
              refine Z.eqw ?_ (ih (x + 1) (by omega))
              rw [zu_up, ← fl_s, ← hs]
              dsimp only
              rw [if_neg hb3]
            · refine z_ald3 (q := 78) d_rs_spread_77 rfl ?_
              refine z_get 2 (q := 81) d_rs_spread_78 rfl fg_rs_81 (by first | assumption | omega) (by first | assumption | omega) (by rfl) ?_
              refine z_ild6 (q := 83) d_rs_spread_81 rfl ?_
              refine z_ild2 (q := 84) d_rs_spread_83 rfl ?_
              refine zn_idiv (q := 85) d_rs_spread_84 rfl (by omega) (by omega) (by omega) ?_
              refine z_laload (q := 86) d_rs_spread_85 rfl (by first | assumption | omega) (by first | assumption | omega) (by omega) (by omega) ?_
              refine z_goto (tgt := 90) d_rs_spread_86 (by decide) ?_
              refine z_lastore (q := 91) d_rs_spread_90 rfl (by first | assumption | omega) (by first | assumption | omega) (by omega) (by omega) ?_
              refine zn_iinc6 (d := 1) (q := 94) d_rs_spread_91 rfl rfl ?_
              refine z_goto (tgt := 55) d_rs_spread_94 (by decide) ?_
              refine Z.eqw ?_ (ih (x + 1) (by omega))
              rw [zu_up, ← fl_s, ← hs]
              dsimp only
              rw [if_pos hb3, a7 (x / b) (by omega)]
      exact (Z.eqw (by rw [fl_0]; exact zu_id h3) (loop (2 * (b * od a)) 0 (by omega)))
    · obtain ⟨a, ha, rfl⟩ := hj
      refine Ct.of (lv := [some (.ref 0), some (.int (nI a)), some (.int m), none, none, none, none]) 4 (by decide) rfl (Nat.le_of_ble_eq_true rfl) ?_
      have bad : Z m_rs_spread (MK CS FrC σ li gi row od cf ts (isL li (nI a) ∧ isR 1 24 m) (m.toNatClampNeg * od (nI a).toNatClampNeg) (fun n => if n % m.toNatClampNeg = 0 then ts (nI a).toNatClampNeg (n / m.toNatClampNeg) else 0)) 0 0 90 σ 19 [some (.ref 0), some (.int (nI a)), some (.int m), none, none, none, none] [] := by
        refine z_iconst (v := (-1)) (q := 20) d_rs_spread_19 rfl (by decide) ?_
        exact z_iret d_rs_spread_20 rfl (Nat.le_refl _) (Nat.le_refl _) (Or.inl ⟨fun hh => hm hh.2, rfl, rfl, fun _ _ => rfl, hcs⟩)
      refine z_ald0 (q := 1) d_rs_spread_0 rfl ?_
      refine z_ild1 (q := 2) d_rs_spread_1 rfl ?_
      refine z_cV1 (q := 5) d_rs_spread_2 rfl (ct_isListed_yes h0 (by omega) h11 ha) (by first | assumption | omega) (by first | assumption | omega) rfl ck_rs_isListed lk_rs_75 im_rs_isListed sl_rs_isListed ⟨by decide, by decide⟩ (Nat.le_of_ble_eq_true rfl) rfl rfl ?_
      refine zi_if_eq (q := 8) (tgt := 19) d_rs_spread_5 rfl (by decide) (by omega) (fun hb => absurd hb (by omega)) (fun _ => ?_)
      refine z_ild2 (q := 9) d_rs_spread_8 rfl ?_
      refine z_iconst (v := nI 1) (q := 10) d_rs_spread_9 rfl (by decide) ?_
      refine z_icmp_lt (q := 13) (tgt := 19) d_rs_spread_10 rfl (by decide) (fun _ => bad) (fun hb1 => ?_)
      refine z_ild2 (q := 14) d_rs_spread_13 rfl ?_
      refine z_bipush (v := nI 24) (q := 16) d_rs_spread_14 rfl (by decide) ?_
      exact z_icmp_le (q := 19) (tgt := 21) d_rs_spread_16 rfl (by decide) (fun hb2 => absurd (isR_of (by decide) hb1 hb2 (by decide)) hm) (fun _ => bad)
  · refine Ct.of (lv := [some (.ref 0), some (.int j), some (.int m), none, none, none, none]) 4 (by decide) rfl (Nat.le_of_ble_eq_true rfl) ?_
    refine z_ald0 (q := 1) d_rs_spread_0 rfl ?_
    refine z_ild1 (q := 2) d_rs_spread_1 rfl ?_
    refine z_cV1 (q := 5) d_rs_spread_2 rfl (ct_isListed_no h0 (by omega) h11 hj) (by first | assumption | omega) (by first | assumption | omega) rfl ck_rs_isListed lk_rs_75 im_rs_isListed sl_rs_isListed ⟨by decide, by decide⟩ (Nat.le_of_ble_eq_true rfl) rfl rfl ?_
    refine zi_if_eq (q := 8) (tgt := 19) d_rs_spread_5 rfl (by decide) (by omega) (fun _ => ?_) (fun hb => absurd rfl hb)
    refine z_iconst (v := (-1)) (q := 20) d_rs_spread_19 rfl (by decide) ?_
    exact z_iret d_rs_spread_20 rfl (Nat.le_refl _) (Nat.le_refl _) (Or.inl ⟨fun hh => hj hh.1, rfl, rfl, fun _ _ => rfl, hcs⟩)
/-- no terms are written -/
theorem ct_writeNone {n : Nat} {σ : zWd} {i v : Nat} {x : Int32} (hx : x < 0) : Ct m_se_writeTerms [.ref i, .ref v, .int x] n σ (zEq none n σ) := by
  refine Ct.of (lv := [some (.ref i), some (.ref v), some (.int x), none]) 1 (by decide) rfl (Nat.le_of_ble_eq_true rfl) ?_
  refine z_iconst (v := nI 0) (q := 1) d_se_writeTerms_0 rfl (by decide) ?_
  refine z_ist3 (q := 2) d_se_writeTerms_1 rfl rfl ?_
  refine z_ild3 (q := 3) d_se_writeTerms_2 rfl ?_
  refine z_ild2 (q := 4) d_se_writeTerms_3 rfl ?_
  refine z_icmp_ge (q := 7) (tgt := 46) d_se_writeTerms_4 rfl (by decide) (fun hb => ?_) (fun hb => ?_)
  · exact z_vret d_se_writeTerms_46 rfl (Nat.le_refl _) (Nat.le_refl _) ⟨rfl, rfl, rfl⟩
  · exfalso
    rw [Int32.le_iff_toInt_le] at hb
    rw [Int32.lt_iff_toInt_lt] at hx
    have e0 : (nI 0).toInt = 0 := nI_toInt (by decide)
    have e1 : (0 : Int32).toInt = 0 := by decide
    omega
theorem zr_len {m i : Nat} (hm1 : 1 ≤ m) (hm : m ≤ 24) (hi : i ≤ 1000) : (m ≤ i + 1 ∧ nI m * (nI 0 - nI 1) + nI i + nI 1 = nI (i + 1 - m)) ∨ (i + 1 < m ∧ nI m * (nI 0 - nI 1) + nI i + nI 1 < 0) := by
  have em : (nI m).toInt = (m : Int) := nI_toInt (by omega)
  have ei : (nI i).toInt = (i : Int) := nI_toInt (by omega)
  have e1 : (nI 1).toInt = 1 := nI_toInt (by decide)
  have e2 : (nI 0 - nI 1).toInt = -1 := by decide
  have e3 : (nI m * (nI 0 - nI 1)).toInt = -(m : Int) := by rw [Jvm.Kit.i32_mul (by rw [em, e2]; omega) (by rw [em, e2]; omega), em, e2]; omega
  have e4 : (nI m * (nI 0 - nI 1) + nI i).toInt = -(m : Int) + i := by rw [Jvm.Kit.i32_add (by rw [e3, ei]; omega) (by rw [e3, ei]; omega), e3, ei]
  have e5 : (nI m * (nI 0 - nI 1) + nI i + nI 1).toInt = -(m : Int) + i + 1 := by rw [Jvm.Kit.i32_add (by rw [e4, e1]; omega) (by rw [e4, e1]; omega), e4, e1]
  by_cases h : m ≤ i + 1
  · refine Or.inl ⟨h, Int32.toInt_inj.mp ?_⟩
    rw [e5, nI_toInt (by omega)]
    omega
  · refine Or.inr ⟨by omega, ?_⟩
    rw [Int32.lt_iff_toInt_lt, e5]
    have e0 : (0 : Int32).toInt = 0 := by decide
    omega
theorem cc_section {σ : zWd} {li gi : Nat} {row od : Nat → Nat} {cf ts : Nat → Nat → Nat} (h : CS li gi row od cf ts σ) (j m i : Int32) : Ct m_rs_section [.ref 0, .int j, .int m, .int i] 90 σ (MK CS FrC σ li gi row od cf ts (isL li j ∧ isR 1 24 m ∧ isR 0 1000 i) (od j.toNatClampNeg) (fun n => ts j.toNatClampNeg (m.toNatClampNeg * n + i.toNatClampNeg))) := by
  have hcs := h
  obtain ⟨h0, ⟨f, hf1, hf2⟩, ⟨h2, h2'⟩, ⟨g3, h3, h3P⟩, ⟨g4, h4, h4P⟩, hFI, hSK, hDV, h8, h9, h10, h11, h12⟩ := h
  have h0' : σ 0 = zO 0 [.ref 1, .ref 2, .ref 3, .ref 4, .ref 5, .ref 9, .ref 15, .int (nI li), .int (nI gi)] := h0
  have bad : ¬ (isL li j ∧ isR 1 24 m ∧ isR 0 1000 i) → Z m_rs_section (MK CS FrC σ li gi row od cf ts (isL li j ∧ isR 1 24 m ∧ isR 0 1000 i) (od j.toNatClampNeg) (fun n => ts j.toNatClampNeg (m.toNatClampNeg * n + i.toNatClampNeg))) 0 0 90 σ 30 [some (.ref 0), some (.int j), some (.int m), some (.int i), none, none, none, none] [] := by
    intro hbad
    refine z_iconst (v := (-1)) (q := 31) d_rs_section_30 rfl (by decide) ?_
    exact z_iret d_rs_section_31 rfl (Nat.le_refl _) (Nat.le_refl _) (Or.inl ⟨hbad, rfl, rfl, fun _ _ => rfl, hcs⟩)
  by_cases hj : isL li j
  · by_cases hm : isR 1 24 m
    · by_cases hi : isR 0 1000 i
      · have hgood : isL li j ∧ isR 1 24 m ∧ isR 0 1000 i := ⟨hj, hm, hi⟩
        clear bad
        obtain ⟨a, ha, rfl⟩ := hj
        obtain ⟨b, hb1, hb2, rfl⟩ := hm
        obtain ⟨i, hi1, hi2, rfl⟩ := hi
        rw [nI_clamp (by omega), nI_clamp (by omega), nI_clamp (by omega)]
        obtain ⟨ca, fa, ⟨a1, a2, a3, a4, a5⟩, a6, a7⟩ := h9 a ha
        have hSa := h10 a ha
        have hfa := hf2 a (by omega)
        have hoa := hSa.1
        refine Ct.of (lv := [some (.ref 0), some (.int (nI a)), some (.int (nI b)), some (.int (nI i)), none, none, none, none]) 4 (by decide) rfl (Nat.le_of_ble_eq_true rfl) ?_
        generalize hPo : MK CS FrC σ li gi row od cf ts (isL li (nI a) ∧ isR 1 24 (nI b) ∧ isR 0 1000 (nI i)) (od a) (fun n => ts a (b * n + i)) = Po
        generalize hs : (fun n => ts a (b * n + i)) = s at hPo
        have hsP : ∀ n, s n < 2147483647 := fun n => by rw [← hs]; exact hSa.2.1 _
        refine z_ald0 (q := 1) d_rs_section_0 rfl ?_
        refine z_ild1 (q := 2) d_rs_section_1 rfl ?_
        refine z_cV1 (q := 5) d_rs_section_2 rfl (ct_isListed_yes h0 (by omega) h11 ha) (by first | assumption | omega) (by first | assumption | omega) rfl ck_rs_isListed lk_rs_75 im_rs_isListed sl_rs_isListed ⟨by decide, by decide⟩ (Nat.le_of_ble_eq_true rfl) rfl rfl ?_
        refine zi_if_eq (q := 8) (tgt := 30) d_rs_section_5 rfl (by decide) (by omega) (fun hb => absurd hb (by omega)) (fun _ => ?_)
        refine z_ild2 (q := 9) d_rs_section_8 rfl ?_
        refine z_iconst (v := nI 1) (q := 10) d_rs_section_9 rfl (by decide) ?_
        refine zn_icmp_lt (q := 13) (tgt := 30) d_rs_section_10 rfl (by decide) (by omega) (by omega) (fun hb => absurd hb (by omega)) (fun _ => ?_)
        refine z_ild2 (q := 14) d_rs_section_13 rfl ?_
        refine z_bipush (v := nI 24) (q := 16) d_rs_section_14 rfl (by decide) ?_
        refine zn_icmp_gt (q := 19) (tgt := 30) d_rs_section_16 rfl (by decide) (by omega) (by omega) (fun hb => absurd hb (by omega)) (fun _ => ?_)
        refine z_ild3 (q := 20) d_rs_section_19 rfl ?_
        refine zi_if_lt (q := 23) (tgt := 30) d_rs_section_20 rfl (by decide) (by omega) ?_
        refine z_ild3 (q := 24) d_rs_section_23 rfl ?_
        refine z_sipush (v := nI 1000) (q := 27) d_rs_section_24 rfl (by decide) ?_
        refine zn_icmp_le (q := 30) (tgt := 32) d_rs_section_27 rfl (by decide) (by omega) (by omega) (fun _ => ?_) (fun hb => absurd hi2 hb)
        refine z_ald0 (q := 33) d_rs_section_32 rfl ?_
        refine z_get 0 (q := 36) d_rs_section_33 rfl fg_rs_11 (by first | assumption | omega) (by first | assumption | omega) (by rfl) ?_
        refine z_ild1 (q := 37) d_rs_section_36 rfl ?_
        refine z_aaload (q := 38) d_rs_section_37 rfl (by first | assumption | omega) (by first | assumption | omega) (by omega) (by omega) (by first | assumption | omega) ?_
        refine z_ast4 (q := 40) d_rs_section_38 rfl rfl ?_
        refine z_ald4 (q := 42) d_rs_section_40 rfl ?_
        refine z_get 0 (q := 45) d_rs_section_42 rfl fg_rs_78 (by first | assumption | omega) (by first | assumption | omega) (by rfl) ?_
        refine z_ist5 (q := 47) d_rs_section_45 rfl rfl ?_
        refine z_ald0 (q := 48) d_rs_section_47 rfl ?_
        refine z_ild5 (q := 50) d_rs_section_48 rfl ?_
        refine z_cV1 (q := 53) d_rs_section_50 rfl (ct_numberFor h0 (by omega) h11 (by omega)) (by first | assumption | omega) (by first | assumption | omega) rfl ck_rs_numberFor lk_rs_60 im_rs_numberFor sl_rs_numberFor ⟨by decide, by decide⟩ (Nat.le_of_ble_eq_true rfl) rfl rfl ?_
        refine z_ist6 (q := 55) d_rs_section_53 rfl rfl ?_
        refine z_ild6 (q := 57) d_rs_section_55 rfl ?_
        by_cases hn : 20 ≤ li ∨ 24 < od a
        · refine z_if_ge (q := 60) (tgt := 63) d_rs_section_57 rfl (by decide) (fun hb => absurd hb (nf_neg hn)) (fun _ => ?_)
          refine z_ild6 (q := 62) d_rs_section_60 rfl ?_
          exact z_iret d_rs_section_62 rfl (Nat.le_refl _) (Nat.le_refl _) (by rw [← hPo]; exact Or.inr (Or.inl ⟨hgood, hn, rfl, rfl, fun _ _ => rfl, hcs⟩))
        rw [nf_pos (by omega) (by omega)]
        refine zi_if_ge (tgt := 63) d_rs_section_57 (by decide) (by omega) ?_
        have hl20 : li < 20 := by omega
        have hB24 : od a ≤ 24 := by omega
        -- behind the walk
        have rest : ∀ g : Nat → Nat, (∀ x, g x < 2147483647) → (∀ x, x < 2 * od a → g (b * x + i) = ts a (b * x + i)) → Z m_rs_section Po 0 0 90 (va_up σ 4 (zN 2129 g)) 84 [some (.ref 0), some (.int (nI a)), some (.int (nI b)), some (.int (nI i)), some (.ref (18 + 3 * a)), some (.int (nI (od a))), some (.int (nI li)), none] [] := by
          intro g hgP hgs
          have hcw := hcs.walk hgP
          have loop : ∀ e x, x + e = 2 * od a → Z m_rs_section Po 0 0 90 (va_up (va_up σ 4 (zN 2129 g)) 3 (zN 48 (fl_ s g3 x))) 87 [some (.ref 0), some (.int (nI a)), some (.int (nI b)), some (.int (nI i)), some (.ref (18 + 3 * a)), some (.int (nI (od a))), some (.int (nI li)), some (.int (nI x))] [] := by
            intro e
            induction e with
            | zero =>
              intro x hx
              obtain rfl : x = 2 * od a := by omega
              refine z_ild7 (q := 89) d_rs_section_87 rfl ?_
              refine z_iconst (v := nI 2) (q := 90) d_rs_section_89 rfl (by decide) ?_
              refine z_ild5 (q := 92) d_rs_section_90 rfl ?_
              first | refine zn_imul (q := 93) d_rs_section_92 rfl ?_ | refine z_imul (q := 93) d_rs_section_92 rfl ?_
              refine zn_icmp_ge (q := 96) (tgt := 120) d_rs_section_93 rfl (by decide) (by omega) (by omega) (fun hb => ?_) (fun hb => ?_)
              · have y0 : va_up (va_up σ 4 (zN 2129 g)) 3 (zN 48 (fl_ s g3 (2 * od a))) 0 = zO 0 [.ref 1, .ref 2, .ref 3, .ref 4, .ref 5, .ref 9, .ref 15, .int (nI li), .int (nI gi)] := by rw [zu_ne (by omega), zu_ne (by omega)]; exact h0
                refine z_ald0 (q := 121) d_rs_section_120 rfl ?_
                refine z_ild5 (q := 123) d_rs_section_121 rfl ?_
                have hcm := hcw.made (g := fl_ s g3 (2 * od a)) (fl_lt hsP h3P)
                refine z_gV1 (q := 126) d_rs_section_123 rfl (ct_enlist hcm (by omega) hB24 zu_same (fl_lt hsP h3P) (fun j hj => fl_lo (by omega)) hsP (by rw [← hs]; exact bd_section fp_inv (ob_of hSa) b i)) (by first | assumption | omega) (by first | assumption | omega) rfl ck_rs_enlist lk_rs_72 im_rs_enlist sl_rs_enlist ⟨by decide, by decide⟩ (Nat.le_of_ble_eq_true rfl) rfl rfl (fun r m τ hp => ?_)
                have hen := EN_made (σ := σ) (fun j hj => by rw [zu_ne (by omega), zu_ne (by omega)]) hp
                obtain ⟨rfl, -, rfl, -⟩ := hp
                exact z_iret d_rs_section_126 rfl (Nat.le_refl _) (Nat.le_refl _) (by rw [← hPo]; exact Or.inr (Or.inr ⟨hgood, hl20, hB24, hen⟩))
              · exact absurd hb (by omega)
            | succ e ih =>
              intro x hx
              have y0 : va_up (va_up σ 4 (zN 2129 g)) 3 (zN 48 (fl_ s g3 x)) 0 = zO 0 [.ref 1, .ref 2, .ref 3, .ref 4, .ref 5, .ref 9, .ref 15, .int (nI li), .int (nI gi)] := by rw [zu_ne (by omega), zu_ne (by omega)]; exact h0
              have y3 : va_up (va_up σ 4 (zN 2129 g)) 3 (zN 48 (fl_ s g3 x)) 3 = zN 48 (fl_ s g3 x) := zu_same
              have y4 : va_up (va_up σ 4 (zN 2129 g)) 3 (zN 48 (fl_ s g3 x)) 4 = zN 2129 g := by rw [zu_ne (by omega), zu_same]
              have hbx : b * x ≤ 24 * 47 := Nat.mul_le_mul hb2 (by omega)
              refine z_ild7 (q := 89) d_rs_section_87 rfl ?_
              refine z_iconst (v := nI 2) (q := 90) d_rs_section_89 rfl (by decide) ?_
              refine z_ild5 (q := 92) d_rs_section_90 rfl ?_
              first | refine zn_imul (q := 93) d_rs_section_92 rfl ?_ | refine z_imul (q := 93) d_rs_section_92 rfl ?_
              refine zn_icmp_ge (q := 96) (tgt := 120) d_rs_section_93 rfl (by decide) (by omega) (by omega) (fun hb => ?_) (fun hb => ?_)
              · exact absurd hb (by omega)
              · refine z_ald0 (q := 97) d_rs_section_96 rfl ?_
                refine z_get 2 (q := 100) d_rs_section_97 rfl fg_rs_19 (by first | assumption | omega) (by first | assumption | omega) (by rfl) ?_
                refine z_ild7 (q := 102) d_rs_section_100 rfl ?_
                refine z_ald0 (q := 103) d_rs_section_102 rfl ?_
                refine z_get 3 (q := 106) d_rs_section_103 rfl fg_rs_22 (by first | assumption | omega) (by first | assumption | omega) (by rfl) ?_
                refine z_ild2 (q := 107) d_rs_section_106 rfl ?_
                refine z_ild7 (q := 109) d_rs_section_107 rfl ?_
                first | refine zn_imul (q := 110) d_rs_section_109 rfl ?_ | refine z_imul (q := 110) d_rs_section_109 rfl ?_
                refine z_ild3 (q := 111) d_rs_section_110 rfl ?_
                first | refine zn_iadd (q := 112) d_rs_section_111 rfl ?_ | refine z_iadd (q := 112) d_rs_section_111 rfl ?_
                refine z_laload (q := 113) d_rs_section_112 rfl (by first | assumption | omega) (by first | assumption | omega) (by omega) (by omega) ?_
                refine z_lastore (q := 114) d_rs_section_113 rfl (by first | assumption | omega) (by first | assumption | omega) (by omega) (by omega) ?_
                refine zn_iinc7 (d := 1) (q := 117) d_rs_section_114 rfl rfl ?_
                refine z_goto (tgt := 87) d_rs_section_117 (by decide) ?_
                refine Z.eqw ?_ (ih (x + 1) (by omega))
                rw [zu_up, ← fl_s, ← hs, hgs x (by omega)]
          refine z_iconst (v := nI 0) (q := 85) d_rs_section_84 rfl (by decide) ?_
          refine z_ist7 (q := 87) d_rs_section_85 rfl rfl ?_
          exact (Z.eqw (by rw [fl_0]; exact zu_id (by rw [zu_ne (by omega)]; exact h3)) (loop (2 * od a) 0 (by omega)))
        have hread : ∀ (len x : Nat), x < od a → x < len → va_up σ 4 (zN 2129 (fl_ (ts a) g4 x)) (20 + 3 * a) = zN 88 (if 20 + 3 * a = 4 then fl_ (ts a) g4 x else fa) ∧ fa x = ts a x ∧ (20 + 3 * a = 4 → g4 x = ts a x) := by
          intro len x hx _
          refine ⟨by rw [zu_ne (by omega), if_neg (by omega)]; exact a3, a7 x (by omega), fun hh => absurd hh (by omega)⟩
        have hsca : ∀ x, od a ≤ x → ts a x = fo_ ca (ts a) x (od a) := fun x hx => by
          rw [hSa.2.2.2.1 x hx]
          exact fo_congr (fun y hy => (a6 y hy).symm) (fun _ _ => rfl)
        by_cases hz : od a = 0
        · refine z_ald4 (q := 65) d_rs_section_63 rfl ?_
          refine z_ald0 (q := 66) d_rs_section_65 rfl ?_
          refine z_get 3 (q := 69) d_rs_section_66 rfl fg_rs_22 (by first | assumption | omega) (by first | assumption | omega) (by rfl) ?_
          refine z_ild2 (q := 70) d_rs_section_69 rfl ?_
          refine z_iconst (v := nI 2) (q := 71) d_rs_section_70 rfl (by decide) ?_
          refine z_ild5 (q := 73) d_rs_section_71 rfl ?_
          refine zn_imul (q := 74) d_rs_section_73 rfl ?_
          refine z_iconst (v := nI 1) (q := 75) d_rs_section_74 rfl (by decide) ?_
          refine z_isub (q := 76) d_rs_section_75 rfl ?_
          refine z_imul (q := 77) d_rs_section_76 rfl ?_
          refine z_ild3 (q := 78) d_rs_section_77 rfl ?_
          refine z_iadd (q := 79) d_rs_section_78 rfl ?_
          refine z_iconst (v := nI 1) (q := 80) d_rs_section_79 rfl (by decide) ?_
          refine z_iadd (q := 81) d_rs_section_80 rfl ?_
          have e0 : 2 * od a = 0 := by omega
          rw [e0]
          rcases zr_len hb1 hb2 hi2 with ⟨q1, q2⟩ | ⟨q1, q2⟩
          · rw [q2]
            refine z_cV2v (q := 84) d_rs_section_81 rfl (ct_writeTerms (f := fa) (s := ts a) a1 a2 h4 (by omega) (by omega) (by omega) (by omega) (by omega) (by omega) (by omega) (by omega) (by omega) (hread _) a4 hSa.2.1 h4P hsca) (by first | assumption | omega) (by first | assumption | omega) rfl ck_se_writeTerms lk_rs_95 im_se_writeTerms sl_se_writeTerms ⟨by decide, by decide⟩ (Nat.le_of_ble_eq_true rfl) rfl rfl ?_
            exact rest _ (fl_lt hSa.2.1 h4P) (fun x hx => by omega)
          · refine z_cV2v (q := 84) d_rs_section_81 rfl (ct_writeNone q2) (by first | assumption | omega) (by first | assumption | omega) rfl ck_se_writeTerms lk_rs_95 im_se_writeTerms sl_se_writeTerms ⟨by decide, by decide⟩ (Nat.le_of_ble_eq_true rfl) rfl rfl ?_
            refine Z.eqw (zu_id h4) (rest _ h4P (fun x hx => by omega))
        · have hlen : b * (2 * od a - 1) ≤ 24 * 47 := Nat.mul_le_mul hb2 (by omega)
          refine z_ald4 (q := 65) d_rs_section_63 rfl ?_
          refine z_ald0 (q := 66) d_rs_section_65 rfl ?_
          refine z_get 3 (q := 69) d_rs_section_66 rfl fg_rs_22 (by first | assumption | omega) (by first | assumption | omega) (by rfl) ?_
          refine z_ild2 (q := 70) d_rs_section_69 rfl ?_
          refine z_iconst (v := nI 2) (q := 71) d_rs_section_70 rfl (by decide) ?_
          refine z_ild5 (q := 73) d_rs_section_71 rfl ?_
          first | refine zn_imul (q := 74) d_rs_section_73 rfl ?_ | refine z_imul (q := 74) d_rs_section_73 rfl ?_
          refine z_iconst (v := nI 1) (q := 75) d_rs_section_74 rfl (by decide) ?_
          first | refine zn_isub (q := 76) d_rs_section_75 rfl (by omega) ?_ | refine z_isub (q := 76) d_rs_section_75 rfl ?_
          first | refine zn_imul (q := 77) d_rs_section_76 rfl ?_ | refine z_imul (q := 77) d_rs_section_76 rfl ?_
          refine z_ild3 (q := 78) d_rs_section_77 rfl ?_
          first | refine zn_iadd (q := 79) d_rs_section_78 rfl ?_ | refine z_iadd (q := 79) d_rs_section_78 rfl ?_
          refine z_iconst (v := nI 1) (q := 80) d_rs_section_79 rfl (by decide) ?_
          first | refine zn_iadd (q := 81) d_rs_section_80 rfl ?_ | refine z_iadd (q := 81) d_rs_section_80 rfl ?_
          refine z_cV2v (q := 84) d_rs_section_81 rfl (ct_writeTerms (f := fa) (s := ts a) a1 a2 h4 (by omega) (by omega) (by omega) (by omega) (by omega) (by omega) (by omega) (by omega) (by omega) (hread _) a4 hSa.2.1 h4P hsca) (by first | assumption | omega) (by first | assumption | omega) rfl ck_se_writeTerms lk_rs_95 im_se_writeTerms sl_se_writeTerms ⟨by decide, by decide⟩ (Nat.le_of_ble_eq_true rfl) rfl rfl ?_
          refine rest _ (fl_lt hSa.2.1 h4P) (fun x hx => fl_lo ?_)
          have : b * x ≤ b * (2 * od a - 1) := Nat.mul_le_mul_left b (by omega)
          omega
      · refine Ct.of (lv := [some (.ref 0), some (.int j), some (.int m), some (.int i), none, none, none, none]) 4 (by decide) rfl (Nat.le_of_ble_eq_true rfl) ?_
        have hbad := bad (fun hh => hi hh.2.2)
        obtain ⟨a, ha, rfl⟩ := hj
        obtain ⟨b, hb1, hb2, rfl⟩ := hm
        refine z_ald0 (q := 1) d_rs_section_0 rfl ?_
        refine z_ild1 (q := 2) d_rs_section_1 rfl ?_
        refine z_cV1 (q := 5) d_rs_section_2 rfl (ct_isListed_yes h0 (by omega) h11 ha) (by first | assumption | omega) (by first | assumption | omega) rfl ck_rs_isListed lk_rs_75 im_rs_isListed sl_rs_isListed ⟨by decide, by decide⟩ (Nat.le_of_ble_eq_true rfl) rfl rfl ?_
        refine zi_if_eq (q := 8) (tgt := 30) d_rs_section_5 rfl (by decide) (by omega) (fun hb => absurd hb (by omega)) (fun _ => ?_)
        refine z_ild2 (q := 9) d_rs_section_8 rfl ?_
        refine z_iconst (v := nI 1) (q := 10) d_rs_section_9 rfl (by decide) ?_
        refine zn_icmp_lt (q := 13) (tgt := 30) d_rs_section_10 rfl (by decide) (by omega) (by omega) (fun hb => absurd hb (by omega)) (fun _ => ?_)
        refine z_ild2 (q := 14) d_rs_section_13 rfl ?_
        refine z_bipush (v := nI 24) (q := 16) d_rs_section_14 rfl (by decide) ?_
        refine zn_icmp_gt (q := 19) (tgt := 30) d_rs_section_16 rfl (by decide) (by omega) (by omega) (fun hb => absurd hb (by omega)) (fun _ => ?_)
        refine z_ild3 (q := 20) d_rs_section_19 rfl ?_
        refine z_if_lt (q := 23) (tgt := 30) d_rs_section_20 rfl (by decide) (fun _ => hbad) (fun q1 => ?_)
        refine z_ild3 (q := 24) d_rs_section_23 rfl ?_
        refine z_sipush (v := nI 1000) (q := 27) d_rs_section_24 rfl (by decide) ?_
        exact z_icmp_le (q := 30) (tgt := 32) d_rs_section_27 rfl (by decide) (fun q2 => absurd (isR_of (by decide) (by rw [nI_0]; exact q1) q2 (by decide)) hi) (fun _ => hbad)
    · refine Ct.of (lv := [some (.ref 0), some (.int j), some (.int m), some (.int i), none, none, none, none]) 4 (by decide) rfl (Nat.le_of_ble_eq_true rfl) ?_
      have hbad := bad (fun hh => hm hh.2.1)
      obtain ⟨a, ha, rfl⟩ := hj
      refine z_ald0 (q := 1) d_rs_section_0 rfl ?_
      refine z_ild1 (q := 2) d_rs_section_1 rfl ?_
      refine z_cV1 (q := 5) d_rs_section_2 rfl (ct_isListed_yes h0 (by omega) h11 ha) (by first | assumption | omega) (by first | assumption | omega) rfl ck_rs_isListed lk_rs_75 im_rs_isListed sl_rs_isListed ⟨by decide, by decide⟩ (Nat.le_of_ble_eq_true rfl) rfl rfl ?_
      refine zi_if_eq (q := 8) (tgt := 30) d_rs_section_5 rfl (by decide) (by omega) (fun hb => absurd hb (by omega)) (fun _ => ?_)
      refine z_ild2 (q := 9) d_rs_section_8 rfl ?_
      refine z_iconst (v := nI 1) (q := 10) d_rs_section_9 rfl (by decide) ?_
      refine z_icmp_lt (q := 13) (tgt := 30) d_rs_section_10 rfl (by decide) (fun _ => hbad) (fun q1 => ?_)
      refine z_ild2 (q := 14) d_rs_section_13 rfl ?_
      refine z_bipush (v := nI 24) (q := 16) d_rs_section_14 rfl (by decide) ?_
      refine z_icmp_gt (q := 19) (tgt := 30) d_rs_section_16 rfl (by decide) (fun _ => hbad) (fun q2 => ?_)
      exact absurd (isR_of (by decide) q1 (Int32.not_lt.mp q2) (by decide)) hm
  · refine Ct.of (lv := [some (.ref 0), some (.int j), some (.int m), some (.int i), none, none, none, none]) 4 (by decide) rfl (Nat.le_of_ble_eq_true rfl) ?_
    refine z_ald0 (q := 1) d_rs_section_0 rfl ?_
    refine z_ild1 (q := 2) d_rs_section_1 rfl ?_
    refine z_cV1 (q := 5) d_rs_section_2 rfl (ct_isListed_no h0 (by omega) h11 hj) (by first | assumption | omega) (by first | assumption | omega) rfl ck_rs_isListed lk_rs_75 im_rs_isListed sl_rs_isListed ⟨by decide, by decide⟩ (Nat.le_of_ble_eq_true rfl) rfl rfl ?_
    refine zi_if_eq (q := 8) (tgt := 30) d_rs_section_5 rfl (by decide) (by omega) (fun _ => ?_) (fun hb => absurd rfl hb)
    exact bad (fun hh => hj hh.1)

