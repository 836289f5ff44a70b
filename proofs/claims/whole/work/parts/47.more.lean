/-! spread, leaf, differ, obeys of the reference -/
theorem mm_spread {σ : zWd} {li gi : Nat} {row od : Nat → Nat} {cf ts : Nat → Nat → Nat} (h : MS li gi row od cf ts σ) (j m : Int32) : Ct m_mo_spread [.ref 78, .int j, .int m] 90 σ (MK MS FrM σ li gi row od cf ts (isL li j ∧ isR 1 24 m) (m.toNatClampNeg * od j.toNatClampNeg) (fun n => if n % m.toNatClampNeg = 0 then ts j.toNatClampNeg (n / m.toNatClampNeg) else 0)) := by
  have hms := h
  obtain ⟨hMc, hMs⟩ := h
  have hMc' := hMc
  have hMs' := hMs
  obtain ⟨h0, ⟨h1, h1'⟩, ⟨fo, h2, h2'⟩, ⟨g1, h3, h3', h3''⟩, ⟨g2, h4, h4', h4''⟩, h5, h6, h7⟩ := hMc
  have h0' : σ 78 = zO 5 [.int (nI li), .int (nI gi), .ref 79, .ref 80, .ref 81, .ref 82, .ref 83, .ref 84, .ref 85, .ref 86, .ref 87, .ref 88, .ref 89] := h0
  obtain ⟨⟨gt, hgt, hgtP⟩, -⟩ := hMs
  have bad : ¬ (isL li j ∧ isR 1 24 m) → Z m_mo_spread (MK MS FrM σ li gi row od cf ts (isL li j ∧ isR 1 24 m) (m.toNatClampNeg * od j.toNatClampNeg) (fun n => if n % m.toNatClampNeg = 0 then ts j.toNatClampNeg (n / m.toNatClampNeg) else 0)) 0 0 90 σ 23 [some (.ref 78), some (.int j), some (.int m), none, none, none, none] [] := by
    intro hbad
    refine z_iconst (v := nI 0) (q := 24) d_mo_spread_23 rfl (by decide) ?_
    refine z_ist3 (q := 25) d_mo_spread_24 rfl rfl ?_
    refine z_ild3 (q := 26) d_mo_spread_25 rfl ?_
    refine zi_if_eq (q := 29) (tgt := 39) d_mo_spread_26 rfl (by decide) (by omega) (fun _ => ?_) (fun hb => absurd rfl hb)
    refine z_iconst (v := nI 0) (q := 40) d_mo_spread_39 rfl (by decide) ?_
    refine z_ist4 (q := 42) d_mo_spread_40 rfl rfl ?_
    refine z_ald0 (q := 43) d_mo_spread_42 rfl ?_
    refine z_ild3 (q := 44) d_mo_spread_43 rfl ?_
    refine z_ild4 (q := 46) d_mo_spread_44 rfl ?_
    refine z_cV2 (q := 49) d_mo_spread_46 rfl (mt_refusal_bad) (by first | assumption | omega) (by first | assumption | omega) rfl ck_mo_refusal lk_mo_89 im_mo_refusal sl_mo_refusal ⟨by decide, by decide⟩ (Nat.le_of_ble_eq_true rfl) rfl rfl ?_
    refine z_ist5 (q := 51) d_mo_spread_49 rfl rfl ?_
    refine z_ild5 (q := 53) d_mo_spread_51 rfl ?_
    refine z_if_ge (q := 56) (tgt := 59) d_mo_spread_53 rfl (by decide) (fun hb => absurd hb (by decide)) (fun _ => ?_)
    refine z_ild5 (q := 58) d_mo_spread_56 rfl ?_
    exact z_iret d_mo_spread_58 rfl (Nat.le_refl _) (Nat.le_refl _) (Or.inl ⟨hbad, rfl, rfl, fun _ _ => rfl, hms⟩)
  by_cases hj : isL li j
  · by_cases hm : isR 1 24 m
    · have hgood : isL li j ∧ isR 1 24 m := ⟨hj, hm⟩
      clear bad
      obtain ⟨a, ha, rfl⟩ := hj
      obtain ⟨b, hb1, hb2, rfl⟩ := hm
      rw [nI_clamp (by omega), nI_clamp (by omega)]
      have hSa := h5 a ha
      have hoa := hSa.1
      have hab : b * od a ≤ 24 * 24 := Nat.mul_le_mul hb2 hoa
      refine Ct.of (lv := [some (.ref 78), some (.int (nI a)), some (.int (nI b)), none, none, none, none]) 4 (by decide) rfl (Nat.le_of_ble_eq_true rfl) ?_
      generalize hPo : MK MS FrM σ li gi row od cf ts (isL li (nI a) ∧ isR 1 24 (nI b)) (b * od a) (fun n => if n % b = 0 then ts a (n / b) else 0) = Po
      generalize hs : (fun n => if n % b = 0 then ts a (n / b) else 0) = s at hPo
      have hsP : ∀ n, s n < 2147483647 := fun n => by
        rw [← hs]; dsimp only; split
        · exact hSa.2.1 _
        · omega
      refine z_ald0 (q := 1) d_mo_spread_0 rfl ?_
      refine z_ild1 (q := 2) d_mo_spread_1 rfl ?_
      refine z_cV1 (q := 5) d_mo_spread_2 rfl (mt_isIn_yes h0 (by omega) h6 ha) (by first | assumption | omega) (by first | assumption | omega) rfl ck_mo_isIn lk_mo_82 im_mo_isIn sl_mo_isIn ⟨by decide, by decide⟩ (Nat.le_of_ble_eq_true rfl) rfl rfl ?_
      refine zi_if_eq (q := 8) (tgt := 23) d_mo_spread_5 rfl (by decide) (by omega) (fun hb => absurd hb (by omega)) (fun _ => ?_)
      refine z_ild2 (q := 9) d_mo_spread_8 rfl ?_
      refine z_iconst (v := nI 1) (q := 10) d_mo_spread_9 rfl (by decide) ?_
      refine zn_icmp_lt (q := 13) (tgt := 23) d_mo_spread_10 rfl (by decide) (by omega) (by omega) (fun hb => absurd hb (by omega)) (fun _ => ?_)
      refine z_ild2 (q := 14) d_mo_spread_13 rfl ?_
      refine z_bipush (v := nI 24) (q := 16) d_mo_spread_14 rfl (by decide) ?_
      refine zn_icmp_gt (q := 19) (tgt := 23) d_mo_spread_16 rfl (by decide) (by omega) (by omega) (fun hb => absurd hb (by omega)) (fun _ => ?_)
      refine z_iconst (v := nI 1) (q := 20) d_mo_spread_19 rfl (by decide) ?_
      refine z_goto (tgt := 24) d_mo_spread_20 (by decide) ?_
      refine z_ist3 (q := 25) d_mo_spread_24 rfl rfl ?_
      refine z_ild3 (q := 26) d_mo_spread_25 rfl ?_
      refine zi_if_eq (q := 29) (tgt := 39) d_mo_spread_26 rfl (by decide) (by omega) (fun hb => absurd hb (by omega)) (fun _ => ?_)
      refine z_ild2 (q := 30) d_mo_spread_29 rfl ?_
      refine z_ald0 (q := 31) d_mo_spread_30 rfl ?_
      refine z_ild1 (q := 32) d_mo_spread_31 rfl ?_
      refine z_cV1 (q := 35) d_mo_spread_32 rfl (mt_orderOf_yes h0 h2 (h2' a ha) (by omega) h6 ha) (by first | assumption | omega) (by first | assumption | omega) rfl ck_mo_orderOf lk_mo_86 im_mo_orderOf sl_mo_orderOf ⟨by decide, by decide⟩ (Nat.le_of_ble_eq_true rfl) rfl rfl ?_
      first | refine zn_imul (q := 36) d_mo_spread_35 rfl ?_ | refine z_imul (q := 36) d_mo_spread_35 rfl ?_
      refine z_goto (tgt := 40) d_mo_spread_36 (by decide) ?_
      refine z_ist4 (q := 42) d_mo_spread_40 rfl rfl ?_
      refine z_ald0 (q := 43) d_mo_spread_42 rfl ?_
      refine z_ild3 (q := 44) d_mo_spread_43 rfl ?_
      refine z_ild4 (q := 46) d_mo_spread_44 rfl ?_
      refine z_cV2 (q := 49) d_mo_spread_46 rfl (mt_refusal h0 (by omega) h6 (by omega)) (by first | assumption | omega) (by first | assumption | omega) rfl ck_mo_refusal lk_mo_89 im_mo_refusal sl_mo_refusal ⟨by decide, by decide⟩ (Nat.le_of_ble_eq_true rfl) rfl rfl ?_
      refine z_ist5 (q := 51) d_mo_spread_49 rfl rfl ?_
      refine z_ild5 (q := 53) d_mo_spread_51 rfl ?_
      by_cases hn : 20 ≤ li ∨ 24 < b * od a
      · rw [if_pos hn]
        refine z_if_ge (q := 56) (tgt := 59) d_mo_spread_53 rfl (by decide) (fun hb => absurd hb (nf_neg hn)) (fun _ => ?_)
        refine z_ild5 (q := 58) d_mo_spread_56 rfl ?_
        exact z_iret d_mo_spread_58 rfl (Nat.le_refl _) (Nat.le_refl _) (by rw [← hPo]; exact Or.inr (Or.inl ⟨hgood, hn, rfl, rfl, fun _ _ => rfl, hms⟩))
      rw [if_neg hn]
      refine zi_if_ge (tgt := 59) d_mo_spread_53 (by decide) (by omega) ?_
      have hl20 : li < 20 := by omega
      have hB24 : b * od a ≤ 24 := by omega
      refine z_ald0 (q := 60) d_mo_spread_59 rfl ?_
      refine z_iconst (v := nI 0) (q := 61) d_mo_spread_60 rfl (by decide) ?_
      refine z_ild1 (q := 62) d_mo_spread_61 rfl ?_
      refine z_iconst (v := nI 2) (q := 63) d_mo_spread_62 rfl (by decide) ?_
      refine z_ild4 (q := 65) d_mo_spread_63 rfl ?_
      first | refine zn_imul (q := 66) d_mo_spread_65 rfl ?_ | refine z_imul (q := 66) d_mo_spread_65 rfl ?_
      refine z_cV3v (q := 69) d_mo_spread_66 rfl (mt_expand (at' := 0) (m := 2 * (b * od a)) hMc' hgt hgtP ha (by omega)) (by first | assumption | omega) (by first | assumption | omega) rfl ck_mo_expand lk_mo_93 im_mo_expand sl_mo_expand ⟨by decide, by decide⟩ (Nat.le_of_ble_eq_true rfl) rfl rfl ?_
      generalize hG : ex_ (ts a) gt 0 (2 * (b * od a)) = G
      have hGP : ∀ j, G j < 2147483647 := fun j => by rw [← hG]; exact ex_lt hSa.2.1 hgtP j
      have hGa : ∀ z, z < 2 * (b * od a) → G z = ts a z := fun z hz => by rw [← hG]; have := ex_in (s := ts a) (g := gt) (at' := 0) hz; rw [Nat.zero_add] at this; exact this
      have loop : ∀ (e x : Nat), x + e = 2 * (b * od a) → Z m_mo_spread Po 0 0 90 (va_up σ 83 (zN 2400 (ex_ s G 2300 x))) 72 [some (.ref 78), some (.int (nI a)), some (.int (nI b)), some (.int (nI 1)), some (.int (nI (b * od a))), some (.int (nI 0)), some (.int (nI x))] [] := by
        intro e
        induction e with
        | zero =>
          intro x hx
          obtain rfl : x = 2 * (b * od a) := by omega
          refine z_ild6 (q := 74) d_mo_spread_72 rfl ?_
          refine z_iconst (v := nI 2) (q := 75) d_mo_spread_74 rfl (by decide) ?_
          refine z_ild4 (q := 77) d_mo_spread_75 rfl ?_
          first | refine zn_imul (q := 78) d_mo_spread_77 rfl ?_ | refine z_imul (q := 78) d_mo_spread_77 rfl ?_
          refine zn_icmp_ge (q := 81) (tgt := 120) d_mo_spread_78 rfl (by decide) (by omega) (by omega) (fun hb => ?_) (fun hb => ?_)
          · have y0 : va_up σ 83 (zN 2400 (ex_ s G 2300 (2 * (b * od a)))) 78 = zO 5 [.int (nI li), .int (nI gi), .ref 79, .ref 80, .ref 81, .ref 82, .ref 83, .ref 84, .ref 85, .ref 86, .ref 87, .ref 88, .ref 89] := by rw [zu_ne (by omega)]; exact h0
            refine z_ald0 (q := 121) d_mo_spread_120 rfl ?_
            refine z_ild4 (q := 123) d_mo_spread_121 rfl ?_
            have hcm := hms.t (g := ex_ s G 2300 (2 * (b * od a))) (ex_lt hsP hGP)
            refine z_gV1 (q := 126) d_mo_spread_123 rfl (mt_settle hcm (by omega) hB24 zu_same (ex_lt hsP hGP) (fun n hn => ex_in hn) hsP (by rw [← hs]; obtain ⟨c9, hc9⟩ := bd_spread (ob_of hSa) b (by omega); refine ⟨b * od a, Nat.le_refl _, c9, ?_⟩; rw [Nat.mul_comm b (od a)]; have e9 : (fun n => ph (if n % b = 0 then ts a (n / b) else 0)) = (fun n => if n % b = 0 then ph (ts a (n / b)) else 0) := funext (fun n => by split <;> rfl); rw [e9]; exact hc9)) (by first | assumption | omega) (by first | assumption | omega) rfl ck_mo_settle lk_mo_78 im_mo_settle sl_mo_settle ⟨by decide, by decide⟩ (Nat.le_of_ble_eq_true rfl) rfl rfl (fun r m τ hp => ?_)
            have hen := EN_frM (σ := σ) (fun j hj => zu_ne (by omega)) hp
            obtain ⟨rfl, -, rfl, -⟩ := hp
            exact z_iret d_mo_spread_126 rfl (Nat.le_refl _) (Nat.le_refl _) (by rw [← hPo]; exact Or.inr (Or.inr ⟨hgood, hl20, hB24, hen⟩))
          · exact absurd hb (by omega)
        | succ e ih =>
          intro x hx
          have y0 : va_up σ 83 (zN 2400 (ex_ s G 2300 x)) 78 = zO 5 [.int (nI li), .int (nI gi), .ref 79, .ref 80, .ref 81, .ref 82, .ref 83, .ref 84, .ref 85, .ref 86, .ref 87, .ref 88, .ref 89] := by rw [zu_ne (by omega)]; exact h0
          have y3 : va_up σ 83 (zN 2400 (ex_ s G 2300 x)) 83 = zN 2400 (ex_ s G 2300 x) := zu_same
          have hmod : x % b < b := Nat.mod_lt _ (by omega)
          have hdiv : x / b ≤ x := Nat.div_le_self _ _
          have hrd : ex_ s G 2300 x (x / b) = ts a (x / b) := by rw [ex_out (by omega)]; exact hGa _ (by omega)
          refine z_ild6 (q := 74) d_mo_spread_72 rfl ?_
          refine z_iconst (v := nI 2) (q := 75) d_mo_spread_74 rfl (by decide) ?_
          refine z_ild4 (q := 77) d_mo_spread_75 rfl ?_
          first | refine zn_imul (q := 78) d_mo_spread_77 rfl ?_ | refine z_imul (q := 78) d_mo_spread_77 rfl ?_
          refine zn_icmp_ge (q := 81) (tgt := 120) d_mo_spread_78 rfl (by decide) (by omega) (by omega) (fun hb => ?_) (fun hb => ?_)
          · exact absurd hb (by omega)
          · refine z_ald0 (q := 82) d_mo_spread_81 rfl ?_
            refine z_get 6 (q := 85) d_mo_spread_82 rfl fg_mo_23 (by first | assumption | omega) (by first | assumption | omega) (by rfl) ?_
            refine z_sipush (v := nI 2300) (q := 88) d_mo_spread_85 rfl (by decide) ?_
            refine z_ild6 (q := 90) d_mo_spread_88 rfl ?_
            first | refine zn_iadd (q := 91) d_mo_spread_90 rfl ?_ | refine z_iadd (q := 91) d_mo_spread_90 rfl ?_
            refine z_ild6 (q := 93) d_mo_spread_91 rfl ?_
            refine z_ild2 (q := 94) d_mo_spread_93 rfl ?_
            refine zn_irem (q := 95) d_mo_spread_94 rfl (by omega) (by omega) (by omega) ?_
            refine zi_if_ne (q := 98) (tgt := 112) d_mo_spread_95 rfl (by decide) (by omega) (fun hb3 => ?_) (fun hb3 => ?_)
            · refine z_lconst (v := lN 0) (q := 113) d_mo_spread_112 rfl rfl ?_
              refine z_lastore (q := 114) d_mo_spread_113 rfl (by first | assumption | omega) (by first | assumption | omega) (by omega) (by omega) ?_
              refine zn_iinc6 (d := 1) (q := 117) d_mo_spread_114 rfl rfl ?_
              refine z_goto (tgt := 72) d_mo_spread_117 (by decide) ?_
              refine Z.eqw ?_ (ih (x + 1) (by omega))
              rw [zu_up, ← ex_s, ← hs]
              dsimp only
              rw [if_neg hb3]
            · refine z_ald0 (q := 99) d_mo_spread_98 rfl ?_
              refine z_get 6 (q := 102) d_mo_spread_99 rfl fg_mo_23 (by first | assumption | omega) (by first | assumption | omega) (by rfl) ?_
              refine z_iconst (v := nI 0) (q := 103) d_mo_spread_102 rfl (by decide) ?_
              refine z_ild6 (q := 105) d_mo_spread_103 rfl ?_
              refine z_ild2 (q := 106) d_mo_spread_105 rfl ?_
              refine zn_idiv (q := 107) d_mo_spread_106 rfl (by omega) (by omega) (by omega) ?_
              first | refine zn_iadd (q := 108) d_mo_spread_107 rfl ?_ | refine z_iadd (q := 108) d_mo_spread_107 rfl ?_
              refine z_laload (q := 109) d_mo_spread_108 rfl (by first | assumption | omega) (by first | assumption | omega) (by omega) (by omega) ?_
              rw [Nat.zero_add, hrd]
              refine z_goto (tgt := 113) d_mo_spread_109 (by decide) ?_
              refine z_lastore (q := 114) d_mo_spread_113 rfl (by first | assumption | omega) (by first | assumption | omega) (by omega) (by omega) ?_
              refine zn_iinc6 (d := 1) (q := 117) d_mo_spread_114 rfl rfl ?_
              refine z_goto (tgt := 72) d_mo_spread_117 (by decide) ?_
              refine Z.eqw ?_ (ih (x + 1) (by omega))
              rw [zu_up, ← ex_s, ← hs]
              dsimp only
              rw [if_pos hb3]
      refine z_iconst (v := nI 0) (q := 70) d_mo_spread_69 rfl (by decide) ?_
      refine z_ist6 (q := 72) d_mo_spread_70 rfl rfl ?_
      exact (Z.eqw (by rw [ex_0]) (loop (2 * (b * od a)) 0 (by omega)))
    · refine Ct.of (lv := [some (.ref 78), some (.int j), some (.int m), none, none, none, none]) 4 (by decide) rfl (Nat.le_of_ble_eq_true rfl) ?_
      have hbad := bad (fun hh => hm hh.2)
      obtain ⟨a, ha, rfl⟩ := hj
      refine z_ald0 (q := 1) d_mo_spread_0 rfl ?_
      refine z_ild1 (q := 2) d_mo_spread_1 rfl ?_
      refine z_cV1 (q := 5) d_mo_spread_2 rfl (mt_isIn_yes h0 (by omega) h6 ha) (by first | assumption | omega) (by first | assumption | omega) rfl ck_mo_isIn lk_mo_82 im_mo_isIn sl_mo_isIn ⟨by decide, by decide⟩ (Nat.le_of_ble_eq_true rfl) rfl rfl ?_
      refine zi_if_eq (q := 8) (tgt := 23) d_mo_spread_5 rfl (by decide) (by omega) (fun hb => absurd hb (by omega)) (fun _ => ?_)
      refine z_ild2 (q := 9) d_mo_spread_8 rfl ?_
      refine z_iconst (v := nI 1) (q := 10) d_mo_spread_9 rfl (by decide) ?_
      refine z_icmp_lt (q := 13) (tgt := 23) d_mo_spread_10 rfl (by decide) (fun _ => hbad) (fun q1 => ?_)
      refine z_ild2 (q := 14) d_mo_spread_13 rfl ?_
      refine z_bipush (v := nI 24) (q := 16) d_mo_spread_14 rfl (by decide) ?_
      exact z_icmp_gt (q := 19) (tgt := 23) d_mo_spread_16 rfl (by decide) (fun _ => hbad) (fun q2 => absurd (isR_of (by decide) q1 (Int32.not_lt.mp q2) (by decide)) hm)
  · refine Ct.of (lv := [some (.ref 78), some (.int j), some (.int m), none, none, none, none]) 4 (by decide) rfl (Nat.le_of_ble_eq_true rfl) ?_
    refine z_ald0 (q := 1) d_mo_spread_0 rfl ?_
    refine z_ild1 (q := 2) d_mo_spread_1 rfl ?_
    refine z_cV1 (q := 5) d_mo_spread_2 rfl (mt_isIn_no h0 (by omega) h6 hj) (by first | assumption | omega) (by first | assumption | omega) rfl ck_mo_isIn lk_mo_82 im_mo_isIn sl_mo_isIn ⟨by decide, by decide⟩ (Nat.le_of_ble_eq_true rfl) rfl rfl ?_
    refine zi_if_eq (q := 8) (tgt := 23) d_mo_spread_5 rfl (by decide) (by omega) (fun _ => ?_) (fun hb => absurd rfl hb)
    exact bad (fun hh => hj hh.1)
theorem fo_congr2 {c c' v v' : Nat → Nat} {n n' r : Nat} (hc : ∀ i, i < r → c i = c' i) (hv : ∀ i, i < r → v (n - 1 - i) = v' (n' - 1 - i)) : fo_ c v n r = fo_ c' v' n' r := by
  induction r with
  | zero => rfl
  | succ r ih =>
    show (fo_ c v n r + c r * v (n - 1 - r)) % 2147483647 = (fo_ c' v' n' r + c' r * v' (n' - 1 - r)) % 2147483647
    rw [ih (fun i hi => hc i (by omega)) (fun i hi => hv i (by omega)), hc r (by omega), hv r (by omega)]
theorem lf_iff {row : Nat → Nat} {gi R : Nat} : lf_ row gi R ↔ ∀ n, n < gi - R → row (R + n) = ls_ row R n := by
  constructor
  · intro h n
    induction n using Nat.strongRecOn with
    | ind n ih =>
      intro hn
      by_cases hnR : n < R
      · exact (se_lo (f := fun n => row (R + n)) hnR).symm
      · rw [h (R + n) (by omega) (by omega)]
        refine Eq.trans (fo_congr2 (v' := ls_ row R) (n' := n) (fun _ _ => rfl) (fun i hi => ?_)) (se_hi (f := fun n => row (R + n)) (by omega)).symm
        rw [show R + n - 1 - i = R + (n - 1 - i) by omega]
        exact ih (n - 1 - i) (by omega) (by omega)
  · intro h n h1 h2
    have e1 := h (n - R) (by omega)
    rw [show R + (n - R) = n by omega] at e1
    rw [e1]
    refine Eq.trans (se_hi (f := fun n => row (R + n)) (by omega)) (fo_congr2 (fun _ _ => rfl) (fun i hi => ?_))
    have e2 := h (n - R - 1 - i) (by omega)
    rw [show R + (n - R - 1 - i) = n - 1 - i by omega] at e2
    exact e2.symm

theorem mm_leaf {σ : zWd} {li gi : Nat} {row od : Nat → Nat} {cf ts : Nat → Nat → Nat} (h : MS li gi row od cf ts σ) (r : Int32) : Ct m_mo_leaf [.ref 78, .int r] 90 σ (LF MS FrM σ li gi row od cf ts r) := by
  have hms := h
  obtain ⟨hMc, hMs⟩ := h
  have hMc' := hMc
  have hMs' := hMs
  obtain ⟨h0, ⟨h1, h1'⟩, ⟨fo, h2, h2'⟩, ⟨g1, h3, h3', h3''⟩, ⟨g2, h4, h4', h4''⟩, h5, h6, h7⟩ := hMc
  have h0' : σ 78 = zO 5 [.int (nI li), .int (nI gi), .ref 79, .ref 80, .ref 81, .ref 82, .ref 83, .ref 84, .ref 85, .ref 86, .ref 87, .ref 88, .ref 89] := h0
  obtain ⟨⟨gt, hgt, hgtP⟩, -⟩ := hMs
  have bad : ¬ (isR 0 12 r ∧ 2 * r.toNatClampNeg ≤ gi) → Z m_mo_leaf (LF MS FrM σ li gi row od cf ts r) 0 0 90 σ 20 [some (.ref 78), some (.int r), none, none, none, none] [] := by
    intro hbad
    refine z_iconst (v := (-1)) (q := 21) d_mo_leaf_20 rfl (by decide) ?_
    exact z_iret d_mo_leaf_21 rfl (Nat.le_refl _) (Nat.le_refl _) (Or.inl ⟨hbad, rfl, rfl, fun _ _ => rfl, hms⟩)
  refine Ct.of (lv := [some (.ref 78), some (.int r), none, none, none, none]) 4 (by decide) rfl (Nat.le_of_ble_eq_true rfl) ?_
  by_cases hr : isR 0 12 r
  · have hr' := hr
    obtain ⟨R, -, hR, rfl⟩ := hr
    have eR : (nI R).toNatClampNeg = R := nI_clamp (by omega)
    refine z_ild1 (q := 1) d_mo_leaf_0 rfl ?_
    refine zi_if_lt (q := 4) (tgt := 20) d_mo_leaf_1 rfl (by decide) (by omega) ?_
    refine z_ild1 (q := 5) d_mo_leaf_4 rfl ?_
    refine z_bipush (v := nI 12) (q := 7) d_mo_leaf_5 rfl (by decide) ?_
    refine zn_icmp_gt (q := 10) (tgt := 20) d_mo_leaf_7 rfl (by decide) (by omega) (by omega) (fun hb => absurd hb (by omega)) (fun _ => ?_)
    refine z_ald0 (q := 11) d_mo_leaf_10 rfl ?_
    refine z_get 1 (q := 14) d_mo_leaf_11 rfl fg_mo_71 (by first | assumption | omega) (by first | assumption | omega) (by rfl) ?_
    refine z_iconst (v := nI 2) (q := 15) d_mo_leaf_14 rfl (by decide) ?_
    refine z_ild1 (q := 16) d_mo_leaf_15 rfl ?_
    first | refine zn_imul (q := 17) d_mo_leaf_16 rfl ?_ | refine z_imul (q := 17) d_mo_leaf_16 rfl ?_
    refine zn_icmp_ge (q := 20) (tgt := 22) d_mo_leaf_17 rfl (by decide) (by omega) (by omega) (fun hgi => ?_) (fun hgi => bad (fun hh => hgi (by rw [← eR]; exact hh.2)))
    have hgood : isR 0 12 (nI R) ∧ 2 * (nI R).toNatClampNeg ≤ gi := ⟨hr', by rw [eR]; exact hgi⟩
    clear bad
    generalize hPo : LF MS FrM σ li gi row od cf ts (nI R) = Po
    refine z_ald0 (q := 23) d_mo_leaf_22 rfl ?_
    refine z_get 0 (q := 26) d_mo_leaf_23 rfl fg_mo_48 (by first | assumption | omega) (by first | assumption | omega) (by rfl) ?_
    refine z_bipush (v := nI 20) (q := 28) d_mo_leaf_26 rfl (by decide) ?_
    refine zn_icmp_lt (q := 31) (tgt := 34) d_mo_leaf_28 rfl (by decide) (by omega) (by omega) (fun hl20 => ?_) (fun hn => ?_)
    · generalize hs : ls_ row R = s
      have hsP : ∀ n, s n < 2147483647 := fun n => by rw [← hs]; exact se_lt (fun n => h1' _) n
      have hs1 : ∀ n, n < R → s n = row (R + n) := fun n hn => by rw [← hs]; exact se_lo hn
      have hs2 : ∀ n, R ≤ n → s n = fo_ row s n R := fun n hn => by rw [← hs]; exact se_hi hn
      have hfit : lf_ row gi R ↔ ∀ n, n < gi - R → row (R + n) = s n := by rw [← hs]; exact lf_iff
      have hobs : ∃ r', r' ≤ R ∧ ∃ c : Nat → FP, ob r' c (fun n => ph (s n)) := by rw [← hs]; exact ⟨R, Nat.le_refl _, _, se_ob R row _⟩
      have atEnd : ∀ (x : Nat) (t3 t4 t5 : Option Value), 2 * R ≤ x → gi - R ≤ x → x ≤ 40 → (∀ n, n < x → n < gi - R → row (R + n) = s n) → Z m_mo_leaf Po 0 0 90 (va_up σ 83 (zN 2400 (ex_ s gt 2300 x))) 36 [some (.ref 78), some (.int (nI R)), some (.int (nI x)), t3, t4, t5] [] := by
        intro x t3 t4 t5 hx1 hx2 hx40 hm
        have y0 : va_up σ 83 (zN 2400 (ex_ s gt 2300 x)) 78 = zO 5 [.int (nI li), .int (nI gi), .ref 79, .ref 80, .ref 81, .ref 82, .ref 83, .ref 84, .ref 85, .ref 86, .ref 87, .ref 88, .ref 89] := by rw [zu_ne (by omega)]; exact h0
        refine z_ild2 (q := 37) d_mo_leaf_36 rfl ?_
        refine z_iconst (v := nI 2) (q := 38) d_mo_leaf_37 rfl (by decide) ?_
        refine z_ild1 (q := 39) d_mo_leaf_38 rfl ?_
        first | refine zn_imul (q := 40) d_mo_leaf_39 rfl ?_ | refine z_imul (q := 40) d_mo_leaf_39 rfl ?_
        refine zn_icmp_lt (q := 43) (tgt := 53) d_mo_leaf_40 rfl (by decide) (by omega) (by omega) (fun hb => absurd hb (by omega)) (fun _ => ?_)
        refine z_ild2 (q := 44) d_mo_leaf_43 rfl ?_
        refine z_ald0 (q := 45) d_mo_leaf_44 rfl ?_
        refine z_get 1 (q := 48) d_mo_leaf_45 rfl fg_mo_71 (by first | assumption | omega) (by first | assumption | omega) (by rfl) ?_
        refine z_ild1 (q := 49) d_mo_leaf_48 rfl ?_
        first | refine zn_isub (q := 50) d_mo_leaf_49 rfl (by omega) ?_ | refine z_isub (q := 50) d_mo_leaf_49 rfl ?_
        refine zn_icmp_ge (q := 53) (tgt := 166) d_mo_leaf_50 rfl (by decide) (by omega) (by omega) (fun _ => ?_) (fun hb => absurd hb (by omega))
        refine z_ald0 (q := 167) d_mo_leaf_166 rfl ?_
        refine z_iconst (v := nI 0) (q := 168) d_mo_leaf_167 rfl (by decide) ?_
        refine z_put 1 (q := 171) d_mo_leaf_168 rfl fg_mo_71 ft_mo fk_mo_71 (by first | assumption | omega) (by first | assumption | omega) (fun _ => rfl) (fun _ => rfl) (by simp) ?_
        have hcm := (hms.t (g := ex_ s gt 2300 x) (ex_lt hsP hgtP)).row (row' := row) (li' := li) h1' (Nat.le_refl _) (Nat.zero_le 40)
        rw [← zu_id (show va_up σ 83 (zN 2400 (ex_ s gt 2300 x)) 79 = zN 40 row by rw [zu_ne (by omega)]; exact h1)] at hcm
        refine Z.eqw (σ' := va_up (va_up σ 83 (zN 2400 (ex_ s gt 2300 x))) 78 (m0_ li 0)) rfl ?_
        have z0 : va_up (va_up σ 83 (zN 2400 (ex_ s gt 2300 x))) 78 (m0_ li 0) 78 = zO 5 [.int (nI li), .int (nI 0), .ref 79, .ref 80, .ref 81, .ref 82, .ref 83, .ref 84, .ref 85, .ref 86, .ref 87, .ref 88, .ref 89] := zu_same
        refine z_ald0 (q := 172) d_mo_leaf_171 rfl ?_
        refine z_ild1 (q := 173) d_mo_leaf_172 rfl ?_
        refine z_gV1 (q := 176) d_mo_leaf_173 rfl (mt_settle (s := s) (B := R) (tt := ex_ s gt 2300 x) hcm (by omega) (by omega) (show va_up (va_up σ 83 (zN 2400 (ex_ s gt 2300 x))) 78 (m0_ li 0) 83 = zN 2400 (ex_ s gt 2300 x) by rw [zu_ne (by omega), zu_same]) (ex_lt hsP hgtP) (fun n hn => ex_in (by omega)) hsP hobs) (by first | assumption | omega) (by first | assumption | omega) rfl ck_mo_settle lk_mo_78 im_mo_settle sl_mo_settle ⟨by decide, by decide⟩ (Nat.le_of_ble_eq_true rfl) rfl rfl (fun r m τ hp => ?_)
        have hen := EN_frM (σ := σ) (fun j hj => by rw [zu_ne (by omega), zu_ne (by omega)]) hp
        obtain ⟨rfl, -, rfl, -⟩ := hp
        exact z_iret d_mo_leaf_176 rfl (Nat.le_refl _) (Nat.le_refl _) (by rw [← hPo]; exact Or.inr (Or.inr (Or.inr ⟨hgood, hl20, by rw [eR]; exact hfit.mpr (fun n hn => hm n (by omega) hn), by rw [eR, hs]; exact hen⟩)))
      have loop : ∀ (e x : Nat) (t3 t4 t5 : Option Value), 40 ≤ x + e → x ≤ 40 → (∀ n, n < x → n < gi - R → row (R + n) = s n) → Z m_mo_leaf Po 0 0 90 (va_up σ 83 (zN 2400 (ex_ s gt 2300 x))) 36 [some (.ref 78), some (.int (nI R)), some (.int (nI x)), t3, t4, t5] [] := by
        intro e
        induction e with
        | zero =>
          intro x t3 t4 t5 hx hx40 hm
          exact atEnd x t3 t4 t5 (by omega) (by omega) hx40 hm
        | succ e ih =>
          intro x t3 t4 t5 hx hx40 hm
          by_cases hgo : x < 2 * R ∨ x < gi - R
          · have y0 : va_up σ 83 (zN 2400 (ex_ s gt 2300 x)) 78 = zO 5 [.int (nI li), .int (nI gi), .ref 79, .ref 80, .ref 81, .ref 82, .ref 83, .ref 84, .ref 85, .ref 86, .ref 87, .ref 88, .ref 89] := by rw [zu_ne (by omega)]; exact h0
            have y1 : va_up σ 83 (zN 2400 (ex_ s gt 2300 x)) 79 = zN 40 row := by rw [zu_ne (by omega)]; exact h1
            have y3 : va_up σ 83 (zN 2400 (ex_ s gt 2300 x)) 83 = zN 2400 (ex_ s gt 2300 x) := zu_same
            have hexP := ex_lt (at' := 2300) (x := x) hsP hgtP
            have qs := hsP x
            have qr := h1' (R + x)
            have store : (x < gi - R → row (R + x) = s x) → Z m_mo_leaf Po 0 0 90 (va_up σ 83 (zN 2400 (ex_ s gt 2300 x))) 149 [some (.ref 78), some (.int (nI R)), some (.int (nI x)), some (.long (lN (s x))), none, some (.int (nI (if x < R then 1 else R + 1)))] [] := by
              intro hq
              refine z_ald0 (q := 150) d_mo_leaf_149 rfl ?_
              refine z_get 6 (q := 153) d_mo_leaf_150 rfl fg_mo_23 (by first | assumption | omega) (by first | assumption | omega) (by rfl) ?_
              refine z_sipush (v := nI 2300) (q := 156) d_mo_leaf_153 rfl (by decide) ?_
              refine z_ild2 (q := 157) d_mo_leaf_156 rfl ?_
              first | refine zn_iadd (q := 158) d_mo_leaf_157 rfl ?_ | refine z_iadd (q := 158) d_mo_leaf_157 rfl ?_
              refine z_lld3 (q := 159) d_mo_leaf_158 rfl ?_
              refine z_lastore (q := 160) d_mo_leaf_159 rfl (by first | assumption | omega) (by first | assumption | omega) (by omega) (by omega) ?_
              refine zn_iinc2 (d := 1) (q := 163) d_mo_leaf_160 rfl rfl ?_
              refine z_goto (tgt := 36) d_mo_leaf_163 (by decide) ?_
              refine Z.eqw ?_ (ih (x + 1) _ _ _ (by omega) (by omega) (fun n h1 h2 => ?_))
              · rw [zu_up, ex_s]
              · by_cases hnx : n = x
                · rw [hnx]; exact hq (by omega)
                · exact hm n (by omega) h2
            have fin : Z m_mo_leaf Po 0 0 90 (va_up σ 83 (zN 2400 (ex_ s gt 2300 x))) 122 [some (.ref 78), some (.int (nI R)), some (.int (nI x)), some (.long (lN (if x < R then 0 else s x))), none, some (.int (nI (if x < R then 1 else R + 1)))] [.long (lN (s x))] := by
              refine z_lst3 (q := 123) d_mo_leaf_122 rfl rfl ?_
              refine z_ild2 (q := 124) d_mo_leaf_123 rfl ?_
              refine z_ald0 (q := 125) d_mo_leaf_124 rfl ?_
              refine z_get 1 (q := 128) d_mo_leaf_125 rfl fg_mo_71 (by first | assumption | omega) (by first | assumption | omega) (by rfl) ?_
              refine z_ild1 (q := 129) d_mo_leaf_128 rfl ?_
              first | refine zn_isub (q := 130) d_mo_leaf_129 rfl (by omega) ?_ | refine z_isub (q := 130) d_mo_leaf_129 rfl ?_
              refine zn_icmp_ge (q := 133) (tgt := 149) d_mo_leaf_130 rfl (by decide) (by omega) (by omega) (fun hb => ?_) (fun hb => ?_)
              · exact store (fun h => absurd h (by omega))
              · refine z_ald0 (q := 134) d_mo_leaf_133 rfl ?_
                refine z_get 2 (q := 137) d_mo_leaf_134 rfl fg_mo_7 (by first | assumption | omega) (by first | assumption | omega) (by rfl) ?_
                refine z_ild1 (q := 138) d_mo_leaf_137 rfl ?_
                refine z_ild2 (q := 139) d_mo_leaf_138 rfl ?_
                first | refine zn_iadd (q := 140) d_mo_leaf_139 rfl ?_ | refine z_iadd (q := 140) d_mo_leaf_139 rfl ?_
                refine z_laload (q := 141) d_mo_leaf_140 rfl (by first | assumption | omega) (by first | assumption | omega) (by omega) (by omega) ?_
                refine z_lld3 (q := 142) d_mo_leaf_141 rfl ?_
                refine z_lcmp (q := 143) d_mo_leaf_142 rfl ?_
                refine zc_if_eq (q := 146) (tgt := 149) d_mo_leaf_143 rfl (by decide) (by omega) (by omega) (fun hb3 => ?_) (fun hb3 => ?_)
                · exact store (fun _ => hb3)
                · refine z_bipush (v := (-4)) (q := 148) d_mo_leaf_146 rfl (by decide) ?_
                  exact z_iret d_mo_leaf_148 rfl (Nat.le_refl _) (Nat.le_refl _) (by rw [← hPo]; exact Or.inr (Or.inr (Or.inl ⟨hgood, hl20, by rw [eR]; exact fun hh => hb3 (hfit.mp hh x (by omega)), rfl, rfl, fun j hj => zu_ne (by omega), hms.t hexP⟩)))
            have body : Z m_mo_leaf Po 0 0 90 (va_up σ 83 (zN 2400 (ex_ s gt 2300 x))) 53 [some (.ref 78), some (.int (nI R)), some (.int (nI x)), t3, t4, t5] [] := by
              by_cases hxR : x < R
              · rw [if_pos hxR, if_pos hxR] at fin
                clear store
                refine z_lconst (v := lN 0) (q := 54) d_mo_leaf_53 rfl rfl ?_
                refine z_lst3 (q := 55) d_mo_leaf_54 rfl rfl ?_
                refine z_iconst (v := nI 1) (q := 56) d_mo_leaf_55 rfl (by decide) ?_
                refine z_ist5 (q := 58) d_mo_leaf_56 rfl rfl ?_
                refine z_ild5 (q := 60) d_mo_leaf_58 rfl ?_
                refine z_ild1 (q := 61) d_mo_leaf_60 rfl ?_
                have side : Z m_mo_leaf Po 0 0 90 (va_up σ 83 (zN 2400 (ex_ s gt 2300 x))) 105 [some (.ref 78), some (.int (nI R)), some (.int (nI x)), some (.long (lN 0)), none, some (.int (nI 1))] [] := by
                  refine z_ild2 (q := 106) d_mo_leaf_105 rfl ?_
                  refine z_ild1 (q := 107) d_mo_leaf_106 rfl ?_
                  refine zn_icmp_ge (q := 110) (tgt := 121) d_mo_leaf_107 rfl (by decide) (by omega) (by omega) (fun hb => absurd hb (by omega)) (fun _ => ?_)
                  refine z_ald0 (q := 111) d_mo_leaf_110 rfl ?_
                  refine z_get 2 (q := 114) d_mo_leaf_111 rfl fg_mo_7 (by first | assumption | omega) (by first | assumption | omega) (by rfl) ?_
                  refine z_ild1 (q := 115) d_mo_leaf_114 rfl ?_
                  refine z_ild2 (q := 116) d_mo_leaf_115 rfl ?_
                  first | refine zn_iadd (q := 117) d_mo_leaf_116 rfl ?_ | refine z_iadd (q := 117) d_mo_leaf_116 rfl ?_
                  refine z_laload (q := 118) d_mo_leaf_117 rfl (by first | assumption | omega) (by first | assumption | omega) (by omega) (by omega) ?_
                  rw [← hs1 x hxR]
                  refine z_goto (tgt := 122) d_mo_leaf_118 (by decide) ?_
                  exact fin
                refine zn_icmp_gt (q := 64) (tgt := 105) d_mo_leaf_61 rfl (by decide) (by omega) (by omega) (fun _ => side) (fun _ => ?_)
                refine z_ild2 (q := 65) d_mo_leaf_64 rfl ?_
                refine z_ild1 (q := 66) d_mo_leaf_65 rfl ?_
                exact zn_icmp_lt (q := 69) (tgt := 105) d_mo_leaf_66 rfl (by decide) (by omega) (by omega) (fun _ => side) (fun hb => absurd hxR hb)
              · rw [if_neg hxR, if_neg hxR] at fin
                clear store
                have inner : ∀ e2 z, z + e2 = R → Z m_mo_leaf Po 0 0 90 (va_up σ 83 (zN 2400 (ex_ s gt 2300 x))) 58 [some (.ref 78), some (.int (nI R)), some (.int (nI x)), some (.long (lN (fo_ row s x z))), none, some (.int (nI (z + 1)))] [] := by
                  intro e2
                  induction e2 with
                  | zero =>
                    intro z hz
                    obtain rfl : z = R := by omega
                    rw [← hs2 x (by omega)]
                    refine z_ild5 (q := 60) d_mo_leaf_58 rfl ?_
                    refine z_ild1 (q := 61) d_mo_leaf_60 rfl ?_
                    refine zn_icmp_gt (q := 64) (tgt := 105) d_mo_leaf_61 rfl (by decide) (by omega) (by omega) (fun _ => ?_) (fun hb => absurd hb (by omega))
                    refine z_ild2 (q := 106) d_mo_leaf_105 rfl ?_
                    refine z_ild1 (q := 107) d_mo_leaf_106 rfl ?_
                    refine zn_icmp_ge (q := 110) (tgt := 121) d_mo_leaf_107 rfl (by decide) (by omega) (by omega) (fun _ => ?_) (fun hb => absurd hb (by omega))
                    refine z_lld3 (q := 122) d_mo_leaf_121 rfl ?_
                    exact fin
                  | succ e2 ih2 =>
                    intro z hz
                    have q1 := fo_lt row s x z
                    have q3 : ex_ s gt 2300 x (2300 + x - (z + 1)) = s (x - 1 - z) := by
                      rw [show 2300 + x - (z + 1) = 2300 + (x - 1 - z) by omega]
                      exact ex_in (by omega)
                    have q4 := mul_lt (h1' z) (hsP (x - 1 - z))
                    refine z_ild5 (q := 60) d_mo_leaf_58 rfl ?_
                    refine z_ild1 (q := 61) d_mo_leaf_60 rfl ?_
                    refine zn_icmp_gt (q := 64) (tgt := 105) d_mo_leaf_61 rfl (by decide) (by omega) (by omega) (fun hb => absurd hb (by omega)) (fun _ => ?_)
                    refine z_ild2 (q := 65) d_mo_leaf_64 rfl ?_
                    refine z_ild1 (q := 66) d_mo_leaf_65 rfl ?_
                    refine zn_icmp_lt (q := 69) (tgt := 105) d_mo_leaf_66 rfl (by decide) (by omega) (by omega) (fun hb => absurd hb hxR) (fun _ => ?_)
                    refine z_lld3 (q := 70) d_mo_leaf_69 rfl ?_
                    refine z_ald0 (q := 71) d_mo_leaf_70 rfl ?_
                    refine z_get 2 (q := 74) d_mo_leaf_71 rfl fg_mo_7 (by first | assumption | omega) (by first | assumption | omega) (by rfl) ?_
                    refine z_ild5 (q := 76) d_mo_leaf_74 rfl ?_
                    refine z_iconst (v := nI 1) (q := 77) d_mo_leaf_76 rfl (by decide) ?_
                    first | refine zn_isub (q := 78) d_mo_leaf_77 rfl (by omega) ?_ | refine z_isub (q := 78) d_mo_leaf_77 rfl ?_
                    refine z_laload (q := 79) d_mo_leaf_78 rfl (by first | assumption | omega) (by first | assumption | omega) (by omega) (by omega) ?_
                    rw [show z + 1 - 1 = z by omega]
                    refine z_ald0 (q := 80) d_mo_leaf_79 rfl ?_
                    refine z_get 6 (q := 83) d_mo_leaf_80 rfl fg_mo_23 (by first | assumption | omega) (by first | assumption | omega) (by rfl) ?_
                    refine z_sipush (v := nI 2300) (q := 86) d_mo_leaf_83 rfl (by decide) ?_
                    refine z_ild2 (q := 87) d_mo_leaf_86 rfl ?_
                    first | refine zn_iadd (q := 88) d_mo_leaf_87 rfl ?_ | refine z_iadd (q := 88) d_mo_leaf_87 rfl ?_
                    refine z_ild5 (q := 90) d_mo_leaf_88 rfl ?_
                    first | refine zn_isub (q := 91) d_mo_leaf_90 rfl (by omega) ?_ | refine z_isub (q := 91) d_mo_leaf_90 rfl ?_
                    refine z_laload (q := 92) d_mo_leaf_91 rfl (by first | assumption | omega) (by first | assumption | omega) (by omega) (by omega) ?_
                    rw [q3]
                    first | refine zn_lmul (q := 93) d_mo_leaf_92 rfl ?_ | refine z_lmul (q := 93) d_mo_leaf_92 rfl ?_
                    first | refine zn_ladd (q := 94) d_mo_leaf_93 rfl ?_ | refine z_ladd (q := 94) d_mo_leaf_93 rfl ?_
                    refine z_ldc2 (q := 97) d_mo_leaf_94 rfl cl_mo_44 ?_
                    refine zn_lrem (q := 98) d_mo_leaf_97 rfl (by omega) (by omega) (by omega) ?_
                    refine z_lst3 (q := 99) d_mo_leaf_98 rfl rfl ?_
                    refine zn_iinc5 (d := 1) (q := 102) d_mo_leaf_99 rfl rfl ?_
                    refine z_goto (tgt := 58) d_mo_leaf_102 (by decide) ?_
                    exact ih2 (z + 1) (by omega)
                refine z_lconst (v := lN 0) (q := 54) d_mo_leaf_53 rfl rfl ?_
                refine z_lst3 (q := 55) d_mo_leaf_54 rfl rfl ?_
                refine z_iconst (v := nI 1) (q := 56) d_mo_leaf_55 rfl (by decide) ?_
                refine z_ist5 (q := 58) d_mo_leaf_56 rfl rfl ?_
                exact inner R 0 (by omega)
            refine z_ild2 (q := 37) d_mo_leaf_36 rfl ?_
            refine z_iconst (v := nI 2) (q := 38) d_mo_leaf_37 rfl (by decide) ?_
            refine z_ild1 (q := 39) d_mo_leaf_38 rfl ?_
            first | refine zn_imul (q := 40) d_mo_leaf_39 rfl ?_ | refine z_imul (q := 40) d_mo_leaf_39 rfl ?_
            refine zn_icmp_lt (q := 43) (tgt := 53) d_mo_leaf_40 rfl (by decide) (by omega) (by omega) (fun hb => body) (fun hb5 => ?_)
            refine z_ild2 (q := 44) d_mo_leaf_43 rfl ?_
            refine z_ald0 (q := 45) d_mo_leaf_44 rfl ?_
            refine z_get 1 (q := 48) d_mo_leaf_45 rfl fg_mo_71 (by first | assumption | omega) (by first | assumption | omega) (by rfl) ?_
            refine z_ild1 (q := 49) d_mo_leaf_48 rfl ?_
            first | refine zn_isub (q := 50) d_mo_leaf_49 rfl (by omega) ?_ | refine z_isub (q := 50) d_mo_leaf_49 rfl ?_
            exact zn_icmp_ge (q := 53) (tgt := 166) d_mo_leaf_50 rfl (by decide) (by omega) (by omega) (fun hb => absurd hb (by omega)) (fun _ => body)
          · exact atEnd x t3 t4 t5 (by omega) (by omega) hx40 hm
      refine z_iconst (v := nI 0) (q := 35) d_mo_leaf_34 rfl (by decide) ?_
      refine z_ist2 (q := 36) d_mo_leaf_35 rfl rfl ?_
      exact (Z.eqw (by rw [ex_0]; exact zu_id hgt) (loop 40 0 none none none (by omega) (by omega) (fun n hn => by omega)))
    · refine z_bipush (v := (-2)) (q := 33) d_mo_leaf_31 rfl (by decide) ?_
      exact z_iret d_mo_leaf_33 rfl (Nat.le_refl _) (Nat.le_refl _) (by rw [← hPo]; exact Or.inr (Or.inl ⟨hgood, by omega, rfl, rfl, fun _ _ => rfl, hms⟩))
  · have hbad := bad (fun hh => hr hh.1)
    refine z_ild1 (q := 1) d_mo_leaf_0 rfl ?_
    refine z_if_lt (q := 4) (tgt := 20) d_mo_leaf_1 rfl (by decide) (fun _ => hbad) (fun q1 => ?_)
    refine z_ild1 (q := 5) d_mo_leaf_4 rfl ?_
    refine z_bipush (v := nI 12) (q := 7) d_mo_leaf_5 rfl (by decide) ?_
    refine z_icmp_gt (q := 10) (tgt := 20) d_mo_leaf_7 rfl (by decide) (fun _ => hbad) (fun q2 => ?_)
    exact absurd (isR_of (by decide) (by rw [nI_0]; exact q1) (Int32.not_lt.mp q2) (by decide)) hr

theorem mm_differ {σ : zWd} {li gi : Nat} {row od : Nat → Nat} {cf ts : Nat → Nat → Nat} (h : MS li gi row od cf ts σ) (j k : Int32) : Ct m_mo_differ [.ref 78, .int j, .int k] 90 σ (AS MS FrM σ li gi row od cf ts (qDf li od ts (fun a b => od a + od b) j k)) := by
  have hms := h
  obtain ⟨hMc, hMs⟩ := h
  have hMc' := hMc
  have hMs' := hMs
  obtain ⟨h0, ⟨h1, h1'⟩, ⟨fo, h2, h2'⟩, ⟨g1, h3, h3', h3''⟩, ⟨g2, h4, h4', h4''⟩, h5, h6, h7⟩ := hMc
  have h0' : σ 78 = zO 5 [.int (nI li), .int (nI gi), .ref 79, .ref 80, .ref 81, .ref 82, .ref 83, .ref 84, .ref 85, .ref 86, .ref 87, .ref 88, .ref 89] := h0
  obtain ⟨⟨gt, hgt, hgtP⟩, -⟩ := hMs
  by_cases hj : isL li j
  · by_cases hk : isL li k
    · have hgood : isL li j ∧ isL li k := ⟨hj, hk⟩
      obtain ⟨a, ha, rfl⟩ := hj
      obtain ⟨b, hb, rfl⟩ := hk
      have ea : (nI a).toNatClampNeg = a := nI_clamp (by omega)
      have eb : (nI b).toNatClampNeg = b := nI_clamp (by omega)
      have hSa := h5 a ha
      have hoa := hSa.1
      have hSb := h5 b hb
      have hob := hSb.1
      refine Ct.of (lv := [some (.ref 78), some (.int (nI a)), some (.int (nI b)), none, none]) 2 (by decide) rfl (Nat.le_of_ble_eq_true rfl) ?_
      generalize hPo : AS MS FrM σ li gi row od cf ts (qDf li od ts (fun a b => od a + od b) (nI a) (nI b)) = Po
      refine z_ald0 (q := 1) d_mo_differ_0 rfl ?_
      refine z_ild1 (q := 2) d_mo_differ_1 rfl ?_
      refine z_cV1 (q := 5) d_mo_differ_2 rfl (mt_isIn_yes h0 (by omega) h6 ha) (by first | assumption | omega) (by first | assumption | omega) rfl ck_mo_isIn lk_mo_82 im_mo_isIn sl_mo_isIn ⟨by decide, by decide⟩ (Nat.le_of_ble_eq_true rfl) rfl rfl ?_
      refine zi_if_eq (q := 8) (tgt := 16) d_mo_differ_5 rfl (by decide) (by omega) (fun hb9 => absurd hb9 (by omega)) (fun _ => ?_)
      refine z_ald0 (q := 9) d_mo_differ_8 rfl ?_
      refine z_ild2 (q := 10) d_mo_differ_9 rfl ?_
      refine z_cV1 (q := 13) d_mo_differ_10 rfl (mt_isIn_yes h0 (by omega) h6 hb) (by first | assumption | omega) (by first | assumption | omega) rfl ck_mo_isIn lk_mo_82 im_mo_isIn sl_mo_isIn ⟨by decide, by decide⟩ (Nat.le_of_ble_eq_true rfl) rfl rfl ?_
      refine zi_if_ne (q := 16) (tgt := 19) d_mo_differ_13 rfl (by decide) (by omega) (fun _ => ?_) (fun hb9 => absurd hb9 (by omega))
      refine z_ald0 (q := 20) d_mo_differ_19 rfl ?_
      refine z_get 3 (q := 23) d_mo_differ_20 rfl fg_mo_13 (by first | assumption | omega) (by first | assumption | omega) (by rfl) ?_
      refine z_ild1 (q := 24) d_mo_differ_23 rfl ?_
      refine z_iaload (q := 25) d_mo_differ_24 rfl (by first | assumption | omega) (by first | assumption | omega) (by omega) (by omega) ?_
      rw [h2' a ha]
      refine z_ald0 (q := 26) d_mo_differ_25 rfl ?_
      refine z_get 3 (q := 29) d_mo_differ_26 rfl fg_mo_13 (by first | assumption | omega) (by first | assumption | omega) (by rfl) ?_
      refine z_ild2 (q := 30) d_mo_differ_29 rfl ?_
      refine z_iaload (q := 31) d_mo_differ_30 rfl (by first | assumption | omega) (by first | assumption | omega) (by omega) (by omega) ?_
      rw [h2' b hb]
      first | refine zn_iadd (q := 32) d_mo_differ_31 rfl ?_ | refine z_iadd (q := 32) d_mo_differ_31 rfl ?_
      refine z_ist3 (q := 33) d_mo_differ_32 rfl rfl ?_
      refine z_ald0 (q := 34) d_mo_differ_33 rfl ?_
      refine z_iconst (v := nI 0) (q := 35) d_mo_differ_34 rfl (by decide) ?_
      refine z_ild1 (q := 36) d_mo_differ_35 rfl ?_
      refine z_ild3 (q := 37) d_mo_differ_36 rfl ?_
      refine z_cV3v (q := 40) d_mo_differ_37 rfl (mt_expand (at' := 0) (m := od a + od b) hMc' hgt hgtP ha (by omega)) (by first | assumption | omega) (by first | assumption | omega) rfl ck_mo_expand lk_mo_93 im_mo_expand sl_mo_expand ⟨by decide, by decide⟩ (Nat.le_of_ble_eq_true rfl) rfl rfl ?_
      have y0 : va_up σ 83 (zN 2400 (ex_ (ts a) gt 0 (od a + od b))) 78 = zO 5 [.int (nI li), .int (nI gi), .ref 79, .ref 80, .ref 81, .ref 82, .ref 83, .ref 84, .ref 85, .ref 86, .ref 87, .ref 88, .ref 89] := by rw [zu_ne (by omega)]; exact h0
      refine z_ald0 (q := 41) d_mo_differ_40 rfl ?_
      refine z_sipush (v := nI 2200) (q := 44) d_mo_differ_41 rfl (by decide) ?_
      refine z_ild2 (q := 45) d_mo_differ_44 rfl ?_
      refine z_ild3 (q := 46) d_mo_differ_45 rfl ?_
      refine z_cV3v (q := 49) d_mo_differ_46 rfl (mt_expand (at' := 2200) (m := od a + od b) (hMc'.congr (fun j q1 q2 => zu_ne (by omega))) zu_same (ex_lt hSa.2.1 hgtP) hb (by omega)) (by first | assumption | omega) (by first | assumption | omega) rfl ck_mo_expand lk_mo_93 im_mo_expand sl_mo_expand ⟨by decide, by decide⟩ (Nat.le_of_ble_eq_true rfl) rfl rfl ?_
      rw [zu_up]
      generalize hG : ex_ (ts b) (ex_ (ts a) gt 0 (od a + od b)) 2200 (od a + od b) = G
      have hGP : ∀ j, G j < 2147483647 := fun j => by rw [← hG]; exact ex_lt hSb.2.1 (ex_lt hSa.2.1 hgtP) j
      have hGa : ∀ x, x < od a + od b → G (0 + x) = ts a x := fun x hx => by rw [← hG, ex_out (by omega)]; exact ex_in hx
      have hGb : ∀ x, x < od a + od b → G (2200 + x) = ts b x := fun x hx => by rw [← hG]; exact ex_in hx
      have w0 : va_up σ 83 (zN 2400 G) 78 = zO 5 [.int (nI li), .int (nI gi), .ref 79, .ref 80, .ref 81, .ref 82, .ref 83, .ref 84, .ref 85, .ref 86, .ref 87, .ref 88, .ref 89] := by rw [zu_ne (by omega)]; exact h0
      have w3 : va_up σ 83 (zN 2400 G) 83 = zN 2400 G := zu_same
      have hmt := hms.t hGP
      have hfr : FrM σ (va_up σ 83 (zN 2400 G)) := fun j hj => zu_ne (by omega)
      have loop : ∀ e x, x + e = od a + od b → (∀ m, m < x → ts a m = ts b m) → Z m_mo_differ Po 0 0 90 (va_up σ 83 (zN 2400 G)) 52 [some (.ref 78), some (.int (nI a)), some (.int (nI b)), some (.int (nI (od a + od b))), some (.int (nI x))] [] := by
        intro e
        induction e with
        | zero =>
          intro x hx hm
          obtain rfl : x = od a + od b := by omega
          refine z_ild4 (q := 54) d_mo_differ_52 rfl ?_
          refine z_ild3 (q := 55) d_mo_differ_54 rfl ?_
          refine zn_icmp_ge (q := 58) (tgt := 91) d_mo_differ_55 rfl (by decide) (by omega) (by omega) (fun _ => ?_) (fun hb => absurd hb (by omega))
          refine z_iconst (v := (-1)) (q := 92) d_mo_differ_91 rfl (by decide) ?_
          exact z_iret d_mo_differ_92 rfl (Nat.le_refl _) (Nat.le_refl _) (by rw [← hPo]; exact ⟨rfl, hfr, ⟨_, rfl, Or.inr ⟨hgood, by rw [ea, eb]; exact Or.inr ⟨hm, rfl⟩⟩⟩, hmt⟩)
        | succ e ih =>
          intro x hx hm
          have qa := hSa.2.1 x
          have qb := hSb.2.1 x
          refine z_ild4 (q := 54) d_mo_differ_52 rfl ?_
          refine z_ild3 (q := 55) d_mo_differ_54 rfl ?_
          refine zn_icmp_ge (q := 58) (tgt := 91) d_mo_differ_55 rfl (by decide) (by omega) (by omega) (fun hb => absurd hb (by omega)) (fun _ => ?_)
          refine z_ald0 (q := 59) d_mo_differ_58 rfl ?_
          refine z_get 6 (q := 62) d_mo_differ_59 rfl fg_mo_23 (by first | assumption | omega) (by first | assumption | omega) (by rfl) ?_
          refine z_iconst (v := nI 0) (q := 63) d_mo_differ_62 rfl (by decide) ?_
          refine z_ild4 (q := 65) d_mo_differ_63 rfl ?_
          first | refine zn_iadd (q := 66) d_mo_differ_65 rfl ?_ | refine z_iadd (q := 66) d_mo_differ_65 rfl ?_
          refine z_laload (q := 67) d_mo_differ_66 rfl (by first | assumption | omega) (by first | assumption | omega) (by omega) (by omega) ?_
          rw [hGa x (by omega)]
          refine z_ald0 (q := 68) d_mo_differ_67 rfl ?_
          refine z_get 6 (q := 71) d_mo_differ_68 rfl fg_mo_23 (by first | assumption | omega) (by first | assumption | omega) (by rfl) ?_
          refine z_sipush (v := nI 2200) (q := 74) d_mo_differ_71 rfl (by decide) ?_
          refine z_ild4 (q := 76) d_mo_differ_74 rfl ?_
          first | refine zn_iadd (q := 77) d_mo_differ_76 rfl ?_ | refine z_iadd (q := 77) d_mo_differ_76 rfl ?_
          refine z_laload (q := 78) d_mo_differ_77 rfl (by first | assumption | omega) (by first | assumption | omega) (by omega) (by omega) ?_
          rw [hGb x (by omega)]
          refine z_lcmp (q := 79) d_mo_differ_78 rfl ?_
          refine zc_if_eq (q := 82) (tgt := 85) d_mo_differ_79 rfl (by decide) (by omega) (by omega) (fun hb3 => ?_) (fun hb3 => ?_)
          · refine zn_iinc4 (d := 1) (q := 88) d_mo_differ_85 rfl rfl ?_
            refine z_goto (tgt := 52) d_mo_differ_88 (by decide) ?_
            refine ih (x + 1) (by omega) (fun m hm2 => ?_)
            by_cases hmx : m = x
            · rw [hmx]; exact hb3
            · exact hm m (by omega)
          · refine z_ild4 (q := 84) d_mo_differ_82 rfl ?_
            exact z_iret d_mo_differ_84 rfl (Nat.le_refl _) (Nat.le_refl _) (by rw [← hPo]; exact ⟨rfl, hfr, ⟨_, rfl, Or.inr ⟨hgood, by rw [ea, eb]; exact Or.inl ⟨x, (show x < od a + od b by omega), hb3, hm, rfl⟩⟩⟩, hmt⟩)
      refine z_iconst (v := nI 0) (q := 50) d_mo_differ_49 rfl (by decide) ?_
      refine z_ist4 (q := 52) d_mo_differ_50 rfl rfl ?_
      exact loop (od a + od b) 0 (by omega) (fun m hm => by omega)
    · obtain ⟨a, ha, rfl⟩ := hj
      refine Ct.of (lv := [some (.ref 78), some (.int (nI a)), some (.int k), none, none]) 2 (by decide) rfl (Nat.le_of_ble_eq_true rfl) ?_
      refine z_ald0 (q := 1) d_mo_differ_0 rfl ?_
      refine z_ild1 (q := 2) d_mo_differ_1 rfl ?_
      refine z_cV1 (q := 5) d_mo_differ_2 rfl (mt_isIn_yes h0 (by omega) h6 ha) (by first | assumption | omega) (by first | assumption | omega) rfl ck_mo_isIn lk_mo_82 im_mo_isIn sl_mo_isIn ⟨by decide, by decide⟩ (Nat.le_of_ble_eq_true rfl) rfl rfl ?_
      refine zi_if_eq (q := 8) (tgt := 16) d_mo_differ_5 rfl (by decide) (by omega) (fun hb9 => absurd hb9 (by omega)) (fun _ => ?_)
      refine z_ald0 (q := 9) d_mo_differ_8 rfl ?_
      refine z_ild2 (q := 10) d_mo_differ_9 rfl ?_
      refine z_cV1 (q := 13) d_mo_differ_10 rfl (mt_isIn_no h0 (by omega) h6 hk) (by first | assumption | omega) (by first | assumption | omega) rfl ck_mo_isIn lk_mo_82 im_mo_isIn sl_mo_isIn ⟨by decide, by decide⟩ (Nat.le_of_ble_eq_true rfl) rfl rfl ?_
      refine zi_if_ne (q := 16) (tgt := 19) d_mo_differ_13 rfl (by decide) (by omega) (fun hb9 => absurd rfl hb9) (fun _ => ?_)
      refine z_bipush (v := (-2)) (q := 18) d_mo_differ_16 rfl (by decide) ?_
      exact z_iret d_mo_differ_18 rfl (Nat.le_refl _) (Nat.le_refl _) ⟨rfl, fun _ _ => rfl, ⟨_, rfl, Or.inl ⟨fun hh => hk hh.2, rfl⟩⟩, hms⟩
  · refine Ct.of (lv := [some (.ref 78), some (.int j), some (.int k), none, none]) 2 (by decide) rfl (Nat.le_of_ble_eq_true rfl) ?_
    refine z_ald0 (q := 1) d_mo_differ_0 rfl ?_
    refine z_ild1 (q := 2) d_mo_differ_1 rfl ?_
    refine z_cV1 (q := 5) d_mo_differ_2 rfl (mt_isIn_no h0 (by omega) h6 hj) (by first | assumption | omega) (by first | assumption | omega) rfl ck_mo_isIn lk_mo_82 im_mo_isIn sl_mo_isIn ⟨by decide, by decide⟩ (Nat.le_of_ble_eq_true rfl) rfl rfl ?_
    refine zi_if_eq (q := 8) (tgt := 16) d_mo_differ_5 rfl (by decide) (by omega) (fun _ => ?_) (fun hb9 => absurd rfl hb9)
    refine z_bipush (v := (-2)) (q := 18) d_mo_differ_16 rfl (by decide) ?_
    exact z_iret d_mo_differ_18 rfl (Nat.le_refl _) (Nat.le_refl _) ⟨rfl, fun _ _ => rfl, ⟨_, rfl, Or.inl ⟨fun hh => hj hh.1, rfl⟩⟩, hms⟩
theorem mm_obeys {σ : zWd} {li gi : Nat} {row od : Nat → Nat} {cf ts : Nat → Nat → Nat} (h : MS li gi row od cf ts σ) (k : Int32) : Ct m_mo_obeys [.ref 78, .int k] 90 σ (AS MS FrM σ li gi row od cf ts (qOb li gi row od ts k)) := by
  have hms := h
  obtain ⟨hMc, hMs⟩ := h
  have hMc' := hMc
  have hMs' := hMs
  obtain ⟨h0, ⟨h1, h1'⟩, ⟨fo, h2, h2'⟩, ⟨g1, h3, h3', h3''⟩, ⟨g2, h4, h4', h4''⟩, h5, h6, h7⟩ := hMc
  have h0' : σ 78 = zO 5 [.int (nI li), .int (nI gi), .ref 79, .ref 80, .ref 81, .ref 82, .ref 83, .ref 84, .ref 85, .ref 86, .ref 87, .ref 88, .ref 89] := h0
  obtain ⟨⟨gt, hgt, hgtP⟩, -⟩ := hMs
  by_cases hk : isL li k
  · have hk' := hk
    obtain ⟨a, ha, rfl⟩ := hk
    have ea : (nI a).toNatClampNeg = a := nI_clamp (by omega)
    have hSa := h5 a ha
    have hoa := hSa.1
    have hfa := h2' a ha
    refine Ct.of (lv := [some (.ref 78), some (.int (nI a)), none, none, none, none]) 4 (by decide) rfl (Nat.le_of_ble_eq_true rfl) ?_
    generalize hPo : AS MS FrM σ li gi row od cf ts (qOb li gi row od ts (nI a)) = Po
    refine z_ald0 (q := 1) d_mo_obeys_0 rfl ?_
    refine z_ild1 (q := 2) d_mo_obeys_1 rfl ?_
    refine z_cV1 (q := 5) d_mo_obeys_2 rfl (mt_isIn_yes h0 (by omega) h6 ha) (by first | assumption | omega) (by first | assumption | omega) rfl ck_mo_isIn lk_mo_82 im_mo_isIn sl_mo_isIn ⟨by decide, by decide⟩ (Nat.le_of_ble_eq_true rfl) rfl rfl ?_
    refine zi_if_ne (q := 8) (tgt := 10) d_mo_obeys_5 rfl (by decide) (by omega) (fun _ => ?_) (fun hb => absurd hb (by omega))
    refine z_ald0 (q := 11) d_mo_obeys_10 rfl ?_
    refine z_iconst (v := nI 0) (q := 12) d_mo_obeys_11 rfl (by decide) ?_
    refine z_ild1 (q := 13) d_mo_obeys_12 rfl ?_
    refine z_bipush (v := nI 24) (q := 15) d_mo_obeys_13 rfl (by decide) ?_
    refine z_ald0 (q := 16) d_mo_obeys_15 rfl ?_
    refine z_get 1 (q := 19) d_mo_obeys_16 rfl fg_mo_71 (by first | assumption | omega) (by first | assumption | omega) (by rfl) ?_
    first | refine zn_iadd (q := 20) d_mo_obeys_19 rfl ?_ | refine z_iadd (q := 20) d_mo_obeys_19 rfl ?_
    refine z_cV3v (q := 23) d_mo_obeys_20 rfl (mt_expand (at' := 0) (m := 24 + gi) hMc' hgt hgtP ha (by omega)) (by first | assumption | omega) (by first | assumption | omega) rfl ck_mo_expand lk_mo_93 im_mo_expand sl_mo_expand ⟨by decide, by decide⟩ (Nat.le_of_ble_eq_true rfl) rfl rfl ?_
    generalize hG : ex_ (ts a) gt 0 (24 + gi) = G
    have hGP : ∀ j, G j < 2147483647 := fun j => by rw [← hG]; exact ex_lt hSa.2.1 hgtP j
    have hGa : ∀ z, z < 24 + gi → G z = ts a z := fun z hz => by rw [← hG]; have := ex_in (s := ts a) (g := gt) (at' := 0) hz; rw [Nat.zero_add] at this; exact this
    have w0 : va_up σ 83 (zN 2400 G) 78 = zO 5 [.int (nI li), .int (nI gi), .ref 79, .ref 80, .ref 81, .ref 82, .ref 83, .ref 84, .ref 85, .ref 86, .ref 87, .ref 88, .ref 89] := by rw [zu_ne (by omega)]; exact h0
    have w1 : va_up σ 83 (zN 2400 G) 79 = zN 40 row := by rw [zu_ne (by omega)]; exact h1
    have w2 : va_up σ 83 (zN 2400 G) 80 = zI 20 fo := by rw [zu_ne (by omega)]; exact h2
    have w3 : va_up σ 83 (zN 2400 G) 83 = zN 2400 G := zu_same
    have hmt := hms.t hGP
    have hfr : FrM σ (va_up σ 83 (zN 2400 G)) := fun j hj => zu_ne (by omega)
    generalize hW : va_up σ 83 (zN 2400 G) = W at *
    have loop : ∀ (e x : Nat) (t3 t4 t5 : Option Value), x + e = od a → (∀ n, n < x → ts a (n + gi) = fo_ row (ts a) (n + gi) gi) → Z m_mo_obeys Po 0 0 90 W 25 [some (.ref 78), some (.int (nI a)), some (.int (nI x)), t3, t4, t5] [] := by
      intro e
      induction e with
      | zero =>
        intro x t3 t4 t5 hx hm
        obtain rfl : x = od a := by omega
        refine z_ild2 (q := 26) d_mo_obeys_25 rfl ?_
        refine z_ald0 (q := 27) d_mo_obeys_26 rfl ?_
        refine z_get 3 (q := 30) d_mo_obeys_27 rfl fg_mo_13 (by first | assumption | omega) (by first | assumption | omega) (by rfl) ?_
        refine z_ild1 (q := 31) d_mo_obeys_30 rfl ?_
        refine z_iaload (q := 32) d_mo_obeys_31 rfl (by first | assumption | omega) (by first | assumption | omega) (by omega) (by omega) ?_
        rw [hfa]
        refine zn_icmp_ge (q := 35) (tgt := 114) d_mo_obeys_32 rfl (by decide) (by omega) (by omega) (fun hb => ?_) (fun hb => ?_)
        · refine z_iconst (v := nI 1) (q := 115) d_mo_obeys_114 rfl (by decide) ?_
          exact z_zret d_mo_obeys_115 rfl rfl (Nat.le_refl _) (Nat.le_refl _) (by rw [← hPo]; exact ⟨rfl, hfr, ⟨_, rfl, Or.inr ⟨hk', Or.inl ⟨by rw [ea]; exact hm, rfl⟩⟩⟩, hmt⟩)
        · exact absurd hb (by omega)
      | succ e ih =>
        intro x t3 t4 t5 hx hm
        have qf := fo_lt row (ts a) (x + gi) gi
        have qt := hSa.2.1 (x + gi)
        have inner : ∀ e2 z, z + e2 = gi → Z m_mo_obeys Po 0 0 90 W 40 [some (.ref 78), some (.int (nI a)), some (.int (nI x)), some (.long (lN (fo_ row (ts a) (x + gi) z))), none, some (.int (nI (z + 1)))] [] := by
          intro e2
          induction e2 with
          | zero =>
            intro z hz
            obtain rfl : z = gi := by omega
            refine z_ild5 (q := 42) d_mo_obeys_40 rfl ?_
            refine z_ald0 (q := 43) d_mo_obeys_42 rfl ?_
            refine z_get 1 (q := 46) d_mo_obeys_43 rfl fg_mo_71 (by first | assumption | omega) (by first | assumption | omega) (by rfl) ?_
            refine zn_icmp_gt (q := 49) (tgt := 88) d_mo_obeys_46 rfl (by decide) (by omega) (by omega) (fun _ => ?_) (fun hb => absurd hb (by omega))
            refine z_lld3 (q := 89) d_mo_obeys_88 rfl ?_
            refine z_ald0 (q := 90) d_mo_obeys_89 rfl ?_
            refine z_get 6 (q := 93) d_mo_obeys_90 rfl fg_mo_23 (by first | assumption | omega) (by first | assumption | omega) (by rfl) ?_
            refine z_iconst (v := nI 0) (q := 94) d_mo_obeys_93 rfl (by decide) ?_
            refine z_ild2 (q := 95) d_mo_obeys_94 rfl ?_
            first | refine zn_iadd (q := 96) d_mo_obeys_95 rfl ?_ | refine z_iadd (q := 96) d_mo_obeys_95 rfl ?_
            refine z_ald0 (q := 97) d_mo_obeys_96 rfl ?_
            refine z_get 1 (q := 100) d_mo_obeys_97 rfl fg_mo_71 (by first | assumption | omega) (by first | assumption | omega) (by rfl) ?_
            first | refine zn_iadd (q := 101) d_mo_obeys_100 rfl ?_ | refine z_iadd (q := 101) d_mo_obeys_100 rfl ?_
            refine z_laload (q := 102) d_mo_obeys_101 rfl (by first | assumption | omega) (by first | assumption | omega) (by omega) (by omega) ?_
            rw [Nat.zero_add, hGa (x + z) (by omega)]
            refine z_lcmp (q := 103) d_mo_obeys_102 rfl ?_
            refine zc_if_eq (q := 106) (tgt := 108) d_mo_obeys_103 rfl (by decide) (by omega) (by omega) (fun hb3 => ?_) (fun hb3 => ?_)
            · refine zn_iinc2 (d := 1) (q := 111) d_mo_obeys_108 rfl rfl ?_
              refine z_goto (tgt := 25) d_mo_obeys_111 (by decide) ?_
              refine ih (x + 1) _ _ _ (by omega) (fun n hn => ?_)
              by_cases hnx : n = x
              · rw [hnx]; exact hb3.symm
              · exact hm n (by omega)
            · refine z_iconst (v := nI 0) (q := 107) d_mo_obeys_106 rfl (by decide) ?_
              exact z_zret d_mo_obeys_107 rfl rfl (Nat.le_refl _) (Nat.le_refl _) (by rw [← hPo]; exact ⟨rfl, hfr, ⟨_, rfl, Or.inr ⟨hk', Or.inr ⟨by rw [ea]; exact fun hh => hb3 (hh x (by omega)).symm, rfl⟩⟩⟩, hmt⟩)
          | succ e2 ih2 =>
            intro z hz
            have q1 := fo_lt row (ts a) (x + gi) z
            have q3 : G (0 + x + gi - (z + 1)) = ts a (x + gi - 1 - z) := by
              rw [show 0 + x + gi - (z + 1) = x + gi - 1 - z by omega]
              exact hGa _ (by omega)
            have q4 := mul_lt (h1' z) (hSa.2.1 (x + gi - 1 - z))
            refine z_ild5 (q := 42) d_mo_obeys_40 rfl ?_
            refine z_ald0 (q := 43) d_mo_obeys_42 rfl ?_
            refine z_get 1 (q := 46) d_mo_obeys_43 rfl fg_mo_71 (by first | assumption | omega) (by first | assumption | omega) (by rfl) ?_
            refine zn_icmp_gt (q := 49) (tgt := 88) d_mo_obeys_46 rfl (by decide) (by omega) (by omega) (fun hb => absurd hb (by omega)) (fun _ => ?_)
            refine z_lld3 (q := 50) d_mo_obeys_49 rfl ?_
            refine z_ald0 (q := 51) d_mo_obeys_50 rfl ?_
            refine z_get 2 (q := 54) d_mo_obeys_51 rfl fg_mo_7 (by first | assumption | omega) (by first | assumption | omega) (by rfl) ?_
            refine z_ild5 (q := 56) d_mo_obeys_54 rfl ?_
            refine z_iconst (v := nI 1) (q := 57) d_mo_obeys_56 rfl (by decide) ?_
            first | refine zn_isub (q := 58) d_mo_obeys_57 rfl (by omega) ?_ | refine z_isub (q := 58) d_mo_obeys_57 rfl ?_
            refine z_laload (q := 59) d_mo_obeys_58 rfl (by first | assumption | omega) (by first | assumption | omega) (by omega) (by omega) ?_
            rw [show z + 1 - 1 = z by omega]
            refine z_ald0 (q := 60) d_mo_obeys_59 rfl ?_
            refine z_get 6 (q := 63) d_mo_obeys_60 rfl fg_mo_23 (by first | assumption | omega) (by first | assumption | omega) (by rfl) ?_
            refine z_iconst (v := nI 0) (q := 64) d_mo_obeys_63 rfl (by decide) ?_
            refine z_ild2 (q := 65) d_mo_obeys_64 rfl ?_
            first | refine zn_iadd (q := 66) d_mo_obeys_65 rfl ?_ | refine z_iadd (q := 66) d_mo_obeys_65 rfl ?_
            refine z_ald0 (q := 67) d_mo_obeys_66 rfl ?_
            refine z_get 1 (q := 70) d_mo_obeys_67 rfl fg_mo_71 (by first | assumption | omega) (by first | assumption | omega) (by rfl) ?_
            first | refine zn_iadd (q := 71) d_mo_obeys_70 rfl ?_ | refine z_iadd (q := 71) d_mo_obeys_70 rfl ?_
            refine z_ild5 (q := 73) d_mo_obeys_71 rfl ?_
            first | refine zn_isub (q := 74) d_mo_obeys_73 rfl (by omega) ?_ | refine z_isub (q := 74) d_mo_obeys_73 rfl ?_
            refine z_laload (q := 75) d_mo_obeys_74 rfl (by first | assumption | omega) (by first | assumption | omega) (by omega) (by omega) ?_
            rw [q3]
            first | refine zn_lmul (q := 76) d_mo_obeys_75 rfl ?_ | refine z_lmul (q := 76) d_mo_obeys_75 rfl ?_
            first | refine zn_ladd (q := 77) d_mo_obeys_76 rfl ?_ | refine z_ladd (q := 77) d_mo_obeys_76 rfl ?_
            refine z_ldc2 (q := 80) d_mo_obeys_77 rfl cl_mo_44 ?_
            refine zn_lrem (q := 81) d_mo_obeys_80 rfl (by omega) (by omega) (by omega) ?_
            refine z_lst3 (q := 82) d_mo_obeys_81 rfl rfl ?_
            refine zn_iinc5 (d := 1) (q := 85) d_mo_obeys_82 rfl rfl ?_
            refine z_goto (tgt := 40) d_mo_obeys_85 (by decide) ?_
            exact ih2 (z + 1) (by omega)
        refine z_ild2 (q := 26) d_mo_obeys_25 rfl ?_
        refine z_ald0 (q := 27) d_mo_obeys_26 rfl ?_
        refine z_get 3 (q := 30) d_mo_obeys_27 rfl fg_mo_13 (by first | assumption | omega) (by first | assumption | omega) (by rfl) ?_
        refine z_ild1 (q := 31) d_mo_obeys_30 rfl ?_
        refine z_iaload (q := 32) d_mo_obeys_31 rfl (by first | assumption | omega) (by first | assumption | omega) (by omega) (by omega) ?_
        rw [hfa]
        refine zn_icmp_ge (q := 35) (tgt := 114) d_mo_obeys_32 rfl (by decide) (by omega) (by omega) (fun hb => ?_) (fun hb => ?_)
        · exact absurd hb (by omega)
        · refine z_lconst (v := lN 0) (q := 36) d_mo_obeys_35 rfl rfl ?_
          refine z_lst3 (q := 37) d_mo_obeys_36 rfl rfl ?_
          refine z_iconst (v := nI 1) (q := 38) d_mo_obeys_37 rfl (by decide) ?_
          refine z_ist5 (q := 40) d_mo_obeys_38 rfl rfl ?_
          exact inner gi 0 (by omega)
    refine z_iconst (v := nI 0) (q := 24) d_mo_obeys_23 rfl (by decide) ?_
    refine z_ist2 (q := 25) d_mo_obeys_24 rfl rfl ?_
    exact loop (od a) 0 none none none (by omega) (fun n hn => by omega)
  · refine Ct.of (lv := [some (.ref 78), some (.int k), none, none, none, none]) 4 (by decide) rfl (Nat.le_of_ble_eq_true rfl) ?_
    refine z_ald0 (q := 1) d_mo_obeys_0 rfl ?_
    refine z_ild1 (q := 2) d_mo_obeys_1 rfl ?_
    refine z_cV1 (q := 5) d_mo_obeys_2 rfl (mt_isIn_no h0 (by omega) h6 hk) (by first | assumption | omega) (by first | assumption | omega) rfl ck_mo_isIn lk_mo_82 im_mo_isIn sl_mo_isIn ⟨by decide, by decide⟩ (Nat.le_of_ble_eq_true rfl) rfl rfl ?_
    refine zi_if_ne (q := 8) (tgt := 10) d_mo_obeys_5 rfl (by decide) (by omega) (fun hb => absurd rfl hb) (fun _ => ?_)
    refine z_iconst (v := nI 0) (q := 9) d_mo_obeys_8 rfl (by decide) ?_
    exact z_zret d_mo_obeys_9 rfl rfl (Nat.le_refl _) (Nat.le_refl _) ⟨rfl, fun _ _ => rfl, ⟨_, rfl, Or.inl ⟨hk, rfl⟩⟩, hms⟩


