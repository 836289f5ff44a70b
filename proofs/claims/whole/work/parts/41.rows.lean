/-! The reference: ask, swapRows, clean -/
/-- the equations of ask: row n, column c -/
def av_ (tt : Nat → Nat) (at' r n c : Nat) : Nat := if c < r then tt (at' + n + r - (c + 1)) else tt (at' + n + r)
def as_ (tt g : Nat → Nat) (fr at' r x y : Nat) : Nat → Nat := fun j => if (fr ≤ j / 49 ∧ j / 49 < fr + x ∧ j % 49 ≤ r) ∨ (j / 49 = fr + x ∧ j % 49 < y) then av_ tt at' r (j / 49 - fr) (j % 49) else g j
theorem as_00 (tt g : Nat → Nat) (fr at' r : Nat) : as_ tt g fr at' r 0 0 = g := by
  funext j
  unfold as_
  rw [if_neg (by omega)]
theorem as_s {tt g : Nat → Nat} {fr at' r x y v : Nat} (hy : y < 49) (hv : v = av_ tt at' r x y) : va_up (as_ tt g fr at' r x y) ((fr + x) * 49 + y) v = as_ tt g fr at' r x (y + 1) := by
  funext j
  unfold va_up as_
  by_cases h : j = (fr + x) * 49 + y
  · have e1 : j / 49 = fr + x := by omega
    have e2 : j % 49 = y := by omega
    rw [if_pos h, if_pos (by omega), e1, e2, show fr + x - fr = x by omega, hv]
  · rw [if_neg h]
    by_cases h2 : (fr ≤ j / 49 ∧ j / 49 < fr + x ∧ j % 49 ≤ r) ∨ (j / 49 = fr + x ∧ j % 49 < y)
    · rw [if_pos h2, if_pos (by omega)]
    · rw [if_neg h2, if_neg (by omega)]
theorem as_n {tt g : Nat → Nat} {fr at' r x : Nat} (hr : r ≤ 48) : as_ tt g fr at' r x (r + 1) = as_ tt g fr at' r (x + 1) 0 := by
  funext j
  unfold as_
  by_cases h2 : (fr ≤ j / 49 ∧ j / 49 < fr + x ∧ j % 49 ≤ r) ∨ (j / 49 = fr + x ∧ j % 49 < r + 1)
  · rw [if_pos h2, if_pos (by omega)]
  · rw [if_neg h2, if_neg (by omega)]
theorem as_lt {tt g : Nat → Nat} {fr at' r x y : Nat} (ht : ∀ j, tt j < 2147483647) (hg : ∀ j, g j < 2147483647) : ∀ j, as_ tt g fr at' r x y j < 2147483647 := by
  intro j
  unfold as_ av_
  split
  · split
    · exact ht _
    · exact ht _
  · exact hg _
theorem as_in {tt g : Nat → Nat} {fr at' r x q c : Nat} (h1 : fr ≤ q) (h2 : q < fr + x) (hc : c ≤ r) (hr : r ≤ 48) : as_ tt g fr at' r x 0 (q * 49 + c) = av_ tt at' r (q - fr) c := by
  have e1 : (q * 49 + c) / 49 = q := by omega
  have e2 : (q * 49 + c) % 49 = c := by omega
  unfold as_
  rw [e1, e2, if_pos (by omega)]
theorem as_out {tt g : Nat → Nat} {fr at' r x q c : Nat} (h : q < fr ∨ fr + x ≤ q) (hc : c < 49) : as_ tt g fr at' r x 0 (q * 49 + c) = g (q * 49 + c) := by
  have e1 : (q * 49 + c) / 49 = q := by omega
  unfold as_
  rw [e1, if_neg (by omega)]
theorem mt_ask {σ : zWd} {li gi : Nat} {tt g : Nat → Nat} {fr at' many r : Nat} (h0 : σ 78 = m0_ li gi) (ht : σ 83 = zN 2400 tt) (hg : σ 84 = zN 2352 g) (hr : r ≤ 48) (hfr : fr + many ≤ 48) (hat : at' + many + r ≤ 2400) (htP : ∀ j, tt j < 2147483647) (hgP : ∀ j, g j < 2147483647) : Ct m_mo_ask [.ref 78, .int (nI fr), .int (nI at'), .int (nI many), .int (nI r)] 90 σ (zEq none 90 (va_up σ 84 (zN 2352 (as_ tt g fr at' r many 0)))) := by
  have h0 : σ 78 = zO 5 [.int (nI li), .int (nI gi), .ref 79, .ref 80, .ref 81, .ref 82, .ref 83, .ref 84, .ref 85, .ref 86, .ref 87, .ref 88, .ref 89] := h0
  refine Ct.of (lv := [some (.ref 78), some (.int (nI fr)), some (.int (nI at')), some (.int (nI many)), some (.int (nI r)), none, none, none]) 3 (by decide) rfl (Nat.le_of_ble_eq_true rfl) ?_
  generalize hPo : zEq none 90 (va_up σ 84 (zN 2352 (as_ tt g fr at' r many 0))) = Po
  have loop : ∀ e x (t6 t7 : Option Value), x + e = many → Z m_mo_ask Po 0 0 90 (va_up σ 84 (zN 2352 (as_ tt g fr at' r x 0))) 3 [some (.ref 78), some (.int (nI fr)), some (.int (nI at')), some (.int (nI many)), some (.int (nI r)), some (.int (nI x)), t6, t7] [] := by
    intro e
    induction e with
    | zero =>
      intro x t6 t7 hx
      obtain rfl : x = many := by omega
      refine z_ild5 (q := 5) d_mo_ask_3 rfl ?_
      refine z_ild3 (q := 6) d_mo_ask_5 rfl ?_
      refine zn_icmp_ge (q := 9) (tgt := 89) d_mo_ask_6 rfl (by decide) (by omega) (by omega) (fun hb => ?_) (fun hb => ?_)
      · exact z_vret d_mo_ask_89 rfl (Nat.le_refl _) (Nat.le_refl _) (by rw [← hPo]; exact ⟨rfl, rfl, rfl⟩)
      · exact absurd hb (by omega)
    | succ e ih =>
      intro x t6 t7 hx
      have inner : ∀ e2 y, y + e2 = r → Z m_mo_ask Po 0 0 90 (va_up σ 84 (zN 2352 (as_ tt g fr at' r x y))) 21 [some (.ref 78), some (.int (nI fr)), some (.int (nI at')), some (.int (nI many)), some (.int (nI r)), some (.int (nI x)), some (.int (nI ((fr + x) * 49))), some (.int (nI (y + 1)))] [] := by
        intro e2
        induction e2 with
        | zero =>
          intro y hy
          obtain rfl : y = r := by omega
          have w0 : va_up σ 84 (zN 2352 (as_ tt g fr at' y x y)) 78 = zO 5 [.int (nI li), .int (nI gi), .ref 79, .ref 80, .ref 81, .ref 82, .ref 83, .ref 84, .ref 85, .ref 86, .ref 87, .ref 88, .ref 89] := by rw [zu_ne (by omega)]; exact h0
          have w3 : va_up σ 84 (zN 2352 (as_ tt g fr at' y x y)) 83 = zN 2400 tt := by rw [zu_ne (by omega)]; exact ht
          have w4 : va_up σ 84 (zN 2352 (as_ tt g fr at' y x y)) 84 = zN 2352 (as_ tt g fr at' y x y) := zu_same
          refine z_ild7 (q := 23) d_mo_ask_21 rfl ?_
          refine z_ild4 (q := 25) d_mo_ask_23 rfl ?_
          refine zn_icmp_gt (q := 28) (tgt := 61) d_mo_ask_25 rfl (by decide) (by omega) (by omega) (fun hb => ?_) (fun hb => ?_)
          · refine z_ald0 (q := 62) d_mo_ask_61 rfl ?_
            refine z_get 7 (q := 65) d_mo_ask_62 rfl fg_mo_26 (by first | assumption | omega) (by first | assumption | omega) (by rfl) ?_
            refine z_ild6 (q := 67) d_mo_ask_65 rfl ?_
            refine z_ild4 (q := 69) d_mo_ask_67 rfl ?_
            first | refine zn_iadd (q := 70) d_mo_ask_69 rfl ?_ | refine z_iadd (q := 70) d_mo_ask_69 rfl ?_
            refine z_ald0 (q := 71) d_mo_ask_70 rfl ?_
            refine z_get 6 (q := 74) d_mo_ask_71 rfl fg_mo_23 (by first | assumption | omega) (by first | assumption | omega) (by rfl) ?_
            refine z_ild2 (q := 75) d_mo_ask_74 rfl ?_
            refine z_ild5 (q := 77) d_mo_ask_75 rfl ?_
            first | refine zn_iadd (q := 78) d_mo_ask_77 rfl ?_ | refine z_iadd (q := 78) d_mo_ask_77 rfl ?_
            refine z_ild4 (q := 80) d_mo_ask_78 rfl ?_
            first | refine zn_iadd (q := 81) d_mo_ask_80 rfl ?_ | refine z_iadd (q := 81) d_mo_ask_80 rfl ?_
            refine z_laload (q := 82) d_mo_ask_81 rfl (by first | assumption | omega) (by first | assumption | omega) (by omega) (by omega) ?_
            refine z_lastore (q := 83) d_mo_ask_82 rfl (by first | assumption | omega) (by first | assumption | omega) (by omega) (by omega) ?_
            refine zn_iinc5 (d := 1) (q := 86) d_mo_ask_83 rfl rfl ?_
            refine z_goto (tgt := 3) d_mo_ask_86 (by decide) ?_
            refine Z.eqw ?_ (ih (x + 1) _ _ (by omega))
            rw [zu_up, as_s (by omega) (by unfold av_; rw [if_neg (by omega)]), as_n hr]
          · exact absurd hb (by omega)
        | succ e2 ih2 =>
          intro y hy
          have w0 : va_up σ 84 (zN 2352 (as_ tt g fr at' r x y)) 78 = zO 5 [.int (nI li), .int (nI gi), .ref 79, .ref 80, .ref 81, .ref 82, .ref 83, .ref 84, .ref 85, .ref 86, .ref 87, .ref 88, .ref 89] := by rw [zu_ne (by omega)]; exact h0
          have w3 : va_up σ 84 (zN 2352 (as_ tt g fr at' r x y)) 83 = zN 2400 tt := by rw [zu_ne (by omega)]; exact ht
          have w4 : va_up σ 84 (zN 2352 (as_ tt g fr at' r x y)) 84 = zN 2352 (as_ tt g fr at' r x y) := zu_same
          refine z_ild7 (q := 23) d_mo_ask_21 rfl ?_
          refine z_ild4 (q := 25) d_mo_ask_23 rfl ?_
          refine zn_icmp_gt (q := 28) (tgt := 61) d_mo_ask_25 rfl (by decide) (by omega) (by omega) (fun hb => ?_) (fun hb => ?_)
          · exact absurd hb (by omega)
          · refine z_ald0 (q := 29) d_mo_ask_28 rfl ?_
            refine z_get 7 (q := 32) d_mo_ask_29 rfl fg_mo_26 (by first | assumption | omega) (by first | assumption | omega) (by rfl) ?_
            refine z_ild6 (q := 34) d_mo_ask_32 rfl ?_
            refine z_ild7 (q := 36) d_mo_ask_34 rfl ?_
            first | refine zn_iadd (q := 37) d_mo_ask_36 rfl ?_ | refine z_iadd (q := 37) d_mo_ask_36 rfl ?_
            refine z_iconst (v := nI 1) (q := 38) d_mo_ask_37 rfl (by decide) ?_
            first | refine zn_isub (q := 39) d_mo_ask_38 rfl (by omega) ?_ | refine z_isub (q := 39) d_mo_ask_38 rfl ?_
            refine z_ald0 (q := 40) d_mo_ask_39 rfl ?_
            refine z_get 6 (q := 43) d_mo_ask_40 rfl fg_mo_23 (by first | assumption | omega) (by first | assumption | omega) (by rfl) ?_
            refine z_ild2 (q := 44) d_mo_ask_43 rfl ?_
            refine z_ild5 (q := 46) d_mo_ask_44 rfl ?_
            first | refine zn_iadd (q := 47) d_mo_ask_46 rfl ?_ | refine z_iadd (q := 47) d_mo_ask_46 rfl ?_
            refine z_ild4 (q := 49) d_mo_ask_47 rfl ?_
            first | refine zn_iadd (q := 50) d_mo_ask_49 rfl ?_ | refine z_iadd (q := 50) d_mo_ask_49 rfl ?_
            refine z_ild7 (q := 52) d_mo_ask_50 rfl ?_
            first | refine zn_isub (q := 53) d_mo_ask_52 rfl (by omega) ?_ | refine z_isub (q := 53) d_mo_ask_52 rfl ?_
            refine z_laload (q := 54) d_mo_ask_53 rfl (by first | assumption | omega) (by first | assumption | omega) (by omega) (by omega) ?_
            refine z_lastore (q := 55) d_mo_ask_54 rfl (by first | assumption | omega) (by first | assumption | omega) (by omega) (by omega) ?_
            refine zn_iinc7 (d := 1) (q := 58) d_mo_ask_55 rfl rfl ?_
            refine z_goto (tgt := 21) d_mo_ask_58 (by decide) ?_
            refine Z.eqw ?_ (ih2 (y + 1) (by omega))
            rw [zu_up, show (fr + x) * 49 + (y + 1) - 1 = (fr + x) * 49 + y by omega, as_s (by omega) (by unfold av_; rw [if_pos (by omega)])]
      refine z_ild5 (q := 5) d_mo_ask_3 rfl ?_
      refine z_ild3 (q := 6) d_mo_ask_5 rfl ?_
      refine zn_icmp_ge (q := 9) (tgt := 89) d_mo_ask_6 rfl (by decide) (by omega) (by omega) (fun hb => ?_) (fun hb => ?_)
      · exact absurd hb (by omega)
      · refine z_ild1 (q := 10) d_mo_ask_9 rfl ?_
        refine z_ild5 (q := 12) d_mo_ask_10 rfl ?_
        first | refine zn_iadd (q := 13) d_mo_ask_12 rfl ?_ | refine z_iadd (q := 13) d_mo_ask_12 rfl ?_
        refine z_bipush (v := nI 49) (q := 15) d_mo_ask_13 rfl (by decide) ?_
        first | refine zn_imul (q := 16) d_mo_ask_15 rfl ?_ | refine z_imul (q := 16) d_mo_ask_15 rfl ?_
        refine z_ist6 (q := 18) d_mo_ask_16 rfl rfl ?_
        refine z_iconst (v := nI 1) (q := 19) d_mo_ask_18 rfl (by decide) ?_
        refine z_ist7 (q := 21) d_mo_ask_19 rfl rfl ?_
        exact inner r 0 (by omega)
  refine z_iconst (v := nI 0) (q := 1) d_mo_ask_0 rfl (by decide) ?_
  refine z_ist5 (q := 3) d_mo_ask_1 rfl rfl ?_
  exact (Z.eqw (by rw [as_00]; exact zu_id hg) (loop many 0 none none (by omega)))
/-- swapRows -/
def sr_ (g : Nat → Nat) (a b x : Nat) : Nat → Nat := fun j => if j % 49 < x then (if j / 49 = a then g (b * 49 + j % 49) else if j / 49 = b then g (a * 49 + j % 49) else g j) else g j
theorem sr_0 (g : Nat → Nat) (a b : Nat) : sr_ g a b 0 = g := by
  funext j
  unfold sr_
  rw [if_neg (by omega)]
theorem sr_at {g : Nat → Nat} {a b x q : Nat} (hx : x < 49) : sr_ g a b x (q * 49 + x) = g (q * 49 + x) := by
  unfold sr_
  rw [if_neg (by omega)]
theorem sr_s {g : Nat → Nat} {a b x : Nat} (hx : x < 49) : va_up (va_up (sr_ g a b x) (a * 49 + x) (g (b * 49 + x))) (b * 49 + x) (g (a * 49 + x)) = sr_ g a b (x + 1) := by
  funext j
  unfold va_up sr_
  by_cases h1 : j % 49 = x
  · by_cases h2 : j / 49 = b
    · rw [if_pos (by omega), if_pos (by omega)]
      by_cases h3 : j / 49 = a
      · rw [if_pos h3, h1, ← h2, ← h3]
      · rw [if_neg h3, if_pos h2, h1]
    · rw [if_neg (by omega)]
      by_cases h3 : j / 49 = a
      · rw [if_pos (by omega), if_pos (by omega), if_pos h3, h1]
      · rw [if_neg (by omega), if_neg (by omega), if_pos (by omega), if_neg h3, if_neg h2]
  · rw [if_neg (by omega), if_neg (by omega)]
    by_cases h4 : j % 49 < x
    · rw [if_pos h4, if_pos (show j % 49 < x + 1 by omega)]
    · rw [if_neg h4, if_neg (show ¬ j % 49 < x + 1 by omega)]
theorem sr_lt {g : Nat → Nat} {a b x : Nat} (hg : ∀ j, g j < 2147483647) : ∀ j, sr_ g a b x j < 2147483647 := by
  intro j
  unfold sr_
  split
  · split
    · exact hg _
    · split
      · exact hg _
      · exact hg _
  · exact hg _
theorem sr_ph {g : Nat → Nat} {a b r : Nat} (hr : r ≤ 48) : ∀ q c, c ≤ r → ph (sr_ g a b (r + 1) (q * 49 + c)) = sw_ (fun q c => ph (g (q * 49 + c))) a b q c := by
  intro q c hc
  have e1 : (q * 49 + c) / 49 = q := by omega
  have e2 : (q * 49 + c) % 49 = c := by omega
  unfold sr_ sw_
  rw [e1, e2, if_pos (by omega)]
  by_cases h1 : q = a
  · rw [if_pos h1, if_pos h1]
  · rw [if_neg h1, if_neg h1]
    by_cases h2 : q = b
    · rw [if_pos h2, if_pos h2]
    · rw [if_neg h2, if_neg h2]
theorem mt_swapRows {σ : zWd} {li gi : Nat} {g : Nat → Nat} {a b r : Nat} (h0 : σ 78 = m0_ li gi) (hg : σ 84 = zN 2352 g) (ha : a < 48) (hb' : b < 48) (hr : r ≤ 48) : Ct m_mo_swapRows [.ref 78, .int (nI a), .int (nI b), .int (nI r)] 90 σ (zEq none 90 (va_up σ 84 (zN 2352 (sr_ g a b (r + 1))))) := by
  have h0 : σ 78 = zO 5 [.int (nI li), .int (nI gi), .ref 79, .ref 80, .ref 81, .ref 82, .ref 83, .ref 84, .ref 85, .ref 86, .ref 87, .ref 88, .ref 89] := h0
  refine Ct.of (lv := [some (.ref 78), some (.int (nI a)), some (.int (nI b)), some (.int (nI r)), none, none, none]) 3 (by decide) rfl (Nat.le_of_ble_eq_true rfl) ?_
  generalize hPo : zEq none 90 (va_up σ 84 (zN 2352 (sr_ g a b (r + 1)))) = Po
  have loop : ∀ e x (t5 t6 : Option Value), x + e = r + 1 → Z m_mo_swapRows Po 0 0 90 (va_up σ 84 (zN 2352 (sr_ g a b x))) 3 [some (.ref 78), some (.int (nI a)), some (.int (nI b)), some (.int (nI r)), some (.int (nI x)), t5, t6] [] := by
    intro e
    induction e with
    | zero =>
      intro x t5 t6 hx
      obtain rfl : x = r + 1 := by omega
      refine z_ild4 (q := 5) d_mo_swapRows_3 rfl ?_
      refine z_ild3 (q := 6) d_mo_swapRows_5 rfl ?_
      refine zn_icmp_gt (q := 9) (tgt := 67) d_mo_swapRows_6 rfl (by decide) (by omega) (by omega) (fun hb => ?_) (fun hb => ?_)
      · exact z_vret d_mo_swapRows_67 rfl (Nat.le_refl _) (Nat.le_refl _) (by rw [← hPo]; exact ⟨rfl, rfl, rfl⟩)
      · exact absurd hb (by omega)
    | succ e ih =>
      intro x t5 t6 hx
      have w0 : va_up σ 84 (zN 2352 (sr_ g a b x)) 78 = zO 5 [.int (nI li), .int (nI gi), .ref 79, .ref 80, .ref 81, .ref 82, .ref 83, .ref 84, .ref 85, .ref 86, .ref 87, .ref 88, .ref 89] := by rw [zu_ne (by omega)]; exact h0
      have w4 : va_up σ 84 (zN 2352 (sr_ g a b x)) 84 = zN 2352 (sr_ g a b x) := zu_same
      refine z_ild4 (q := 5) d_mo_swapRows_3 rfl ?_
      refine z_ild3 (q := 6) d_mo_swapRows_5 rfl ?_
      refine zn_icmp_gt (q := 9) (tgt := 67) d_mo_swapRows_6 rfl (by decide) (by omega) (by omega) (fun hb => ?_) (fun hb => ?_)
      · exact absurd hb (by omega)
      · refine z_ald0 (q := 10) d_mo_swapRows_9 rfl ?_
        refine z_get 7 (q := 13) d_mo_swapRows_10 rfl fg_mo_26 (by first | assumption | omega) (by first | assumption | omega) (by rfl) ?_
        refine z_ild1 (q := 14) d_mo_swapRows_13 rfl ?_
        refine z_bipush (v := nI 49) (q := 16) d_mo_swapRows_14 rfl (by decide) ?_
        first | refine zn_imul (q := 17) d_mo_swapRows_16 rfl ?_ | refine z_imul (q := 17) d_mo_swapRows_16 rfl ?_
        refine z_ild4 (q := 19) d_mo_swapRows_17 rfl ?_
        first | refine zn_iadd (q := 20) d_mo_swapRows_19 rfl ?_ | refine z_iadd (q := 20) d_mo_swapRows_19 rfl ?_
        refine z_laload (q := 21) d_mo_swapRows_20 rfl (by first | assumption | omega) (by first | assumption | omega) (by omega) (by omega) ?_
        rw [sr_at (by omega)]
        refine z_lst5 (q := 23) d_mo_swapRows_21 rfl rfl ?_
        refine z_ald0 (q := 24) d_mo_swapRows_23 rfl ?_
        refine z_get 7 (q := 27) d_mo_swapRows_24 rfl fg_mo_26 (by first | assumption | omega) (by first | assumption | omega) (by rfl) ?_
        refine z_ild1 (q := 28) d_mo_swapRows_27 rfl ?_
        refine z_bipush (v := nI 49) (q := 30) d_mo_swapRows_28 rfl (by decide) ?_
        first | refine zn_imul (q := 31) d_mo_swapRows_30 rfl ?_ | refine z_imul (q := 31) d_mo_swapRows_30 rfl ?_
        refine z_ild4 (q := 33) d_mo_swapRows_31 rfl ?_
        first | refine zn_iadd (q := 34) d_mo_swapRows_33 rfl ?_ | refine z_iadd (q := 34) d_mo_swapRows_33 rfl ?_
        refine z_ald0 (q := 35) d_mo_swapRows_34 rfl ?_
        refine z_get 7 (q := 38) d_mo_swapRows_35 rfl fg_mo_26 (by first | assumption | omega) (by first | assumption | omega) (by rfl) ?_
        refine z_ild2 (q := 39) d_mo_swapRows_38 rfl ?_
        refine z_bipush (v := nI 49) (q := 41) d_mo_swapRows_39 rfl (by decide) ?_
        first | refine zn_imul (q := 42) d_mo_swapRows_41 rfl ?_ | refine z_imul (q := 42) d_mo_swapRows_41 rfl ?_
        refine z_ild4 (q := 44) d_mo_swapRows_42 rfl ?_
        first | refine zn_iadd (q := 45) d_mo_swapRows_44 rfl ?_ | refine z_iadd (q := 45) d_mo_swapRows_44 rfl ?_
        refine z_laload (q := 46) d_mo_swapRows_45 rfl (by first | assumption | omega) (by first | assumption | omega) (by omega) (by omega) ?_
        rw [sr_at (by omega)]
        refine z_lastore (q := 47) d_mo_swapRows_46 rfl (by first | assumption | omega) (by first | assumption | omega) (by omega) (by omega) ?_
        rw [zu_up]
        have y0 : va_up σ 84 (zN 2352 (va_up (sr_ g a b x) (a * 49 + x) (g (b * 49 + x)))) 78 = zO 5 [.int (nI li), .int (nI gi), .ref 79, .ref 80, .ref 81, .ref 82, .ref 83, .ref 84, .ref 85, .ref 86, .ref 87, .ref 88, .ref 89] := by rw [zu_ne (by omega)]; exact h0
        have y4 : va_up σ 84 (zN 2352 (va_up (sr_ g a b x) (a * 49 + x) (g (b * 49 + x)))) 84 = zN 2352 (va_up (sr_ g a b x) (a * 49 + x) (g (b * 49 + x))) := zu_same
        refine z_ald0 (q := 48) d_mo_swapRows_47 rfl ?_
        refine z_get 7 (q := 51) d_mo_swapRows_48 rfl fg_mo_26 (by first | assumption | omega) (by first | assumption | omega) (by rfl) ?_
        refine z_ild2 (q := 52) d_mo_swapRows_51 rfl ?_
        refine z_bipush (v := nI 49) (q := 54) d_mo_swapRows_52 rfl (by decide) ?_
        first | refine zn_imul (q := 55) d_mo_swapRows_54 rfl ?_ | refine z_imul (q := 55) d_mo_swapRows_54 rfl ?_
        refine z_ild4 (q := 57) d_mo_swapRows_55 rfl ?_
        first | refine zn_iadd (q := 58) d_mo_swapRows_57 rfl ?_ | refine z_iadd (q := 58) d_mo_swapRows_57 rfl ?_
        refine z_lld5 (q := 60) d_mo_swapRows_58 rfl ?_
        refine z_lastore (q := 61) d_mo_swapRows_60 rfl (by first | assumption | omega) (by first | assumption | omega) (by omega) (by omega) ?_
        refine zn_iinc4 (d := 1) (q := 64) d_mo_swapRows_61 rfl rfl ?_
        refine z_goto (tgt := 3) d_mo_swapRows_64 (by decide) ?_
        refine Z.eqw ?_ (ih (x + 1) _ _ (by omega))
        rw [zu_up, sr_s (by omega)]
  refine z_iconst (v := nI 0) (q := 1) d_mo_swapRows_0 rfl (by decide) ?_
  refine z_ist4 (q := 3) d_mo_swapRows_1 rfl rfl ?_
  exact (Z.eqw (by rw [sr_0]; exact zu_id hg) (loop (r + 1) 0 none none (by omega)))
/-- clean -/
def sc_ (g : Nat → Nat) (at' f x : Nat) : Nat → Nat := fun j => if j / 49 = at' ∧ j % 49 < x then g j * f % 2147483647 else g j
theorem sc_0 (g : Nat → Nat) (at' f : Nat) : sc_ g at' f 0 = g := by
  funext j
  unfold sc_
  rw [if_neg (by omega)]
theorem sc_at {g : Nat → Nat} {at' f x : Nat} (hx : x < 49) : sc_ g at' f x (at' * 49 + x) = g (at' * 49 + x) := by
  unfold sc_
  rw [if_neg (by omega)]
theorem sc_s {g : Nat → Nat} {at' f x : Nat} (hx : x < 49) : va_up (sc_ g at' f x) (at' * 49 + x) (g (at' * 49 + x) * f % 2147483647) = sc_ g at' f (x + 1) := by
  funext j
  unfold va_up sc_
  by_cases h : j = at' * 49 + x
  · rw [if_pos h, if_pos (by omega), h]
  · rw [if_neg h]
    by_cases h2 : j / 49 = at' ∧ j % 49 < x
    · rw [if_pos h2, if_pos (by omega)]
    · rw [if_neg h2, if_neg (by omega)]
theorem sc_lt {g : Nat → Nat} {at' f x : Nat} (hg : ∀ j, g j < 2147483647) : ∀ j, sc_ g at' f x j < 2147483647 := by
  intro j
  unfold sc_
  split
  · exact Nat.mod_lt _ (by omega)
  · exact hg _
/-- x - g y modulo P -/
def sb_m (x g y : Nat) : Nat := (((x : Int) - (g * y : Nat)) % 2147483647).toNat
theorem sb_m_lt (x g y : Nat) : sb_m x g y < 2147483647 := by
  unfold sb_m
  have h1 := Int.emod_nonneg ((x : Int) - (g * y : Nat)) (show (2147483647 : Int) ≠ 0 by decide)
  have h2 := Int.emod_lt_of_pos ((x : Int) - (g * y : Nat)) (show (0 : Int) < 2147483647 by decide)
  omega
theorem sb_m_ph (x g y : Nat) : ph (sb_m x g y) = ph x - ph g * ph y := by
  have h1 := Int.emod_nonneg ((x : Int) - (g * y : Nat)) (show (2147483647 : Int) ≠ 0 by decide)
  have h3 := Int.emod_add_mul_ediv ((x : Int) - (g * y : Nat)) 2147483647
  -- x + k P = s + g y for some k, or the other way
  have e : ∃ a b : Nat, sb_m x g y + g * y + a * 2147483647 = x + b * 2147483647 := by
    unfold sb_m
    rcases Int.le_total 0 (((x : Int) - (g * y : Nat)) / 2147483647) with h | h
    · exact ⟨(((x : Int) - (g * y : Nat)) / 2147483647).toNat, 0, by omega⟩
    · exact ⟨0, (-(((x : Int) - (g * y : Nat)) / 2147483647)).toNat, by omega⟩
  obtain ⟨a, b, e⟩ := e
  have e2 := congrArg ph e
  rw [ph_add, ph_add, ph_add, ph_mul, ph_mul, ph_mul, ph_P] at e2
  grind
theorem sb_m_pos {x g y : Nat} {z : Int} (hz : z = ((x : Int) - (g * y : Nat)).tmod 2147483647) (h : 0 ≤ z) : z = (sb_m x g y : Int) := by
  have h1 := Int.emod_nonneg ((x : Int) - (g * y : Nat)) (show (2147483647 : Int) ≠ 0 by decide)
  have h2 := Int.emod_lt_of_pos ((x : Int) - (g * y : Nat)) (show (0 : Int) < 2147483647 by decide)
  have h5 : -2147483647 < ((x : Int) - (g * y : Nat)).tmod 2147483647 ∧ ((x : Int) - (g * y : Nat)).tmod 2147483647 < 2147483647 := tmod_bounds (by decide)
  have h3 := Int.tmod_def ((x : Int) - (g * y : Nat)) 2147483647
  have h4 := Int.emod_def ((x : Int) - (g * y : Nat)) 2147483647
  unfold sb_m
  generalize (x : Int) - (g * y : Nat) = D at *
  omega
theorem sb_m_neg {x g y : Nat} {z : Int} (hz : z = ((x : Int) - (g * y : Nat)).tmod 2147483647) (h : z < 0) : z + 2147483647 = (sb_m x g y : Int) := by
  have h1 := Int.emod_nonneg ((x : Int) - (g * y : Nat)) (show (2147483647 : Int) ≠ 0 by decide)
  have h2 := Int.emod_lt_of_pos ((x : Int) - (g * y : Nat)) (show (0 : Int) < 2147483647 by decide)
  have h5 : -2147483647 < ((x : Int) - (g * y : Nat)).tmod 2147483647 ∧ ((x : Int) - (g * y : Nat)).tmod 2147483647 < 2147483647 := tmod_bounds (by decide)
  have h3 := Int.tmod_def ((x : Int) - (g * y : Nat)) 2147483647
  have h4 := Int.emod_def ((x : Int) - (g * y : Nat)) 2147483647
  unfold sb_m
  generalize (x : Int) - (g * y : Nat) = D at *
  omega
theorem zr_remL {D : Int64} (h1 : -4611686014132420609 ≤ D.toInt) (h2 : D.toInt ≤ 4611686014132420609) : (D - D / lN 2147483647 * lN 2147483647).toInt = D.toInt.tmod 2147483647 := by
  have e2 : (lN 2147483647).toInt = 2147483647 := pk_lT (by decide)
  have e3 : (D / lN 2147483647).toInt = D.toInt.tdiv 2147483647 := by rw [Jvm.Kit.i64_div (by omega), e2]
  have h4 := Int.tmod_def D.toInt 2147483647
  have h5 : -2147483647 < D.toInt.tmod 2147483647 ∧ D.toInt.tmod 2147483647 < 2147483647 := tmod_bounds (by decide)
  have e4 : (D / lN 2147483647 * lN 2147483647).toInt = D.toInt.tdiv 2147483647 * 2147483647 := by
    rw [Jvm.Kit.i64_mul (by rw [e3, e2]; omega) (by rw [e3, e2]; omega), e3, e2]
  rw [Jvm.Kit.i64_sub (by rw [e4]; omega) (by rw [e4]; omega), e4]
  omega
theorem zr_subm {x g y : Nat} (hx : x < 2147483647) (hg : g < 2147483647) (hy : y < 2147483647) : (lN x - lN (g * y) - (lN x - lN (g * y)) / lN 2147483647 * lN 2147483647).toInt = ((x : Int) - (g * y : Nat)).tmod 2147483647 := by
  have hm := mul_lt hg hy
  have e1 : (lN x).toInt = (x : Int) := pk_lT (by omega)
  have e2 : (lN (g * y)).toInt = ((g * y : Nat) : Int) := pk_lT (by omega)
  have e3 : (lN x - lN (g * y)).toInt = (x : Int) - (g * y : Nat) := by rw [Jvm.Kit.i64_sub (by rw [e1, e2]; omega) (by rw [e1, e2]; omega), e1, e2]
  rw [zr_remL (by rw [e3]; omega) (by rw [e3]; omega), e3]

