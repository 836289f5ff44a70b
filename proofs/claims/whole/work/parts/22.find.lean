/-! RecurrentSeries.Finder: mend and find -/
def md_ (a b : Nat → Nat) (f lag x : Nat) : Nat → Nat := fun i => if i + 1 < lag then a i else if i + 1 = lag then (a i + f) % 2147483647 else if i < x then (a i + 2147483647 - f * b (i - lag) % 2147483647) % 2147483647 else a i
theorem md_0 (a b : Nat → Nat) (f lag : Nat) (h : 1 ≤ lag) : va_up a (lag - 1) ((a (lag - 1) + f) % 2147483647) = md_ a b f lag lag := by
  funext j
  by_cases h1 : j = lag - 1
  · subst h1
    simp [va_up, md_, show ¬ (lag - 1 + 1 < lag) by omega, show lag - 1 + 1 = lag by omega]
  · by_cases h2 : j + 1 < lag
    · simp [va_up, md_, h1, h2]
    · simp [va_up, md_, h1, h2, show ¬ (j + 1 = lag) by omega, show ¬ (j < lag) by omega]
theorem md_at {a b : Nat → Nat} {f lag x : Nat} (h : lag ≤ x) : md_ a b f lag x x = a x := by
  simp [md_, show ¬ (x + 1 < lag) by omega, show ¬ (x + 1 = lag) by omega]
theorem md_s {a b : Nat → Nat} {f lag x : Nat} (h : lag ≤ x) : va_up (md_ a b f lag x) x ((a x + 2147483647 - f * b (x - lag) % 2147483647) % 2147483647) = md_ a b f lag (x + 1) := by
  funext j
  by_cases h1 : j = x
  · subst h1
    simp [va_up, md_, show ¬ (j + 1 < lag) by omega, show ¬ (j + 1 = lag) by omega]
  · by_cases h2 : j + 1 < lag
    · simp [va_up, md_, h1, h2]
    · by_cases h3 : j + 1 = lag
      · simp [va_up, md_, h1, h2, h3]
      · by_cases h4 : j < x
        · simp [va_up, md_, h1, h2, h3, h4, show j < x + 1 by omega]
        · simp [va_up, md_, h1, h2, h3, h4, show ¬ (j < x + 1) by omega]
theorem md_lt {a b : Nat → Nat} {f lag x : Nat} (ha : ∀ j, a j < 2147483647) : ∀ j, md_ a b f lag x j < 2147483647 := by
  intro j
  unfold md_
  split
  · exact ha j
  · split
    · exact Nat.mod_lt _ (by omega)
    · split
      · exact Nat.mod_lt _ (by omega)
      · exact ha j
theorem ct_mend {n : Nat} {σ : zWd} {p1 p2 p3 f lag k : Nat} {a b c : Nat → Nat} (h5 : σ 5 = zO 2 [.ref p1, .ref p2, .ref p3]) (h1 : σ p1 = zN 48 a) (h2 : σ p2 = zN 48 b) (h3 : σ p3 = zN 48 c) (g1 : 6 ≤ p1) (g2 : 6 ≤ p2) (g3 : 6 ≤ p3) (e12 : p1 ≠ p2) (e13 : p1 ≠ p3) (e23 : p2 ≠ p3) (b1 : p1 < n) (b2 : p2 < n) (b3 : p3 < n) (hf : f < 2147483647) (hl1 : 1 ≤ lag) (hl2 : lag ≤ k + 1) (hk : k < 48) (ha : ∀ j, a j < 2147483647) (hb' : ∀ j, b j < 2147483647) :
    Ct m_fi_mend [.ref 5, .long (lN f), .int (nI lag), .int (nI k)] n σ (zEq none n (va_up (va_up σ p3 (zN 48 (fl_ a c 48))) p1 (zN 48 (md_ a b f lag (k + 1))))) := by
  refine Ct.of (lv := [some (.ref 5), some (.long (lN f)), none, some (.int (nI lag)), some (.int (nI k)), none]) 1 (by decide) rfl (Nat.le_of_ble_eq_true rfl) ?_
  generalize hPo : zEq none n (va_up (va_up σ p3 (zN 48 (fl_ a c 48))) p1 (zN 48 (md_ a b f lag (k + 1)))) = Po
  -- the last loop
  have loop2 : ∀ d x, x + d = k + 1 → lag ≤ x → Z m_fi_mend Po 0 0 n (va_up (va_up σ p3 (zN 48 (fl_ a c 48))) p1 (zN 48 (md_ a b f lag x))) 53 [some (.ref 5), some (.long (lN f)), none, some (.int (nI lag)), some (.int (nI k)), some (.int (nI x))] [] := by
    intro d
    induction d with
    | zero =>
      intro x hx hlx
      refine z_ild5 (q := 55) d_fi_mend_53 rfl ?_
      refine z_ild4 (q := 57) d_fi_mend_55 rfl ?_
      refine zn_icmp_gt (q := 60) (tgt := 96) d_fi_mend_57 rfl (by decide) (by omega) (by omega) (fun hb => ?_) (fun hb => ?_)
      · obtain rfl : x = k + 1 := by omega
        exact z_vret d_fi_mend_96 rfl (Nat.le_refl _) (Nat.le_refl _) (by rw [← hPo]; exact ⟨rfl, rfl, rfl⟩)
      · exact absurd hb (by omega)
    | succ d ih =>
      intro x hx hlx
      have s5 : va_up (va_up σ p3 (zN 48 (fl_ a c 48))) p1 (zN 48 (md_ a b f lag x)) 5 = zO 2 [.ref p1, .ref p2, .ref p3] := by rw [zu_ne (by omega), zu_ne (by omega)]; exact h5
      have s1 : va_up (va_up σ p3 (zN 48 (fl_ a c 48))) p1 (zN 48 (md_ a b f lag x)) p1 = zN 48 (md_ a b f lag x) := zu_same
      have s2 : va_up (va_up σ p3 (zN 48 (fl_ a c 48))) p1 (zN 48 (md_ a b f lag x)) p2 = zN 48 b := by rw [zu_ne (by omega), zu_ne (by omega)]; exact h2
      refine z_ild5 (q := 55) d_fi_mend_53 rfl ?_
      refine z_ild4 (q := 57) d_fi_mend_55 rfl ?_
      refine zn_icmp_gt (q := 60) (tgt := 96) d_fi_mend_57 rfl (by decide) (by omega) (by omega) (fun hb => ?_) (fun hb => ?_)
      · exact absurd hb (by omega)
      · refine z_ald0 (q := 61) d_fi_mend_60 rfl ?_
        refine z_get 0 (q := 64) d_fi_mend_61 rfl fg_fi_9 (by first | assumption | omega) (by first | assumption | omega) (by rfl) ?_
        refine z_ild5 (q := 66) d_fi_mend_64 rfl ?_
        refine z_ald0 (q := 67) d_fi_mend_66 rfl ?_
        refine z_get 0 (q := 70) d_fi_mend_67 rfl fg_fi_9 (by first | assumption | omega) (by first | assumption | omega) (by rfl) ?_
        refine z_ild5 (q := 72) d_fi_mend_70 rfl ?_
        refine z_laload (q := 73) d_fi_mend_72 rfl (by first | assumption | omega) (by first | assumption | omega) (by omega) (by omega) ?_
        refine z_lld1 (q := 74) d_fi_mend_73 rfl ?_
        refine z_ald0 (q := 75) d_fi_mend_74 rfl ?_
        refine z_get 1 (q := 78) d_fi_mend_75 rfl fg_fi_15 (by first | assumption | omega) (by first | assumption | omega) (by rfl) ?_
        refine z_ild5 (q := 80) d_fi_mend_78 rfl ?_
        refine z_ild3 (q := 81) d_fi_mend_80 rfl ?_
        first | refine zn_isub (q := 82) d_fi_mend_81 rfl (by omega) ?_ | refine z_isub (q := 82) d_fi_mend_81 rfl ?_
        refine z_laload (q := 83) d_fi_mend_82 rfl (by first | assumption | omega) (by first | assumption | omega) (by omega) (by omega) ?_
        refine z_cS2 (q := 86) d_fi_mend_83 rfl (ct_times n _ hf (hb' (x - lag))) ck_nu_times lk_fi_39 st_nu_times ⟨by decide, by decide⟩ (Nat.le_of_ble_eq_true rfl) rfl rfl ?_
        refine z_cS2 (q := 89) d_fi_mend_86 rfl (ct_minus n _ (md_lt ha x) (Nat.mod_lt _ (by omega))) ck_nu_minus lk_fi_31 st_nu_minus ⟨by decide, by decide⟩ (Nat.le_of_ble_eq_true rfl) rfl rfl ?_
        refine z_lastore (q := 90) d_fi_mend_89 rfl (by first | assumption | omega) (by first | assumption | omega) (by omega) (by omega) ?_
        refine zn_iinc5 (d := 1) (q := 93) d_fi_mend_90 rfl rfl ?_
        refine z_goto (tgt := 53) d_fi_mend_93 (by decide) ?_
        refine Z.eqw ?_ (ih (x + 1) (by omega) (by omega))
        rw [zu_up, md_at hlx, md_s hlx]
  -- from the copy on
  have mid : Z m_fi_mend Po 0 0 n (va_up σ p3 (zN 48 (fl_ a c 48))) 30 [some (.ref 5), some (.long (lN f)), none, some (.int (nI lag)), some (.int (nI k)), some (.int (nI 48))] [] := by
    have s5 : va_up σ p3 (zN 48 (fl_ a c 48)) 5 = zO 2 [.ref p1, .ref p2, .ref p3] := by rw [zu_ne (by omega)]; exact h5
    have s1 : va_up σ p3 (zN 48 (fl_ a c 48)) p1 = zN 48 a := by rw [zu_ne (by omega)]; exact h1
    refine z_ald0 (q := 31) d_fi_mend_30 rfl ?_
    refine z_get 0 (q := 34) d_fi_mend_31 rfl fg_fi_9 (by first | assumption | omega) (by first | assumption | omega) (by rfl) ?_
    refine z_ild3 (q := 35) d_fi_mend_34 rfl ?_
    refine z_iconst (v := nI 1) (q := 36) d_fi_mend_35 rfl (by decide) ?_
    first | refine zn_isub (q := 37) d_fi_mend_36 rfl (by omega) ?_ | refine z_isub (q := 37) d_fi_mend_36 rfl ?_
    refine z_ald0 (q := 38) d_fi_mend_37 rfl ?_
    refine z_get 0 (q := 41) d_fi_mend_38 rfl fg_fi_9 (by first | assumption | omega) (by first | assumption | omega) (by rfl) ?_
    refine z_ild3 (q := 42) d_fi_mend_41 rfl ?_
    refine z_iconst (v := nI 1) (q := 43) d_fi_mend_42 rfl (by decide) ?_
    first | refine zn_isub (q := 44) d_fi_mend_43 rfl (by omega) ?_ | refine z_isub (q := 44) d_fi_mend_43 rfl ?_
    refine z_laload (q := 45) d_fi_mend_44 rfl (by first | assumption | omega) (by first | assumption | omega) (by omega) (by omega) ?_
    refine z_lld1 (q := 46) d_fi_mend_45 rfl ?_
    refine z_cS2 (q := 49) d_fi_mend_46 rfl (ct_plus n _ (ha (lag - 1)) hf) ck_nu_plus lk_fi_58 st_nu_plus ⟨by decide, by decide⟩ (Nat.le_of_ble_eq_true rfl) rfl rfl ?_
    refine z_lastore (q := 50) d_fi_mend_49 rfl (by first | assumption | omega) (by first | assumption | omega) (by omega) (by omega) ?_
    refine z_ild3 (q := 51) d_fi_mend_50 rfl ?_
    refine z_ist5 (q := 53) d_fi_mend_51 rfl rfl ?_
    refine Z.eqw ?_ (loop2 (k + 1 - lag) lag (by omega) (Nat.le_refl _))
    rw [md_0 a b f lag hl1]
  have loop1 : ∀ d x, x + d = 48 → Z m_fi_mend Po 0 0 n (va_up σ p3 (zN 48 (fl_ a c x))) 3 [some (.ref 5), some (.long (lN f)), none, some (.int (nI lag)), some (.int (nI k)), some (.int (nI x))] [] := by
    intro d
    induction d with
    | zero =>
      intro x hx
      refine z_ild5 (q := 5) d_fi_mend_3 rfl ?_
      refine z_bipush (v := nI 48) (q := 7) d_fi_mend_5 rfl (by decide) ?_
      refine zn_icmp_ge (q := 10) (tgt := 30) d_fi_mend_7 rfl (by decide) (by omega) (by omega) (fun hb => ?_) (fun hb => ?_)
      · obtain rfl : x = 48 := by omega
        exact mid
      · exact absurd hb (by omega)
    | succ d ih =>
      intro x hx
      have s5 : va_up σ p3 (zN 48 (fl_ a c x)) 5 = zO 2 [.ref p1, .ref p2, .ref p3] := by rw [zu_ne (by omega)]; exact h5
      have s1 : va_up σ p3 (zN 48 (fl_ a c x)) p1 = zN 48 a := by rw [zu_ne (by omega)]; exact h1
      have s3 : va_up σ p3 (zN 48 (fl_ a c x)) p3 = zN 48 (fl_ a c x) := zu_same
      refine z_ild5 (q := 5) d_fi_mend_3 rfl ?_
      refine z_bipush (v := nI 48) (q := 7) d_fi_mend_5 rfl (by decide) ?_
      refine zn_icmp_ge (q := 10) (tgt := 30) d_fi_mend_7 rfl (by decide) (by omega) (by omega) (fun hb => ?_) (fun hb => ?_)
      · exact absurd hb (by omega)
      · refine z_ald0 (q := 11) d_fi_mend_10 rfl ?_
        refine z_get 2 (q := 14) d_fi_mend_11 rfl fg_fi_18 (by first | assumption | omega) (by first | assumption | omega) (by rfl) ?_
        refine z_ild5 (q := 16) d_fi_mend_14 rfl ?_
        refine z_ald0 (q := 17) d_fi_mend_16 rfl ?_
        refine z_get 0 (q := 20) d_fi_mend_17 rfl fg_fi_9 (by first | assumption | omega) (by first | assumption | omega) (by rfl) ?_
        refine z_ild5 (q := 22) d_fi_mend_20 rfl ?_
        refine z_laload (q := 23) d_fi_mend_22 rfl (by first | assumption | omega) (by first | assumption | omega) (by omega) (by omega) ?_
        refine z_lastore (q := 24) d_fi_mend_23 rfl (by first | assumption | omega) (by first | assumption | omega) (by omega) (by omega) ?_
        refine zn_iinc5 (d := 1) (q := 27) d_fi_mend_24 rfl rfl ?_
        refine z_goto (tgt := 3) d_fi_mend_27 (by decide) ?_
        refine Z.eqw ?_ (ih (x + 1) (by omega))
        rw [zu_up, fl_s]
  refine z_iconst (v := nI 0) (q := 1) d_fi_mend_0 rfl (by decide) ?_
  refine z_ist5 (q := 3) d_fi_mend_1 rfl rfl ?_
  refine Z.eqw (σ' := va_up σ p3 (zN 48 (fl_ a c 0))) (by rw [fl_0]; exact zu_id h3) ?_
  exact loop1 48 0 (by omega)

