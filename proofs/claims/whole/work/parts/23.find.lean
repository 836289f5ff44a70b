/-! RecurrentSeries.Finder.find -/
def wf_ (σ : zWd) (p1 pb ps : Nat) (A B S : Nat → Nat) : zWd := va_up (va_up (va_up (va_up σ 5 (zO 2 [.ref p1, .ref pb, .ref ps])) p1 (zN 48 A)) pb (zN 48 B)) ps (zN 48 S)
theorem wf_5 {σ : zWd} {p1 pb ps : Nat} {A B S : Nat → Nat} (g1 : 6 ≤ p1) (gb : 6 ≤ pb) (gs : 6 ≤ ps) : wf_ σ p1 pb ps A B S 5 = zO 2 [.ref p1, .ref pb, .ref ps] := by
  unfold wf_
  rw [zu_ne (by omega), zu_ne (by omega), zu_ne (by omega), zu_same]
theorem wf_1 {σ : zWd} {p1 pb ps : Nat} {A B S : Nat → Nat} (e1 : p1 ≠ pb) (e2 : p1 ≠ ps) : wf_ σ p1 pb ps A B S p1 = zN 48 A := by
  unfold wf_
  rw [zu_ne e2, zu_ne e1, zu_same]
theorem wf_b {σ : zWd} {p1 pb ps : Nat} {A B S : Nat → Nat} (e : pb ≠ ps) : wf_ σ p1 pb ps A B S pb = zN 48 B := by
  unfold wf_
  rw [zu_ne e, zu_same]
theorem wf_s {σ : zWd} {p1 pb ps : Nat} {A B S : Nat → Nat} : wf_ σ p1 pb ps A B S ps = zN 48 S := by
  unfold wf_
  rw [zu_same]
theorem wf_o {σ : zWd} {p1 pb ps j : Nat} {A B S : Nat → Nat} (h5 : j ≠ 5) (h1 : j ≠ p1) (hb : j ≠ pb) (hs : j ≠ ps) : wf_ σ p1 pb ps A B S j = σ j := by
  unfold wf_
  rw [zu_ne hs, zu_ne hb, zu_ne h1, zu_ne h5]
theorem wf_mend {σ : zWd} {p1 pb ps : Nat} {A B S A' S' : Nat → Nat} (e1 : p1 ≠ pb) (e2 : p1 ≠ ps) (e3 : pb ≠ ps) : va_up (va_up (wf_ σ p1 pb ps A B S) ps (zN 48 S')) p1 (zN 48 A') = wf_ σ p1 pb ps A' B S' := by
  funext j
  unfold wf_
  by_cases h1 : j = p1
  · subst h1; simp [va_up, e1, e2]
  · by_cases h2 : j = ps
    · subst h2; simp [va_up, h1]
    · by_cases h3 : j = pb
      · subst h3; simp [va_up, h1, h2]
      · simp [va_up, h1, h2, h3]
theorem wf_keep {σ : zWd} {p1 pb ps : Nat} {A B S : Nat → Nat} (g1 : 6 ≤ p1) (gb : 6 ≤ pb) (gs : 6 ≤ ps) (e3 : pb ≠ ps) : va_up (wf_ σ p1 pb ps A B S) 5 (zO 2 [.ref p1, .ref ps, .ref pb]) = wf_ σ p1 ps pb A S B := by
  funext j
  unfold wf_
  by_cases h5 : j = 5
  · subst h5
    simp [va_up, show ¬ (5 = pb) by omega, show ¬ (5 = ps) by omega, show ¬ (5 = p1) by omega]
  · by_cases h2 : j = ps
    · subst h2; simp [va_up, h5, Ne.symm e3]
    · by_cases h3 : j = pb
      · subst h3; simp [va_up, h5, h2]
      · simp [va_up, h5, h2, h3]
/-- the mended row, in numbers and modulo P -/
theorem md_ph {a b : Nat → Nat} {f lag x L Lm u : Nat} {AK BK : Nat → FP} (hA : ∀ j, j < 48 → ph (a j) = AK j) (hB : ∀ j, j < 48 → ph (b j) = BK j) (hu : u ≤ x) (hlag : lag = x + 1 - u) (hLx : L ≤ x) (hLm : Lm ≤ u) (hA0 : ∀ i, L ≤ i → AK i = 0) (hB0 : ∀ i, Lm ≤ i → BK i = 0) (hb : ∀ j, b j < 2147483647) : ∀ j, j < 48 → ph (md_ a b f lag (x + 1) j) = mn_ AK BK (ph f) (x - u) j := by
  intro j hj
  unfold md_ mn_
  by_cases h1 : j + 1 < lag
  · rw [if_pos h1, if_pos (by omega)]; exact hA j hj
  · rw [if_neg h1, if_neg (show ¬ j < x - u by omega)]
    by_cases h2 : j + 1 = lag
    · rw [if_pos h2, if_pos (by omega), ph_mod, ph_add, hA j hj, show x - u = j by omega]
    · rw [if_neg h2, if_neg (show ¬ j = x - u by omega)]
      by_cases h3 : j < x + 1
      · have hm : f * b (j - lag) % 2147483647 < 2147483647 := Nat.mod_lt _ (by omega)
        rw [if_pos h3, ph_mod, ph_sub (by omega), ph_add, ph_P, ph_mod, ph_mul, hA j hj, hB (j - lag) (by omega), show j - (x - u) - 1 = j - lag by omega]
        grind
      · rw [if_neg h3, hA j hj, hA0 j (by omega), hB0 (j - (x - u) - 1) (by omega)]
        grind
def fd_ (σ : zWd) (p1 p2 p3 se ci ti len R : Nat) (cf s : Nat → Nat) (n : Nat) : Option Value → Nat → zWd → Prop := fun r n' σ' => r = none ∧ n' = n ∧ ∃ (A B S : Nat → Nat) (pb ps L u Lm : Nat) (AK BK : Nat → FP) (d : FP), ((pb = p2 ∧ ps = p3) ∨ (pb = p3 ∧ ps = p2)) ∧ (∀ j, A j < 2147483647) ∧ (∀ j, B j < 2147483647) ∧ (∀ j, S j < 2147483647) ∧ (∀ j, j < 48 → ph (A j) = AK j) ∧
  bi_ (fun n => ph (s n)) len L u Lm AK BK d ∧ L ≤ R ∧ σ' = va_up (va_up (wf_ σ p1 pb ps A B S) se (zO 1 [.int (nI L), .ref ci, .ref ti])) ci (zN 48 (fl_ A cf L))
theorem ct_find {n : Nat} {σ : zWd} {p1 p2 p3 se ci ti len R : Nat} {o0 : Int32} {a0 b0 c0 vals cf s : Nat → Nat} {cR : Nat → FP} (h5 : σ 5 = zO 2 [.ref p1, .ref p2, .ref p3]) (h1 : σ p1 = zN 48 a0) (h2 : σ p2 = zN 48 b0) (h3 : σ p3 = zN 48 c0) (hv : σ 3 = zN 48 vals) (hse : σ se = zO 1 [.int o0, .ref ci, .ref ti]) (hci : σ ci = zN 48 cf)
    (g1 : 6 ≤ p1) (g2 : 6 ≤ p2) (g3 : 6 ≤ p3) (f1 : p1 ≤ 8) (f2 : p2 ≤ 8) (f3 : p3 ≤ 8) (e12 : p1 ≠ p2) (e13 : p1 ≠ p3) (e23 : p2 ≠ p3) (gse : 18 ≤ se) (gci : se < ci) (bci : ci < n) (hlen : len ≤ 48) (hR48 : R ≤ 48) (hs : ∀ j, j < len → vals j = s j) (ha0 : ∀ j, a0 j < 2147483647) (hb0 : ∀ j, b0 j < 2147483647) (hc0 : ∀ j, c0 j < 2147483647) (hvP : ∀ j, vals j < 2147483647) (hob : ob R cR (fun n => ph (s n))) :
    Ct m_fi_find [.ref 5, .ref 3, .int (nI len), .ref se] n σ (fd_ σ p1 p2 p3 se ci ti len R cf s n) := by
  refine Ct.of (lv := [some (.ref 5), some (.ref 3), some (.int (nI len)), some (.ref se), none, none, none, none, none, none, none, none, none, none]) 10 (by decide) rfl (Nat.le_of_ble_eq_true rfl) ?_
  generalize hPo : fd_ σ p1 p2 p3 se ci ti len R cf s n = Po
  -- the coefficients are written
  have fin : ∀ (A B S : Nat → Nat) (pb ps L u Lm : Nat) (AK BK : Nat → FP) (d : FP) (t5 t6 t9 t10 t11 t12 t13 : Option Value), ((pb = p2 ∧ ps = p3) ∨ (pb = p3 ∧ ps = p2)) → (∀ j, A j < 2147483647) → (∀ j, B j < 2147483647) → (∀ j, S j < 2147483647) → (∀ j, j < 48 → ph (A j) = AK j) → bi_ (fun n => ph (s n)) len L u Lm AK BK d → L ≤ R → ∀ e x, x + e = L →
      Z m_fi_find Po 0 0 n (va_up (va_up (wf_ σ p1 pb ps A B S) se (zO 1 [.int (nI L), .ref ci, .ref ti])) ci (zN 48 (fl_ A cf x))) 147 [some (.ref 5), some (.ref 3), some (.int (nI len)), some (.ref se), some (.int (nI L)), t5, t6, none, some (.int (nI x)), t9, t10, t11, t12, t13] [] := by
    intro A B S pb ps L u Lm AK BK d t5 t6 t9 t10 t11 t12 t13 hpp hA hB hS hAK hbi hLR e
    induction e with
    | zero =>
      intro x hx
      refine z_ild8 (q := 149) d_fi_find_147 rfl ?_
      refine z_ild4 (q := 151) d_fi_find_149 rfl ?_
      refine zn_icmp_ge (q := 154) (tgt := 174) d_fi_find_151 rfl (by decide) (by omega) (by omega) (fun hb => ?_) (fun hb => ?_)
      · obtain rfl : x = L := by omega
        exact z_vret d_fi_find_174 rfl (Nat.le_refl _) (Nat.le_refl _) (by rw [← hPo]; exact ⟨rfl, rfl, A, B, S, pb, ps, x, u, Lm, AK, BK, d, hpp, hA, hB, hS, hAK, hbi, hLR, rfl⟩)
      · exact absurd hb (by omega)
    | succ e ih =>
      intro x hx
      have w5 : va_up (va_up (wf_ σ p1 pb ps A B S) se (zO 1 [.int (nI L), .ref ci, .ref ti])) ci (zN 48 (fl_ A cf x)) 5 = zO 2 [.ref p1, .ref pb, .ref ps] := by
        rw [zu_ne (by omega), zu_ne (by omega)]
        exact wf_5 g1 (by omega) (by omega)
      have w1 : va_up (va_up (wf_ σ p1 pb ps A B S) se (zO 1 [.int (nI L), .ref ci, .ref ti])) ci (zN 48 (fl_ A cf x)) p1 = zN 48 A := by
        rw [zu_ne (by omega), zu_ne (by omega)]
        exact wf_1 (by omega) (by omega)
      have wse : va_up (va_up (wf_ σ p1 pb ps A B S) se (zO 1 [.int (nI L), .ref ci, .ref ti])) ci (zN 48 (fl_ A cf x)) se = zO 1 [.int (nI L), .ref ci, .ref ti] := by
        rw [zu_ne (by omega), zu_same]
      have wci : va_up (va_up (wf_ σ p1 pb ps A B S) se (zO 1 [.int (nI L), .ref ci, .ref ti])) ci (zN 48 (fl_ A cf x)) ci = zN 48 (fl_ A cf x) := zu_same
      refine z_ild8 (q := 149) d_fi_find_147 rfl ?_
      refine z_ild4 (q := 151) d_fi_find_149 rfl ?_
      refine zn_icmp_ge (q := 154) (tgt := 174) d_fi_find_151 rfl (by decide) (by omega) (by omega) (fun hb => ?_) (fun hb => ?_)
      · exact absurd hb (by omega)
      · refine z_ald3 (q := 155) d_fi_find_154 rfl ?_
        refine z_get 1 (q := 158) d_fi_find_155 rfl fg_fi_55 (by first | assumption | omega) (by first | assumption | omega) (by rfl) ?_
        refine z_ild8 (q := 160) d_fi_find_158 rfl ?_
        refine z_ald0 (q := 161) d_fi_find_160 rfl ?_
        refine z_get 0 (q := 164) d_fi_find_161 rfl fg_fi_9 (by first | assumption | omega) (by first | assumption | omega) (by rfl) ?_
        refine z_ild8 (q := 166) d_fi_find_164 rfl ?_
        refine z_laload (q := 167) d_fi_find_166 rfl (by first | assumption | omega) (by first | assumption | omega) (by omega) (by omega) ?_
        refine z_lastore (q := 168) d_fi_find_167 rfl (by first | assumption | omega) (by first | assumption | omega) (by omega) (by omega) ?_
        refine zn_iinc8 (d := 1) (q := 171) d_fi_find_168 rfl rfl ?_
        refine z_goto (tgt := 147) d_fi_find_171 (by decide) ?_
        refine Z.eqw ?_ (ih (x + 1) (by omega))
        rw [zu_up, fl_s]
  -- the main loop
  have loop : ∀ (k x : Nat) (A B S : Nat → Nat) (pb ps L lag u Lm d : Nat) (AK BK : Nat → FP) (t9 t10 t11 t12 t13 : Option Value), x + k = len → ((pb = p2 ∧ ps = p3) ∨ (pb = p3 ∧ ps = p2)) → (∀ j, A j < 2147483647) → (∀ j, B j < 2147483647) → (∀ j, S j < 2147483647) → (∀ j, j < 48 → ph (A j) = AK j) → (∀ j, j < 48 → ph (B j) = BK j) → d < 2147483647 → bi_ (fun n => ph (s n)) x L u Lm AK BK (ph d) → L ≤ R → lag = x + 1 - u →
      Z m_fi_find Po 0 0 n (wf_ σ p1 pb ps A B S) 26 [some (.ref 5), some (.ref 3), some (.int (nI len)), some (.ref se), some (.int (nI L)), some (.int (nI lag)), some (.long (lN d)), none, some (.int (nI x)), t9, t10, t11, t12, t13] [] := by
    intro k
    induction k with
    | zero =>
      intro x A B S pb ps L lag u Lm d AK BK t9 t10 t11 t12 t13 hx hpp hA hB hS hAK hBK hd hbi hLR hlag
      obtain rfl : x = len := by omega
      have wse : wf_ σ p1 pb ps A B S se = zO 1 [.int o0, .ref ci, .ref ti] := by rw [wf_o (by omega) (by omega) (by omega) (by omega)]; exact hse
      refine z_ild8 (q := 28) d_fi_find_26 rfl ?_
      refine z_ild2 (q := 29) d_fi_find_28 rfl ?_
      refine zn_icmp_ge (q := 32) (tgt := 138) d_fi_find_29 rfl (by decide) (by omega) (by omega) (fun hb => ?_) (fun hb => ?_)
      · refine z_ald3 (q := 139) d_fi_find_138 rfl ?_
        refine z_ild4 (q := 141) d_fi_find_139 rfl ?_
        refine z_put 0 (q := 144) d_fi_find_141 rfl fg_fi_49 ft_se fk_fi_49 (by first | assumption | omega) (by first | assumption | omega) (fun _ => rfl) (fun _ => rfl) (by simp) ?_
        refine z_iconst (v := nI 0) (q := 145) d_fi_find_144 rfl (by decide) ?_
        refine z_ist8 (q := 147) d_fi_find_145 rfl rfl ?_
        refine Z.eqw ?_ (fin A B S pb ps L u Lm AK BK (ph d) _ _ _ _ _ _ _ hpp hA hB hS hAK hbi hLR L 0 (by omega))
        rw [fl_0]
        refine zu_id ?_
        rw [zu_ne (by omega), wf_o (by omega) (by omega) (by omega) (by omega)]
        exact hci
      · exact absurd hb (by omega)
    | succ k ih =>
      intro x A B S pb ps L lag u Lm d AK BK t9 t10 t11 t12 t13 hx hpp hA hB hS hAK hBK hd hbi hLR hlag
      have hbi0 := hbi
      obtain ⟨i1, i2, i3, i4, i5, i6, i7, i8⟩ := hbi
      have w5 : wf_ σ p1 pb ps A B S 5 = zO 2 [.ref p1, .ref pb, .ref ps] := wf_5 g1 (by omega) (by omega)
      have w1 : wf_ σ p1 pb ps A B S p1 = zN 48 A := wf_1 (by omega) (by omega)
      have wb : wf_ σ p1 pb ps A B S pb = zN 48 B := wf_b (by omega)
      have ws : wf_ σ p1 pb ps A B S ps = zN 48 S := wf_s
      have w3 : wf_ σ p1 pb ps A B S 3 = zN 48 vals := by rw [wf_o (by omega) (by omega) (by omega) (by omega)]; exact hv
      have hfo := fo_lt A vals x L
      -- the miss
      have hft : ph (fo_ A vals x L) = ft_ (fun n => ph (s n)) AK x := by
        rw [fo_ph, ft_cut i4 i1]
        refine sm_congr (fun i hi => ?_)
        rw [hAK i (by omega), hs (x - 1 - i) (by omega)]
      have hvx := hvP x
      have hmph : ph ((vals x + 2147483647 - fo_ A vals x L) % 2147483647) = ph (s x) - ft_ (fun n => ph (s n)) AK x := by
        rw [ph_mod, ph_sub (by omega), ph_add, ph_P, hft, hs x (by omega)]
        grind
      generalize hmi : (vals x + 2147483647 - fo_ A vals x L) % 2147483647 = mi at hmph
      have hmiP : mi < 2147483647 := by rw [← hmi]; exact Nat.mod_lt _ (by omega)
      refine z_ild8 (q := 28) d_fi_find_26 rfl ?_
      refine z_ild2 (q := 29) d_fi_find_28 rfl ?_
      refine zn_icmp_ge (q := 32) (tgt := 138) d_fi_find_29 rfl (by decide) (by omega) (by omega) (fun hb => ?_) (fun hb => ?_)
      · exact absurd hb (by omega)
      · refine z_ald1 (q := 33) d_fi_find_32 rfl ?_
        refine z_ild8 (q := 35) d_fi_find_33 rfl ?_
        refine z_laload (q := 36) d_fi_find_35 rfl (by first | assumption | omega) (by first | assumption | omega) (by omega) (by omega) ?_
        refine z_ald0 (q := 37) d_fi_find_36 rfl ?_
        refine z_get 0 (q := 40) d_fi_find_37 rfl fg_fi_9 (by first | assumption | omega) (by first | assumption | omega) (by rfl) ?_
        refine z_ild4 (q := 42) d_fi_find_40 rfl ?_
        refine z_ald1 (q := 43) d_fi_find_42 rfl ?_
        refine z_ild8 (q := 45) d_fi_find_43 rfl ?_
        refine z_cS4 (q := 48) d_fi_find_45 rfl (ct_foretold w1 w3 (by omega) (by omega) (by omega) (by omega) (by omega) (by omega) (by omega) hA hvP) ck_nu_foretold lk_fi_25 st_nu_foretold ⟨by decide, by decide⟩ (Nat.le_of_ble_eq_true rfl) rfl rfl ?_
        refine z_cS2 (q := 51) d_fi_find_48 rfl (ct_minus n _ (hvP x) hfo) ck_nu_minus lk_fi_31 st_nu_minus ⟨by decide, by decide⟩ (Nat.le_of_ble_eq_true rfl) rfl rfl ?_
        rw [hmi]
        refine z_lst9 (q := 53) d_fi_find_51 rfl rfl ?_
        refine z_lld9 (q := 55) d_fi_find_53 rfl ?_
        refine z_lconst (v := lN 0) (q := 56) d_fi_find_55 rfl rfl ?_
        refine z_lcmp (q := 57) d_fi_find_56 rfl ?_
        refine zc_if_ne (q := 60) (tgt := 66) d_fi_find_57 rfl (by decide) (by omega) (by omega) (fun hb => ?_) (fun hb => ?_)
        · -- a miss
          have hm0 : ph mi ≠ 0 := fun h => hb ((ph_eq hmiP (by omega)).mp (h.trans ph_0.symm))
          have hne : ph (s x) ≠ ft_ (fun n => ph (s n)) AK x := fun h => hm0 (by rw [hmph, h]; grind)
          have hge := bi_le hbi0 hob hne i4
          refine z_lld9 (q := 68) d_fi_find_66 rfl ?_
          refine z_lld6 (q := 70) d_fi_find_68 rfl ?_
          refine z_cS1 (q := 73) d_fi_find_70 rfl (ct_inverse n _ hd) ck_nu_inverse lk_fi_35 st_nu_inverse ⟨by decide, by decide⟩ (Nat.le_of_ble_eq_true rfl) rfl rfl ?_
          refine z_cS2 (q := 76) d_fi_find_73 rfl (ct_times n _ hmiP (in_lt d)) ck_nu_times lk_fi_39 st_nu_times ⟨by decide, by decide⟩ (Nat.le_of_ble_eq_true rfl) rfl rfl ?_
          have hfP : mi * in_ d % 2147483647 < 2147483647 := Nat.mod_lt _ (by omega)
          have hff : ph (mi * in_ d % 2147483647) * ph d = ph mi := by
            rw [ph_mod, ph_mul]
            have := in_ph i7
            grind
          generalize mi * in_ d % 2147483647 = f at hfP hff
          have hmd := md_ph (f := f) hAK hBK i5 hlag i4 (show Lm ≤ u by omega) i1 i2 hB
          have aft : ∀ g : Nat, ((g = 1 ∧ 2 * L ≤ x) ∨ (g = 0 ∧ x < 2 * L)) → Z m_fi_find Po 0 0 n (wf_ σ p1 pb ps A B S) 92 [some (.ref 5), some (.ref 3), some (.int (nI len)), some (.ref se), some (.int (nI L)), some (.int (nI lag)), some (.long (lN d)), none, some (.int (nI x)), some (.long (lN mi)), none, some (.long (lN f)), none, t13] [.int (nI g)] := by
            intro g hg
            refine z_ist13 (q := 94) d_fi_find_92 rfl rfl ?_
            refine z_ald0 (q := 95) d_fi_find_94 rfl ?_
            refine z_lld11 (q := 97) d_fi_find_95 rfl ?_
            refine z_ild5 (q := 99) d_fi_find_97 rfl ?_
            refine z_ild8 (q := 101) d_fi_find_99 rfl ?_
            refine z_cV3v (q := 104) d_fi_find_101 rfl (ct_mend w5 w1 wb ws g1 (by omega) (by omega) (by omega) (by omega) (by omega) (by omega) (by omega) (by omega) hfP (by omega) (by omega) (by omega) hA hB) (by first | assumption | omega) (by first | assumption | omega) rfl ck_fi_mend lk_fi_42 im_fi_mend sl_fi_mend ⟨by decide, by decide⟩ (Nat.le_of_ble_eq_true rfl) rfl rfl ?_
            rw [wf_mend (by omega) (by omega) (by omega)]
            refine zn_iinc5 (d := 1) (q := 107) d_fi_find_104 rfl rfl ?_
            refine z_ild13 (q := 109) d_fi_find_107 rfl ?_
            refine zi_if_eq (q := 112) (tgt := 132) d_fi_find_109 rfl (by decide) (by omega) (fun hb2 => ?_) (fun hb2 => ?_)
            · have hst := bi_stay hbi0 (hff.trans hmph) (show x < 2 * L by omega)
              refine zn_iinc8 (d := 1) (q := 135) d_fi_find_132 rfl rfl ?_
              refine z_goto (tgt := 26) d_fi_find_135 (by decide) ?_
              exact ih (x + 1) _ B (fl_ A S 48) pb ps L (lag + 1) u Lm d _ BK _ _ _ _ _ (by omega) hpp (md_lt hA) hB (fl_lt hA hS) hmd hBK hd hst hLR (by omega)
            · have hgr := bi_grow hbi0 hmph hm0 hff (show 2 * L ≤ x by omega)
              have v5 : wf_ σ p1 pb ps (md_ A B f lag (x + 1)) B (fl_ A S 48) 5 = zO 2 [.ref p1, .ref pb, .ref ps] := wf_5 g1 (by omega) (by omega)
              refine z_ald0 (q := 113) d_fi_find_112 rfl ?_
              refine z_cV0v (q := 116) d_fi_find_113 rfl (ct_keepUnmended v5 (by omega)) (by first | assumption | omega) (by first | assumption | omega) rfl ck_fi_keepUnmended lk_fi_46 im_fi_keepUnmended sl_fi_keepUnmended ⟨by decide, by decide⟩ (Nat.le_of_ble_eq_true rfl) rfl rfl ?_
              rw [wf_keep g1 (by omega) (by omega) (by omega)]
              refine z_ild8 (q := 118) d_fi_find_116 rfl ?_
              refine z_iconst (v := nI 1) (q := 119) d_fi_find_118 rfl (by decide) ?_
              first | refine zn_iadd (q := 120) d_fi_find_119 rfl ?_ | refine z_iadd (q := 120) d_fi_find_119 rfl ?_
              refine z_ild4 (q := 122) d_fi_find_120 rfl ?_
              first | refine zn_isub (q := 123) d_fi_find_122 rfl (by omega) ?_ | refine z_isub (q := 123) d_fi_find_122 rfl ?_
              refine z_ist4 (q := 125) d_fi_find_123 rfl rfl ?_
              refine z_lld9 (q := 127) d_fi_find_125 rfl ?_
              refine z_lst6 (q := 129) d_fi_find_127 rfl rfl ?_
              refine z_iconst (v := nI 1) (q := 130) d_fi_find_129 rfl (by decide) ?_
              refine z_ist5 (q := 132) d_fi_find_130 rfl rfl ?_
              refine zn_iinc8 (d := 1) (q := 135) d_fi_find_132 rfl rfl ?_
              refine z_goto (tgt := 26) d_fi_find_135 (by decide) ?_
              exact ih (x + 1) _ (fl_ A S 48) B ps pb (x + 1 - L) 1 (x + 1) L mi _ AK _ _ _ _ _ (by omega) (by omega) (md_lt hA) (fl_lt hA hS) hB hmd (fun j hj => by rw [fl_lo hj]; exact hAK j hj) hmiP hgr hge (by omega)
          refine z_lst11 (q := 78) d_fi_find_76 rfl rfl ?_
          refine z_iconst (v := nI 2) (q := 79) d_fi_find_78 rfl (by decide) ?_
          refine z_ild4 (q := 81) d_fi_find_79 rfl ?_
          first | refine zn_imul (q := 82) d_fi_find_81 rfl ?_ | refine z_imul (q := 82) d_fi_find_81 rfl ?_
          refine z_ild8 (q := 84) d_fi_find_82 rfl ?_
          refine zn_icmp_gt (q := 87) (tgt := 91) d_fi_find_84 rfl (by decide) (by omega) (by omega) (fun hb3 => ?_) (fun hb3 => ?_)
          · refine z_iconst (v := nI 0) (q := 92) d_fi_find_91 rfl (by decide) ?_
            exact aft 0 (by omega)
          · refine z_iconst (v := nI 1) (q := 88) d_fi_find_87 rfl (by decide) ?_
            refine z_goto (tgt := 92) d_fi_find_88 (by decide) ?_
            exact aft 1 (by omega)
        · -- foretold
          have hsame := bi_same hbi0 (show (fun n => ph (s n)) x = ft_ (fun n => ph (s n)) AK x by
            rw [hb, ph_0] at hmph
            show ph (s x) = _
            grind)
          refine zn_iinc5 (d := 1) (q := 63) d_fi_find_60 rfl rfl ?_
          refine z_goto (tgt := 132) d_fi_find_63 (by decide) ?_
          refine zn_iinc8 (d := 1) (q := 135) d_fi_find_132 rfl rfl ?_
          refine z_goto (tgt := 26) d_fi_find_135 (by decide) ?_
          exact ih (x + 1) A B S pb ps L (lag + 1) u Lm d AK BK _ _ _ _ _ (by omega) hpp hA hB hS hAK hBK hd hsame hLR (by omega)
  refine z_ald0 (q := 1) d_fi_find_0 rfl ?_
  refine z_get 0 (q := 4) d_fi_find_1 rfl fg_fi_9 (by first | assumption | omega) (by first | assumption | omega) (by rfl) ?_
  refine z_cS1v (q := 7) d_fi_find_4 rfl (ct_erase h1 (by omega)) ck_fi_erase lk_fi_21 st_fi_erase ⟨by decide, by decide⟩ (Nat.le_of_ble_eq_true rfl) rfl rfl ?_
  have y5 : va_up σ p1 (zN 48 (fl_ (fun _ => 0) a0 48)) 5 = zO 2 [.ref p1, .ref p2, .ref p3] := by rw [zu_ne (by omega)]; exact h5
  have y2 : va_up σ p1 (zN 48 (fl_ (fun _ => 0) a0 48)) p2 = zN 48 b0 := by rw [zu_ne (by omega)]; exact h2
  refine z_ald0 (q := 8) d_fi_find_7 rfl ?_
  refine z_get 1 (q := 11) d_fi_find_8 rfl fg_fi_15 (by first | assumption | omega) (by first | assumption | omega) (by rfl) ?_
  refine z_cS1v (q := 14) d_fi_find_11 rfl (ct_erase y2 (by omega)) ck_fi_erase lk_fi_21 st_fi_erase ⟨by decide, by decide⟩ (Nat.le_of_ble_eq_true rfl) rfl rfl ?_
  refine z_iconst (v := nI 0) (q := 15) d_fi_find_14 rfl (by decide) ?_
  refine z_ist4 (q := 17) d_fi_find_15 rfl rfl ?_
  refine z_iconst (v := nI 1) (q := 18) d_fi_find_17 rfl (by decide) ?_
  refine z_ist5 (q := 20) d_fi_find_18 rfl rfl ?_
  refine z_lconst (v := lN 1) (q := 21) d_fi_find_20 rfl rfl ?_
  refine z_lst6 (q := 23) d_fi_find_21 rfl rfl ?_
  refine z_iconst (v := nI 0) (q := 24) d_fi_find_23 rfl (by decide) ?_
  refine z_ist8 (q := 26) d_fi_find_24 rfl rfl ?_
  refine Z.eqw ?_ (loop len 0 (fl_ (fun _ => 0) a0 48) (fl_ (fun _ => 0) b0 48) c0 p2 p3 0 1 0 0 1 (fun _ => 0) (fun _ => 0) _ _ _ _ _ (by omega) (Or.inl ⟨rfl, rfl⟩) (fl_lt (fun _ => by omega) ha0) (fl_lt (fun _ => by omega) hb0) hc0 (fun j hj => by rw [fl_lo hj, ph_0]) (fun j hj => by rw [fl_lo hj, ph_0]) (by omega) (by rw [ph_1]; exact bi_start _ (fun h => by have := (ph_eq (a := 1) (b := 0) (by omega) (by omega)).mp (ph_1.trans (h.trans ph_0.symm)); omega)) (Nat.zero_le _) rfl)
  unfold wf_
  funext j
  by_cases j1 : j = p1
  · subst j1; simp [va_up, e12, e13]
  · by_cases j3 : j = p3
    · subst j3; simp [va_up, j1, Ne.symm e23, h3]
    · by_cases j2 : j = p2
      · subst j2; simp [va_up, j3]
      · by_cases j5 : j = 5
        · subst j5; simp [va_up, j1, j2, j3, h5]
        · simp [va_up, j1, j2, j3, j5]

