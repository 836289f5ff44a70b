/-! RecurrentSeries.enlist: the series whose first terms stand in made -/
def EN (SP : Nat → Nat → (Nat → Nat) → (Nat → Nat) → (Nat → Nat → Nat) → (Nat → Nat → Nat) → zWd → Prop) (Fr : zWd → zWd → Prop) (σ : zWd) (li gi : Nat) (row od : Nat → Nat) (cf ts : Nat → Nat → Nat) (B : Nat) (s : Nat → Nat) : Option Value → Nat → zWd → Prop := fun r n' σ' =>
  n' = 90 ∧ Fr σ σ' ∧ r = some (.int (nI li)) ∧ ∃ (o : Nat) (c : Nat → Nat), o ≤ B ∧ SR o c s ∧ SP (li + 1) gi row (va_up od li o) (va_up cf li c) (va_up ts li s) σ'
/-- the model's cells stay -/
def FrC (σ σ' : zWd) : Prop := ∀ j, 78 ≤ j → σ' j = σ j
theorem SR_of {o : Nat} {c s : Nat → Nat} (ho : o ≤ 24) (hs : ∀ n, s n < 2147483647) (hc : ∀ i, c i < 2147483647) (h : lo_ (fun n => ph (s n)) o (fun i => ph (c i))) : SR o c s := by
  refine ⟨ho, hs, hc, fun n hn => ?_, h⟩
  have h1 := h.1 (n - o)
  rw [show n - o + o = n by omega] at h1
  refine (ph_eq (hs n) (fo_lt c s n o)).mp ?_
  rw [fo_ph]
  exact h1
theorem ct_enlist {σ : zWd} {li gi B : Nat} {row od g s : Nat → Nat} {cf ts : Nat → Nat → Nat} (h : CS li gi row od cf ts σ) (hli : li < 20) (hB : B ≤ 24) (h3 : σ 3 = zN 48 g) (hgP : ∀ j, g j < 2147483647) (hg : ∀ j, j < 2 * B → g j = s j) (hsP : ∀ j, s j < 2147483647) (hob : ∃ r, r ≤ B ∧ ∃ c : Nat → FP, ob r c (fun n => ph (s n))) :
    Ct m_rs_enlist [.ref 0, .int (nI B)] 90 σ (EN CS FrC σ li gi row od cf ts B s) := by
  obtain ⟨R, hRB, cR, hlo⟩ := lo_ex hob
  obtain ⟨h0, ⟨f, hf1, hf2⟩, ⟨h2, h2'⟩, -, h4, hFI, hSK, hDV, h8, h9, h10, h11, h12⟩ := h
  obtain ⟨p1, p2, p3, a, b, c3, i1, i2, i3, i4, ⟨i5, i6⟩, ⟨i7, i8⟩, ⟨i9, i10⟩, i11, i12, i13, i14, i15, i16⟩ := hFI
  obtain ⟨o0, c0, f0, k1, k2, k3, k4, k5⟩ := h8 li hli
  have h0' : σ 0 = zO 0 [.ref 1, .ref 2, .ref 3, .ref 4, .ref 5, .ref 9, .ref 15, .int (nI li), .int (nI gi)] := h0
  have hfl := hf2 li hli
  refine Ct.of (lv := [some (.ref 0), some (.int (nI B)), none, none]) 2 (by decide) rfl (Nat.le_of_ble_eq_true rfl) ?_
  generalize hPo : EN CS FrC σ li gi row od cf ts B s = Po
  refine z_ald0 (q := 1) d_rs_enlist_0 rfl ?_
  refine z_get 0 (q := 4) d_rs_enlist_1 rfl fg_rs_11 (by first | assumption | omega) (by first | assumption | omega) (by rfl) ?_
  refine z_ald0 (q := 5) d_rs_enlist_4 rfl ?_
  refine z_get 7 (q := 8) d_rs_enlist_5 rfl fg_rs_47 (by first | assumption | omega) (by first | assumption | omega) (by rfl) ?_
  refine z_aaload (q := 9) d_rs_enlist_8 rfl (by first | assumption | omega) (by first | assumption | omega) (by omega) (by omega) (by first | assumption | omega) ?_
  refine z_ast2 (q := 10) d_rs_enlist_9 rfl rfl ?_
  refine z_ald0 (q := 11) d_rs_enlist_10 rfl ?_
  refine z_get 4 (q := 14) d_rs_enlist_11 rfl fg_rs_28 (by first | assumption | omega) (by first | assumption | omega) (by rfl) ?_
  refine z_ald0 (q := 15) d_rs_enlist_14 rfl ?_
  refine z_get 2 (q := 18) d_rs_enlist_15 rfl fg_rs_19 (by first | assumption | omega) (by first | assumption | omega) (by rfl) ?_
  refine z_iconst (v := nI 2) (q := 19) d_rs_enlist_18 rfl (by decide) ?_
  refine z_ild1 (q := 20) d_rs_enlist_19 rfl ?_
  first | refine zn_imul (q := 21) d_rs_enlist_20 rfl ?_ | refine z_imul (q := 21) d_rs_enlist_20 rfl ?_
  refine z_ald2 (q := 22) d_rs_enlist_21 rfl ?_
  refine z_gV3 (q := 25) d_rs_enlist_22 rfl (ct_find i1 i2 i3 i4 h3 k1 k2 i5 i7 i9 i6 i8 i10 i11 i12 i13 (by omega) (by omega) (by omega) (show 2 * B ≤ 48 by omega) (show R ≤ 48 by omega) hg i14 i15 i16 hgP hlo.1) (by first | assumption | omega) (by first | assumption | omega) rfl ck_fi_find lk_rs_110 im_fi_find sl_fi_find ⟨by decide, by decide⟩ (Nat.le_of_ble_eq_true rfl) rfl rfl (fun r m τ hp => ?_)
  obtain ⟨rfl, rfl, A, B', S, pb, ps, L, u, Lm, AK, BK, d, hpp, hA, hB', hS, hAK, hbi, hLR, rfl⟩ := hp
  obtain ⟨rfl, hAc⟩ := bi_end fp_inv hbi hlo hRB hLR
  -- the coefficients
  have hcP : ∀ i, fl_ A c0 L i < 2147483647 := fl_lt hA k4
  have hlo' : lo_ (fun n => ph (s n)) L (fun i => ph (fl_ A c0 L i)) := lo_congr hlo (fun i hi => by
    show cR i = ph (fl_ A c0 L i)
    rw [fl_lo hi, hAK i (by omega), hAc i hi])
  have hSR : SR L (fl_ A c0 L) s := SR_of (by omega) hsP hcP hlo'
  generalize hσ1 : va_up (va_up (wf_ σ p1 pb ps A B' S) (18 + 3 * li) (zO 1 [.int (nI L), .ref (19 + 3 * li), .ref (20 + 3 * li)])) (19 + 3 * li) (zN 48 (fl_ A c0 L)) = σ1
  have e1 : ∀ j, (j < 5 ∨ 8 < j) → j ≠ 18 + 3 * li → j ≠ 19 + 3 * li → σ1 j = σ j := fun j q1 q2 q3 => by
    rw [← hσ1, zu_ne q3, zu_ne q2, wf_o (by omega) (by omega) (by omega) (by omega)]
  have s0 : σ1 0 = zO 0 [.ref 1, .ref 2, .ref 3, .ref 4, .ref 5, .ref 9, .ref 15, .int (nI li), .int (nI gi)] := by rw [e1 0 (by omega) (by omega) (by omega)]; exact h0
  have s3 : σ1 3 = zN 48 g := by rw [e1 3 (by omega) (by omega) (by omega)]; exact h3
  have sse : σ1 (18 + 3 * li) = zO 1 [.int (nI L), .ref (19 + 3 * li), .ref (20 + 3 * li)] := by rw [← hσ1, zu_ne (by omega), zu_same]
  have sci : σ1 (19 + 3 * li) = zN 48 (fl_ A c0 L) := by rw [← hσ1, zu_same]
  have sti : σ1 (20 + 3 * li) = zN 88 f0 := by rw [e1 _ (by omega) (by omega) (by omega)]; exact k3
  have sFI : FI σ1 := ⟨p1, pb, ps, A, B', S, by rw [← hσ1, zu_ne (by omega), zu_ne (by omega)]; exact wf_5 i5 (by omega) (by omega), by rw [← hσ1, zu_ne (by omega), zu_ne (by omega)]; exact wf_1 (by omega) (by omega), by rw [← hσ1, zu_ne (by omega), zu_ne (by omega)]; exact wf_b (by omega), by rw [← hσ1, zu_ne (by omega), zu_ne (by omega)]; exact wf_s, by omega, by omega, by omega, by omega, by omega, by omega, hA, hB', hS⟩
  clear hσ1
  -- behind the copy
  have fin : ∀ t3 : Option Value, Z m_rs_enlist Po 0 0 90 (va_up σ1 (20 + 3 * li) (zN 88 (fl_ g f0 L))) 53 [some (.ref 0), some (.int (nI B)), some (.ref (18 + 3 * li)), t3] [] := by
    intro t3
    have v0 : va_up σ1 (20 + 3 * li) (zN 88 (fl_ g f0 L)) 0 = zO 0 [.ref 1, .ref 2, .ref 3, .ref 4, .ref 5, .ref 9, .ref 15, .int (nI li), .int (nI gi)] := by rw [zu_ne (by omega)]; exact s0
    have vse : va_up σ1 (20 + 3 * li) (zN 88 (fl_ g f0 L)) (18 + 3 * li) = zO 1 [.int (nI L), .ref (19 + 3 * li), .ref (20 + 3 * li)] := by rw [zu_ne (by omega)]; exact sse
    have vci : va_up σ1 (20 + 3 * li) (zN 88 (fl_ g f0 L)) (19 + 3 * li) = zN 48 (fl_ A c0 L) := by rw [zu_ne (by omega)]; exact sci
    have vti : va_up σ1 (20 + 3 * li) (zN 88 (fl_ g f0 L)) (20 + 3 * li) = zN 88 (fl_ g f0 L) := zu_same
    refine z_ald2 (q := 54) d_rs_enlist_53 rfl ?_
    refine z_ald2 (q := 55) d_rs_enlist_54 rfl ?_
    refine z_get 2 (q := 58) d_rs_enlist_55 rfl fg_rs_81 (by first | assumption | omega) (by first | assumption | omega) (by rfl) ?_
    refine z_bipush (v := nI 88) (q := 60) d_rs_enlist_58 rfl (by decide) ?_
    refine z_cV2v (q := 63) d_rs_enlist_60 rfl (ct_writeTerms (f := fl_ g f0 L) (s := s) vse vci vti (by omega) (by omega) (by omega) (by omega) (by omega) (by omega) (by omega) (by omega) (by omega) (fun x hx _ => ⟨by rw [if_pos rfl]; exact zu_same, by rw [fl_lo hx]; exact hg x (by omega), fun _ => by rw [fl_lo hx]; exact hg x (by omega)⟩) hcP hsP (fl_lt hgP k5) hSR.2.2.2.1) (by first | assumption | omega) (by first | assumption | omega) rfl ck_se_writeTerms lk_rs_95 im_se_writeTerms sl_se_writeTerms ⟨by decide, by decide⟩ (Nat.le_of_ble_eq_true rfl) rfl rfl ?_
    rw [zu_up]
    generalize hf3 : fl_ s (fl_ g f0 L) 88 = f3
    have hf3P : ∀ j, f3 j < 2147483647 := fun j => by rw [← hf3]; exact fl_lt hsP (fl_lt hgP k5) j
    have hf3s : ∀ j, j < 88 → f3 j = s j := fun j hj => by rw [← hf3]; exact fl_lo hj
    have u0 : va_up σ1 (20 + 3 * li) (zN 88 f3) 0 = zO 0 [.ref 1, .ref 2, .ref 3, .ref 4, .ref 5, .ref 9, .ref 15, .int (nI li), .int (nI gi)] := by rw [zu_ne (by omega)]; exact s0
    refine z_ald0 (q := 64) d_rs_enlist_63 rfl ?_
    first | refine z_dup_r (q := 65) d_rs_enlist_64 rfl ?_ | refine z_dup_i (q := 65) d_rs_enlist_64 rfl ?_
    refine z_get 7 (q := 68) d_rs_enlist_65 rfl fg_rs_47 (by first | assumption | omega) (by first | assumption | omega) (by rfl) ?_
    refine z_iconst (v := nI 1) (q := 69) d_rs_enlist_68 rfl (by decide) ?_
    first | refine zn_iadd (q := 70) d_rs_enlist_69 rfl ?_ | refine z_iadd (q := 70) d_rs_enlist_69 rfl ?_
    refine z_put 7 (q := 73) d_rs_enlist_70 rfl fg_rs_47 ft_rs fk_rs_47 (by first | assumption | omega) (by first | assumption | omega) (fun _ => rfl) (fun _ => rfl) (by simp) ?_
    refine Z.eqw (σ' := va_up (va_up σ1 (20 + 3 * li) (zN 88 f3)) 0 (c0_ (li + 1) gi)) rfl ?_
    have y0 : va_up (va_up σ1 (20 + 3 * li) (zN 88 f3)) 0 (c0_ (li + 1) gi) 0 = zO 0 [.ref 1, .ref 2, .ref 3, .ref 4, .ref 5, .ref 9, .ref 15, .int (nI (li + 1)), .int (nI gi)] := zu_same
    refine z_ald0 (q := 74) d_rs_enlist_73 rfl ?_
    refine z_get 7 (q := 77) d_rs_enlist_74 rfl fg_rs_47 (by first | assumption | omega) (by first | assumption | omega) (by rfl) ?_
    refine z_iconst (v := nI 1) (q := 78) d_rs_enlist_77 rfl (by decide) ?_
    first | refine zn_isub (q := 79) d_rs_enlist_78 rfl (by omega) ?_ | refine z_isub (q := 79) d_rs_enlist_78 rfl ?_
    refine z_iret d_rs_enlist_79 rfl (Nat.le_refl _) (Nat.le_refl _) ?_
    rw [← hPo]
    generalize hσ2 : va_up (va_up σ1 (20 + 3 * li) (zN 88 f3)) 0 (c0_ (li + 1) gi) = σ2
    have e2 : ∀ j, j ≠ 0 → j ≠ 20 + 3 * li → σ2 j = σ1 j := fun j q1 q2 => by rw [← hσ2, zu_ne q1, zu_ne q2]
    have e3 : ∀ j, j ≠ 0 → (j < 5 ∨ 8 < j) → (j < 18 + 3 * li ∨ 20 + 3 * li < j) → σ2 j = σ j := fun j q1 q2 q3 => by rw [e2 j q1 (by omega), e1 j q2 (by omega) (by omega)]
    have hnew : SC σ2 li (nI L) (fl_ A c0 L) f3 := ⟨by rw [e2 _ (by omega) (by omega)]; exact sse, by rw [e2 _ (by omega) (by omega)]; exact sci, by rw [← hσ2, zu_ne (by omega), zu_same], hcP, hf3P⟩
    refine ⟨rfl, fun j hj => e3 j (by omega) (by omega) (by omega), by rw [show li + 1 - 1 = li by omega], L, fl_ A c0 L, by omega, hSR, ?_⟩
    refine ⟨by rw [← hσ2]; exact zu_same, LI.congr ⟨f, hf1, hf2⟩ (e3 1 (by omega) (by omega) (by omega)), ⟨by rw [e3 2 (by omega) (by omega) (by omega)]; exact h2, h2'⟩, ⟨g, by rw [e3 3 (by omega) (by omega) (by omega)]; exact h3, hgP⟩, h4.congr (e3 4 (by omega) (by omega) (by omega)), sFI.congr (fun j _ _ => e2 j (by omega) (by omega)), hSK.congr (fun j _ _ => e3 j (by omega) (by omega) (by omega)), hDV.congr (fun j _ _ => e3 j (by omega) (by omega) (by omega)), fun k hk => ?_, fun k hk => ?_, fun k hk => ?_, by omega, h12⟩
    · by_cases hkl : k = li
      · subst hkl; exact ⟨_, _, _, hnew⟩
      · obtain ⟨o, c, f', hs⟩ := h8 k hk
        exact ⟨o, c, f', hs.congr (fun j _ _ => e3 j (by omega) (by omega) (by omega))⟩
    · by_cases hkl : k = li
      · subst hkl
        rw [zu_same, zu_same, zu_same]
        exact ⟨_, _, hnew, fun i _ => rfl, hf3s⟩
      · rw [zu_ne hkl, zu_ne hkl, zu_ne hkl]
        exact (h9 k (by omega)).congr (fun j _ _ => e3 j (by omega) (by omega) (by omega))
    · by_cases hkl : k = li
      · subst hkl
        rw [zu_same, zu_same, zu_same]
        exact hSR
      · rw [zu_ne hkl, zu_ne hkl, zu_ne hkl]
        exact h10 k (by omega)
  refine z_iconst (v := nI 0) (q := 26) d_rs_enlist_25 rfl (by decide) ?_
  refine z_ist3 (q := 27) d_rs_enlist_26 rfl rfl ?_
  refine Z.eqw (σ' := va_up σ1 (20 + 3 * li) (zN 88 (fl_ g f0 0))) (by rw [fl_0]; exact zu_id sti) ?_
  have loop : ∀ e x, x + e = L → Z m_rs_enlist Po 0 0 90 (va_up σ1 (20 + 3 * li) (zN 88 (fl_ g f0 x))) 27 [some (.ref 0), some (.int (nI B)), some (.ref (18 + 3 * li)), some (.int (nI x))] [] := by
    intro e
    induction e with
    | zero =>
      intro x hx
      obtain rfl : x = L := by omega
      have vse : va_up σ1 (20 + 3 * li) (zN 88 (fl_ g f0 x)) (18 + 3 * li) = zO 1 [.int (nI x), .ref (19 + 3 * li), .ref (20 + 3 * li)] := by rw [zu_ne (by omega)]; exact sse
      refine z_ild3 (q := 28) d_rs_enlist_27 rfl ?_
      refine z_ald2 (q := 29) d_rs_enlist_28 rfl ?_
      refine z_get 0 (q := 32) d_rs_enlist_29 rfl fg_rs_78 (by first | assumption | omega) (by first | assumption | omega) (by rfl) ?_
      refine zn_icmp_ge (q := 35) (tgt := 53) d_rs_enlist_32 rfl (by decide) (by omega) (by omega) (fun hb => ?_) (fun hb => ?_)
      · exact fin _
      · exact absurd hb (by omega)
    | succ e ih =>
      intro x hx
      have v0 : va_up σ1 (20 + 3 * li) (zN 88 (fl_ g f0 x)) 0 = zO 0 [.ref 1, .ref 2, .ref 3, .ref 4, .ref 5, .ref 9, .ref 15, .int (nI li), .int (nI gi)] := by rw [zu_ne (by omega)]; exact s0
      have v3 : va_up σ1 (20 + 3 * li) (zN 88 (fl_ g f0 x)) 3 = zN 48 g := by rw [zu_ne (by omega)]; exact s3
      have vse : va_up σ1 (20 + 3 * li) (zN 88 (fl_ g f0 x)) (18 + 3 * li) = zO 1 [.int (nI L), .ref (19 + 3 * li), .ref (20 + 3 * li)] := by rw [zu_ne (by omega)]; exact sse
      have vti : va_up σ1 (20 + 3 * li) (zN 88 (fl_ g f0 x)) (20 + 3 * li) = zN 88 (fl_ g f0 x) := zu_same
      refine z_ild3 (q := 28) d_rs_enlist_27 rfl ?_
      refine z_ald2 (q := 29) d_rs_enlist_28 rfl ?_
      refine z_get 0 (q := 32) d_rs_enlist_29 rfl fg_rs_78 (by first | assumption | omega) (by first | assumption | omega) (by rfl) ?_
      refine zn_icmp_ge (q := 35) (tgt := 53) d_rs_enlist_32 rfl (by decide) (by omega) (by omega) (fun hb => ?_) (fun hb => ?_)
      · exact absurd hb (by omega)
      · refine z_ald2 (q := 36) d_rs_enlist_35 rfl ?_
        refine z_get 2 (q := 39) d_rs_enlist_36 rfl fg_rs_81 (by first | assumption | omega) (by first | assumption | omega) (by rfl) ?_
        refine z_ild3 (q := 40) d_rs_enlist_39 rfl ?_
        refine z_ald0 (q := 41) d_rs_enlist_40 rfl ?_
        refine z_get 2 (q := 44) d_rs_enlist_41 rfl fg_rs_19 (by first | assumption | omega) (by first | assumption | omega) (by rfl) ?_
        refine z_ild3 (q := 45) d_rs_enlist_44 rfl ?_
        refine z_laload (q := 46) d_rs_enlist_45 rfl (by first | assumption | omega) (by first | assumption | omega) (by omega) (by omega) ?_
        refine z_lastore (q := 47) d_rs_enlist_46 rfl (by first | assumption | omega) (by first | assumption | omega) (by omega) (by omega) ?_
        refine zn_iinc3 (d := 1) (q := 50) d_rs_enlist_47 rfl rfl ?_
        refine z_goto (tgt := 27) d_rs_enlist_50 (by decide) ?_
        refine Z.eqw ?_ (ih (x + 1) (by omega))
        rw [zu_up, fl_s]
  exact loop L 0 (by omega)

