/-! The reference: its state and its small methods -/
def m0_ (li gi : Nat) : va_E := zO 5 [.int (nI li), .int (nI gi), .ref 79, .ref 80, .ref 81, .ref 82, .ref 83, .ref 84, .ref 85, .ref 86, .ref 87, .ref 88, .ref 89]
def MSs (σ : zWd) : Prop := AR σ 83 2400 ∧ AR σ 84 2352 ∧ (∃ f : Nat → Int32, σ 85 = zI 48 f) ∧ AR σ 86 576 ∧ AR σ 87 576 ∧ AR σ 88 24 ∧ AR σ 89 24
def MSc (li gi : Nat) (row od : Nat → Nat) (cf ts : Nat → Nat → Nat) (σ : zWd) : Prop :=
  σ 78 = m0_ li gi ∧ (σ 79 = zN 40 row ∧ ∀ j, row j < 2147483647) ∧ (∃ f : Nat → Int32, σ 80 = zI 20 f ∧ ∀ k, k < li → f k = nI (od k)) ∧ (∃ g : Nat → Nat, σ 81 = zN 480 g ∧ (∀ j, g j < 2147483647) ∧ ∀ k, k < li → ∀ i, i < od k → g (24 * k + i) = cf k i) ∧ (∃ g : Nat → Nat, σ 82 = zN 480 g ∧ (∀ j, g j < 2147483647) ∧ ∀ k, k < li → ∀ i, i < od k → g (24 * k + i) = ts k i) ∧ (∀ k, k < li → SR (od k) (cf k) (ts k)) ∧ li ≤ 20 ∧ gi ≤ 40
def MS (li gi : Nat) (row od : Nat → Nat) (cf ts : Nat → Nat → Nat) (σ : zWd) : Prop := MSc li gi row od cf ts σ ∧ MSs σ
def FrM (σ σ' : zWd) : Prop := ∀ j, j < 78 → σ' j = σ j
theorem MSc.congr {li gi : Nat} {row od : Nat → Nat} {cf ts : Nat → Nat → Nat} {σ σ' : zWd} (h : MSc li gi row od cf ts σ) (e : ∀ j, 78 ≤ j → j ≤ 82 → σ' j = σ j) : MSc li gi row od cf ts σ' := by
  obtain ⟨h0, ⟨h1, h1'⟩, ⟨f, h2, h2'⟩, ⟨g1, h3, h3'⟩, ⟨g2, h4, h4'⟩, h5⟩ := h
  exact ⟨by rw [e 78 (by omega) (by omega)]; exact h0, ⟨by rw [e 79 (by omega) (by omega)]; exact h1, h1'⟩, ⟨f, by rw [e 80 (by omega) (by omega)]; exact h2, h2'⟩, ⟨g1, by rw [e 81 (by omega) (by omega)]; exact h3, h3'⟩, ⟨g2, by rw [e 82 (by omega) (by omega)]; exact h4, h4'⟩, h5⟩
theorem AR.up {σ : zWd} {p N q : Nat} {e : va_E} (h : AR σ p N) (hq : p ≠ q) : AR (va_up σ q e) p N := h.congr (zu_ne hq)
theorem AR.new {σ : zWd} {p N : Nat} {g : Nat → Nat} (h : ∀ j, g j < 2147483647) : AR (va_up σ p (zN N g)) p N := ⟨g, zu_same, h⟩
theorem MSs.congr {σ σ' : zWd} (h : MSs σ) (e : ∀ j, 83 ≤ j → j ≤ 89 → σ' j = σ j) : MSs σ' := by
  obtain ⟨h1, h2, ⟨f, h3⟩, h4, h5, h6, h7⟩ := h
  exact ⟨h1.congr (e _ (by omega) (by omega)), h2.congr (e _ (by omega) (by omega)), ⟨f, by rw [e _ (by omega) (by omega)]; exact h3⟩, h4.congr (e _ (by omega) (by omega)), h5.congr (e _ (by omega) (by omega)), h6.congr (e _ (by omega) (by omega)), h7.congr (e _ (by omega) (by omega))⟩
theorem MSs.t {σ : zWd} {g : Nat → Nat} (h : MSs σ) (hg : ∀ j, g j < 2147483647) : MSs (va_up σ 83 (zN 2400 g)) := by
  obtain ⟨h1, h2, ⟨f, h3⟩, h4, h5, h6, h7⟩ := h
  exact ⟨AR.new hg, h2.up (by omega), ⟨f, by rw [zu_ne (by omega)]; exact h3⟩, h4.up (by omega), h5.up (by omega), h6.up (by omega), h7.up (by omega)⟩
theorem MSs.grid {σ : zWd} {g : Nat → Nat} (h : MSs σ) (hg : ∀ j, g j < 2147483647) : MSs (va_up σ 84 (zN 2352 g)) := by
  obtain ⟨h1, h2, ⟨f, h3⟩, h4, h5, h6, h7⟩ := h
  exact ⟨h1.up (by omega), AR.new hg, ⟨f, by rw [zu_ne (by omega)]; exact h3⟩, h4.up (by omega), h5.up (by omega), h6.up (by omega), h7.up (by omega)⟩
theorem MSs.pivot {σ : zWd} {g : Nat → Int32} (h : MSs σ) : MSs (va_up σ 85 (zI 48 g)) := by
  obtain ⟨h1, h2, ⟨f, h3⟩, h4, h5, h6, h7⟩ := h
  exact ⟨h1.up (by omega), h2.up (by omega), ⟨g, zu_same⟩, h4.up (by omega), h5.up (by omega), h6.up (by omega), h7.up (by omega)⟩
theorem MSs.step {σ : zWd} {g : Nat → Nat} (h : MSs σ) (hg : ∀ j, g j < 2147483647) : MSs (va_up σ 86 (zN 576 g)) := by
  obtain ⟨h1, h2, ⟨f, h3⟩, h4, h5, h6, h7⟩ := h
  exact ⟨h1.up (by omega), h2.up (by omega), ⟨f, by rw [zu_ne (by omega)]; exact h3⟩, AR.new hg, h5.up (by omega), h6.up (by omega), h7.up (by omega)⟩
theorem MSs.square {σ : zWd} {g : Nat → Nat} (h : MSs σ) (hg : ∀ j, g j < 2147483647) : MSs (va_up σ 87 (zN 576 g)) := by
  obtain ⟨h1, h2, ⟨f, h3⟩, h4, h5, h6, h7⟩ := h
  exact ⟨h1.up (by omega), h2.up (by omega), ⟨f, by rw [zu_ne (by omega)]; exact h3⟩, h4.up (by omega), AR.new hg, h6.up (by omega), h7.up (by omega)⟩
theorem MSs.vector {σ : zWd} {g : Nat → Nat} (h : MSs σ) (hg : ∀ j, g j < 2147483647) : MSs (va_up σ 88 (zN 24 g)) := by
  obtain ⟨h1, h2, ⟨f, h3⟩, h4, h5, h6, h7⟩ := h
  exact ⟨h1.up (by omega), h2.up (by omega), ⟨f, by rw [zu_ne (by omega)]; exact h3⟩, h4.up (by omega), h5.up (by omega), AR.new hg, h7.up (by omega)⟩
theorem MSs.moved {σ : zWd} {g : Nat → Nat} (h : MSs σ) (hg : ∀ j, g j < 2147483647) : MSs (va_up σ 89 (zN 24 g)) := by
  obtain ⟨h1, h2, ⟨f, h3⟩, h4, h5, h6, h7⟩ := h
  exact ⟨h1.up (by omega), h2.up (by omega), ⟨f, by rw [zu_ne (by omega)]; exact h3⟩, h4.up (by omega), h5.up (by omega), h6.up (by omega), AR.new hg⟩
theorem mt_number (n : Nat) (σ : zWd) (v : Int32) : Ct m_mo_number [.int v] n σ (zEq (some (.long (lN (nu_ v)))) n σ) := by
  refine Ct.of (lv := [some (.int v), none, none]) 2 (by decide) rfl (Nat.le_of_ble_eq_true rfl) ?_
  have hr := zr_rem v
  have hb5 : -2147483647 < v.toInt.tmod 2147483647 ∧ v.toInt.tmod 2147483647 < 2147483647 := tmod_bounds (by decide)
  refine z_ild0 (q := 1) d_mo_number_0 rfl ?_
  first | refine zn_i2l (q := 2) d_mo_number_1 rfl (by omega) ?_ | refine z_i2l (q := 2) d_mo_number_1 rfl ?_
  refine z_ldc2 (q := 5) d_mo_number_2 rfl cl_mo_44 ?_
  refine z_lrem (q := 6) d_mo_number_5 rfl (z_lne0 (by decide) (by decide)) ?_
  generalize v.toInt64 - v.toInt64 / lN 2147483647 * lN 2147483647 = x at hr ⊢
  refine z_lst1 (q := 7) d_mo_number_6 rfl rfl ?_
  refine z_lld1 (q := 8) d_mo_number_7 rfl ?_
  refine z_lconst (v := lN 0) (q := 9) d_mo_number_8 rfl rfl ?_
  refine z_lcmp (q := 10) d_mo_number_9 rfl ?_
  refine z_if_ge (q := 13) (tgt := 21) d_mo_number_10 rfl (by decide) (fun hb => ?_) (fun hb => ?_)
  · have h0 : 0 ≤ x.toInt := by
      have := (lg_cmp_ge x (lN 0)).mp hb
      rw [Int64.le_iff_toInt_le] at this
      exact this
    have e : x = lN (nu_ v) := zr_num (by have := nu_lt v; omega) (by rw [hr]; exact nu_pos (by omega))
    refine z_lld1 (q := 22) d_mo_number_21 rfl ?_
    exact z_lret d_mo_number_22 rfl (Nat.le_refl _) (Nat.le_refl _) ⟨by rw [e], rfl, rfl⟩
  · have h0 : x.toInt < 0 := by
      refine Int.not_le.mp (fun h => hb ((lg_cmp_ge x (lN 0)).mpr ?_))
      rw [Int64.le_iff_toInt_le]
      exact h
    have e : x + lN 2147483647 = lN (nu_ v) := zr_num (by have := nu_lt v; omega) (by
      have e2 : (lN 2147483647).toInt = 2147483647 := pk_lT (by decide)
      rw [Jvm.Kit.i64_add (by rw [e2]; omega) (by rw [e2]; omega), e2, hr]
      exact nu_neg (by omega))
    refine z_lld1 (q := 14) d_mo_number_13 rfl ?_
    refine z_ldc2 (q := 17) d_mo_number_14 rfl cl_mo_44 ?_
    first | refine zn_ladd (q := 18) d_mo_number_17 rfl ?_ | refine z_ladd (q := 18) d_mo_number_17 rfl ?_
    refine z_goto (tgt := 22) d_mo_number_18 (by decide) ?_
    exact z_lret d_mo_number_22 rfl (Nat.le_refl _) (Nat.le_refl _) ⟨by rw [e], rfl, rfl⟩
theorem mt_inverse (n : Nat) (σ : zWd) {a : Nat} (ha : a < 2147483647) : Ct m_mo_inverse [.long (lN a)] n σ (zEq (some (.long (lN (in_ a)))) n σ) := by
  refine Ct.of (lv := [some (.long (lN a)), none, none, none, none, none, none, none]) 6 (by decide) rfl (Nat.le_of_ble_eq_true rfl) ?_
  have loop : ∀ f l p s, l < 2 ^ f → l < 2147483647 → p < 2147483647 → s < 2147483647 → Z m_mo_inverse (zEq (some (.long (lN (iv_ f l p s)))) n σ) 0 0 n σ 10 [some (.long (lN a)), none, some (.long (lN p)), none, some (.long (lN s)), none, some (.long (lN l)), none] [] := by
    intro f
    induction f with
    | zero =>
      intro l p s hl _ hp hs
      have : l = 0 := by simp at hl; omega
      subst this
      refine z_lld6 (q := 12) d_mo_inverse_10 rfl ?_
      refine z_lconst (v := lN 0) (q := 13) d_mo_inverse_12 rfl rfl ?_
      refine z_lcmp (q := 14) d_mo_inverse_13 rfl ?_
      refine zc_if_le (q := 17) (tgt := 59) d_mo_inverse_14 rfl (by decide) (by omega) (by omega) (fun hb => ?_) (fun hb => absurd (Nat.le_refl 0) hb)
      refine z_lld2 (q := 60) d_mo_inverse_59 rfl ?_
      exact z_lret d_mo_inverse_60 rfl (Nat.le_refl _) (Nat.le_refl _) ⟨rfl, rfl, rfl⟩
    | succ f ih =>
      intro l p s hl hl2 hp hs
      have hss := mul_lt hs hs
      have hps := mul_lt hp hs
      refine z_lld6 (q := 12) d_mo_inverse_10 rfl ?_
      refine z_lconst (v := lN 0) (q := 13) d_mo_inverse_12 rfl rfl ?_
      refine z_lcmp (q := 14) d_mo_inverse_13 rfl ?_
      refine zc_if_le (q := 17) (tgt := 59) d_mo_inverse_14 rfl (by decide) (by omega) (by omega) (fun hb => ?_) (fun hb => ?_)
      · have : l = 0 := by omega
        subst this
        refine z_lld2 (q := 60) d_mo_inverse_59 rfl ?_
        exact z_lret d_mo_inverse_60 rfl (Nat.le_refl _) (Nat.le_refl _) ⟨rfl, rfl, rfl⟩
      · have hl0 : l ≠ 0 := by omega
        have tail : ∀ p', p' < 2147483647 → p' = (if l % 2 = 1 then p * s % 2147483647 else p) → Z m_mo_inverse (zEq (some (.long (lN (iv_ (f + 1) l p s)))) n σ) 0 0 n σ 38 [some (.long (lN a)), none, some (.long (lN p)), none, some (.long (lN s)), none, some (.long (lN l)), none] [.long (lN p')] := by
          intro p' hp' hpe
          have e : iv_ (f + 1) l p s = iv_ f (l / 2 ^ 1) p' (s * s % 2147483647) := by
            rw [hpe]
            show (if l = 0 then p else _) = _
            rw [if_neg hl0]
          have h5 := ih (l / 2 ^ 1) p' (s * s % 2147483647) (by rw [Nat.pow_succ] at hl; omega) (by omega) hp' (Nat.mod_lt _ (by omega))
          rw [← e] at h5
          clear e hpe
          refine z_lst2 (q := 39) d_mo_inverse_38 rfl rfl ?_
          refine z_lld4 (q := 41) d_mo_inverse_39 rfl ?_
          refine z_lld4 (q := 43) d_mo_inverse_41 rfl ?_
          first | refine zn_lmul (q := 44) d_mo_inverse_43 rfl ?_ | refine z_lmul (q := 44) d_mo_inverse_43 rfl ?_
          refine z_ldc2 (q := 47) d_mo_inverse_44 rfl cl_mo_44 ?_
          refine zn_lrem (q := 48) d_mo_inverse_47 rfl (by omega) (by omega) (by omega) ?_
          refine z_lst4 (q := 50) d_mo_inverse_48 rfl rfl ?_
          refine z_lld6 (q := 52) d_mo_inverse_50 rfl ?_
          refine z_iconst (v := nI 1) (q := 53) d_mo_inverse_52 rfl (by decide) ?_
          refine zn_lshr (q := 54) d_mo_inverse_53 rfl (by omega) (by omega) ?_
          refine z_lst6 (q := 56) d_mo_inverse_54 rfl rfl ?_
          refine z_goto (tgt := 10) d_mo_inverse_56 (by decide) ?_
          exact h5
        refine z_lld6 (q := 19) d_mo_inverse_17 rfl ?_
        refine z_lconst (v := lN 1) (q := 20) d_mo_inverse_19 rfl rfl ?_
        refine zn_land1 (q := 21) d_mo_inverse_20 rfl (by omega) ?_
        refine z_lconst (v := lN 1) (q := 22) d_mo_inverse_21 rfl rfl ?_
        refine z_lcmp (q := 23) d_mo_inverse_22 rfl ?_
        refine zc_if_ne (q := 26) (tgt := 37) d_mo_inverse_23 rfl (by decide) (by omega) (by omega) (fun hb => ?_) (fun hb => ?_)
        · refine z_lld2 (q := 38) d_mo_inverse_37 rfl ?_
          exact tail p hp (by rw [if_neg hb])
        · refine z_lld2 (q := 27) d_mo_inverse_26 rfl ?_
          refine z_lld4 (q := 29) d_mo_inverse_27 rfl ?_
          first | refine zn_lmul (q := 30) d_mo_inverse_29 rfl ?_ | refine z_lmul (q := 30) d_mo_inverse_29 rfl ?_
          refine z_ldc2 (q := 33) d_mo_inverse_30 rfl cl_mo_44 ?_
          refine zn_lrem (q := 34) d_mo_inverse_33 rfl (by omega) (by omega) (by omega) ?_
          refine z_goto (tgt := 38) d_mo_inverse_34 (by decide) ?_
          exact tail _ (Nat.mod_lt _ (by omega)) (by rw [if_pos hb])
  refine z_lconst (v := lN 1) (q := 1) d_mo_inverse_0 rfl rfl ?_
  refine z_lst2 (q := 2) d_mo_inverse_1 rfl rfl ?_
  refine z_lld0 (q := 3) d_mo_inverse_2 rfl ?_
  refine z_lst4 (q := 5) d_mo_inverse_3 rfl rfl ?_
  refine z_ldc2 (q := 8) d_mo_inverse_5 rfl cl_mo_46 ?_
  refine z_lst6 (q := 10) d_mo_inverse_8 rfl rfl ?_
  exact loop 31 2147483645 1 a (by decide) (by omega) (by omega) ha
theorem mt_isIn_yes {n : Nat} {σ : zWd} {li gi a : Nat} (h0 : σ 78 = m0_ li gi) (hn : 78 < n) (hli : li ≤ 20) (ha : a < li) : Ct m_mo_isIn [.ref 78, .int (nI a)] n σ (zEq (some (.int (nI 1))) n σ) := by
  have h0 : σ 78 = zO 5 [.int (nI li), .int (nI gi), .ref 79, .ref 80, .ref 81, .ref 82, .ref 83, .ref 84, .ref 85, .ref 86, .ref 87, .ref 88, .ref 89] := h0
  refine Ct.of (lv := [some (.ref 78), some (.int (nI a))]) 0 (by decide) rfl (Nat.le_of_ble_eq_true rfl) ?_
  refine z_ild1 (q := 1) d_mo_isIn_0 rfl ?_
  refine zi_if_lt (q := 4) (tgt := 16) d_mo_isIn_1 rfl (by decide) (by omega) ?_
  refine z_ild1 (q := 5) d_mo_isIn_4 rfl ?_
  refine z_ald0 (q := 6) d_mo_isIn_5 rfl ?_
  refine z_get 0 (q := 9) d_mo_isIn_6 rfl fg_mo_48 (by first | assumption | omega) (by first | assumption | omega) (by rfl) ?_
  refine zn_icmp_ge (q := 12) (tgt := 16) d_mo_isIn_9 rfl (by decide) (by omega) (by omega) (fun hb => ?_) (fun hb => ?_)
  · exact absurd hb (by omega)
  · refine z_iconst (v := nI 1) (q := 13) d_mo_isIn_12 rfl (by decide) ?_
    refine z_goto (tgt := 17) d_mo_isIn_13 (by decide) ?_
    exact z_zret d_mo_isIn_17 rfl rfl (Nat.le_refl _) (Nat.le_refl _) ⟨rfl, rfl, rfl⟩
theorem mt_isIn_no {n : Nat} {σ : zWd} {li gi : Nat} {k : Int32} (h0 : σ 78 = m0_ li gi) (hn : 78 < n) (hli : li ≤ 20) (hk : ¬ isL li k) : Ct m_mo_isIn [.ref 78, .int k] n σ (zEq (some (.int (nI 0))) n σ) := by
  have h0 : σ 78 = zO 5 [.int (nI li), .int (nI gi), .ref 79, .ref 80, .ref 81, .ref 82, .ref 83, .ref 84, .ref 85, .ref 86, .ref 87, .ref 88, .ref 89] := h0
  have hk := isL_no hli hk
  refine Ct.of (lv := [some (.ref 78), some (.int k)]) 0 (by decide) rfl (Nat.le_of_ble_eq_true rfl) ?_
  have fin : Z m_mo_isIn (zEq (some (.int (nI 0))) n σ) 0 0 n σ 16 [some (.ref 78), some (.int k)] [] := by
    refine z_iconst (v := nI 0) (q := 17) d_mo_isIn_16 rfl (by decide) ?_
    exact z_zret d_mo_isIn_17 rfl rfl (Nat.le_refl _) (Nat.le_refl _) ⟨rfl, rfl, rfl⟩
  refine z_ild1 (q := 1) d_mo_isIn_0 rfl ?_
  refine z_if_lt (q := 4) (tgt := 16) d_mo_isIn_1 rfl (by decide) (fun hb => ?_) (fun hb => ?_)
  · exact fin
  · refine z_ild1 (q := 5) d_mo_isIn_4 rfl ?_
    refine z_ald0 (q := 6) d_mo_isIn_5 rfl ?_
    refine z_get 0 (q := 9) d_mo_isIn_6 rfl fg_mo_48 (by first | assumption | omega) (by first | assumption | omega) (by rfl) ?_
    refine z_icmp_ge (q := 12) (tgt := 16) d_mo_isIn_9 rfl (by decide) (fun _ => fin) (fun hb2 => ?_)
    rcases hk with h | h
    · exact absurd h hb
    · exact absurd h hb2
theorem mt_orderOf_yes {n : Nat} {σ : zWd} {li gi a o : Nat} {f : Nat → Int32} (h0 : σ 78 = m0_ li gi) (h80 : σ 80 = zI 20 f) (hf : f a = nI o) (hn : 80 < n) (hli : li ≤ 20) (ha : a < li) : Ct m_mo_orderOf [.ref 78, .int (nI a)] n σ (zEq (some (.int (nI o))) n σ) := by
  have h0' : σ 78 = zO 5 [.int (nI li), .int (nI gi), .ref 79, .ref 80, .ref 81, .ref 82, .ref 83, .ref 84, .ref 85, .ref 86, .ref 87, .ref 88, .ref 89] := h0
  refine Ct.of (lv := [some (.ref 78), some (.int (nI a))]) 0 (by decide) rfl (Nat.le_of_ble_eq_true rfl) ?_
  refine z_ald0 (q := 1) d_mo_orderOf_0 rfl ?_
  refine z_ild1 (q := 2) d_mo_orderOf_1 rfl ?_
  refine z_cV1 (q := 5) d_mo_orderOf_2 rfl (mt_isIn_yes h0 (by omega) hli ha) (by first | assumption | omega) (by first | assumption | omega) rfl ck_mo_isIn lk_mo_82 im_mo_isIn sl_mo_isIn ⟨by decide, by decide⟩ (Nat.le_of_ble_eq_true rfl) rfl rfl ?_
  refine zi_if_eq (q := 8) (tgt := 17) d_mo_orderOf_5 rfl (by decide) (by omega) (fun hb => absurd hb (by omega)) (fun _ => ?_)
  refine z_ald0 (q := 9) d_mo_orderOf_8 rfl ?_
  refine z_get 3 (q := 12) d_mo_orderOf_9 rfl fg_mo_13 (by first | assumption | omega) (by first | assumption | omega) (by rfl) ?_
  refine z_ild1 (q := 13) d_mo_orderOf_12 rfl ?_
  refine z_iaload (q := 14) d_mo_orderOf_13 rfl (by first | assumption | omega) (by first | assumption | omega) (by omega) (by omega) ?_
  rw [hf]
  refine z_goto (tgt := 18) d_mo_orderOf_14 (by decide) ?_
  exact z_iret d_mo_orderOf_18 rfl (Nat.le_refl _) (Nat.le_refl _) ⟨rfl, rfl, rfl⟩
theorem mt_orderOf_no {n : Nat} {σ : zWd} {li gi : Nat} {k : Int32} (h0 : σ 78 = m0_ li gi) (hn : 80 < n) (hli : li ≤ 20) (hk : ¬ isL li k) : Ct m_mo_orderOf [.ref 78, .int k] n σ (zEq (some (.int (nI 0))) n σ) := by
  have h0' : σ 78 = zO 5 [.int (nI li), .int (nI gi), .ref 79, .ref 80, .ref 81, .ref 82, .ref 83, .ref 84, .ref 85, .ref 86, .ref 87, .ref 88, .ref 89] := h0
  refine Ct.of (lv := [some (.ref 78), some (.int k)]) 0 (by decide) rfl (Nat.le_of_ble_eq_true rfl) ?_
  refine z_ald0 (q := 1) d_mo_orderOf_0 rfl ?_
  refine z_ild1 (q := 2) d_mo_orderOf_1 rfl ?_
  refine z_cV1 (q := 5) d_mo_orderOf_2 rfl (mt_isIn_no h0 (by omega) hli hk) (by first | assumption | omega) (by first | assumption | omega) rfl ck_mo_isIn lk_mo_82 im_mo_isIn sl_mo_isIn ⟨by decide, by decide⟩ (Nat.le_of_ble_eq_true rfl) rfl rfl ?_
  refine zi_if_eq (q := 8) (tgt := 17) d_mo_orderOf_5 rfl (by decide) (by omega) (fun _ => ?_) (fun hb => absurd rfl hb)
  refine z_iconst (v := nI 0) (q := 18) d_mo_orderOf_17 rfl (by decide) ?_
  exact z_iret d_mo_orderOf_18 rfl (Nat.le_refl _) (Nat.le_refl _) ⟨rfl, rfl, rfl⟩
/-- the reference's refusal: -1, -2, -3 or 0 -/
theorem mt_refusal_bad {n : Nat} {σ : zWd} {B : Int32} : Ct m_mo_refusal [.ref 78, .int (nI 0), .int B] n σ (zEq (some (.int (-1))) n σ) := by
  refine Ct.of (lv := [some (.ref 78), some (.int (nI 0)), some (.int B)]) 0 (by decide) rfl (Nat.le_of_ble_eq_true rfl) ?_
  refine z_ild1 (q := 1) d_mo_refusal_0 rfl ?_
  refine zi_if_ne (q := 4) (tgt := 8) d_mo_refusal_1 rfl (by decide) (by decide) (fun hb => absurd rfl hb) (fun _ => ?_)
  refine z_iconst (v := (-1)) (q := 5) d_mo_refusal_4 rfl (by decide) ?_
  refine z_goto (tgt := 34) d_mo_refusal_5 (by decide) ?_
  exact z_iret d_mo_refusal_34 rfl (Nat.le_refl _) (Nat.le_refl _) ⟨rfl, rfl, rfl⟩
theorem mt_refusal {n : Nat} {σ : zWd} {li gi B : Nat} (h0 : σ 78 = m0_ li gi) (hn : 78 < n) (hli : li ≤ 20) (hB : B < 100000) : Ct m_mo_refusal [.ref 78, .int (nI 1), .int (nI B)] n σ (zEq (some (.int (if 20 ≤ li ∨ 24 < B then nf_ li B else nI 0))) n σ) := by
  have h0 : σ 78 = zO 5 [.int (nI li), .int (nI gi), .ref 79, .ref 80, .ref 81, .ref 82, .ref 83, .ref 84, .ref 85, .ref 86, .ref 87, .ref 88, .ref 89] := h0
  refine Ct.of (lv := [some (.ref 78), some (.int (nI 1)), some (.int (nI B))]) 0 (by decide) rfl (Nat.le_of_ble_eq_true rfl) ?_
  refine z_ild1 (q := 1) d_mo_refusal_0 rfl ?_
  refine zi_if_ne (q := 4) (tgt := 8) d_mo_refusal_1 rfl (by decide) (by decide) (fun _ => ?_) (fun hb => absurd hb (by decide))
  refine z_ald0 (q := 9) d_mo_refusal_8 rfl ?_
  refine z_get 0 (q := 12) d_mo_refusal_9 rfl fg_mo_48 (by first | assumption | omega) (by first | assumption | omega) (by rfl) ?_
  refine z_bipush (v := nI 20) (q := 14) d_mo_refusal_12 rfl (by decide) ?_
  refine zn_icmp_lt (q := 17) (tgt := 22) d_mo_refusal_14 rfl (by decide) (by omega) (by omega) (fun hb => ?_) (fun hb => ?_)
  · refine z_ild2 (q := 23) d_mo_refusal_22 rfl ?_
    refine z_bipush (v := nI 24) (q := 25) d_mo_refusal_23 rfl (by decide) ?_
    refine zn_icmp_le (q := 28) (tgt := 33) d_mo_refusal_25 rfl (by decide) (by omega) (by omega) (fun hb2 => ?_) (fun hb2 => ?_)
    · refine z_iconst (v := nI 0) (q := 34) d_mo_refusal_33 rfl (by decide) ?_
      exact z_iret d_mo_refusal_34 rfl (Nat.le_refl _) (Nat.le_refl _) ⟨by rw [if_neg (by omega)], rfl, rfl⟩
    · refine z_bipush (v := (-3)) (q := 30) d_mo_refusal_28 rfl (by decide) ?_
      refine z_goto (tgt := 34) d_mo_refusal_30 (by decide) ?_
      exact z_iret d_mo_refusal_34 rfl (Nat.le_refl _) (Nat.le_refl _) ⟨by rw [if_pos (by omega)]; unfold nf_; rw [if_neg (by omega), if_pos (by omega)], rfl, rfl⟩
  · refine z_bipush (v := (-2)) (q := 19) d_mo_refusal_17 rfl (by decide) ?_
    refine z_goto (tgt := 34) d_mo_refusal_19 (by decide) ?_
    exact z_iret d_mo_refusal_34 rfl (Nat.le_refl _) (Nat.le_refl _) ⟨by rw [if_pos (by omega)]; unfold nf_; rw [if_pos (by omega)], rfl, rfl⟩
/-- expand -/
def ex_ (s g : Nat → Nat) (at' x : Nat) : Nat → Nat := fun j => if at' ≤ j ∧ j < at' + x then s (j - at') else g j
theorem ex_0 (s g : Nat → Nat) (at' : Nat) : ex_ s g at' 0 = g := by
  funext j
  unfold ex_
  rw [if_neg (by omega)]
theorem ex_s (s g : Nat → Nat) (at' x : Nat) : va_up (ex_ s g at' x) (at' + x) (s x) = ex_ s g at' (x + 1) := by
  funext j
  unfold va_up ex_
  by_cases h : j = at' + x
  · rw [if_pos h, if_pos (by omega), show j - at' = x by omega]
  · rw [if_neg h]
    by_cases h2 : at' ≤ j ∧ j < at' + x
    · rw [if_pos h2, if_pos (by omega)]
    · rw [if_neg h2, if_neg (by omega)]
theorem ex_in {s g : Nat → Nat} {at' x i : Nat} (h : i < x) : ex_ s g at' x (at' + i) = s i := by
  unfold ex_
  rw [if_pos (by omega), show at' + i - at' = i by omega]
theorem ex_out {s g : Nat → Nat} {at' x j : Nat} (h : j < at' ∨ at' + x ≤ j) : ex_ s g at' x j = g j := by
  unfold ex_
  rw [if_neg (by omega)]
theorem ex_lt {s g : Nat → Nat} {at' x : Nat} (hs : ∀ j, s j < 2147483647) (hg : ∀ j, g j < 2147483647) : ∀ j, ex_ s g at' x j < 2147483647 := by
  intro j
  unfold ex_
  split
  · exact hs _
  · exact hg _
theorem mt_expand {li gi : Nat} {row od : Nat → Nat} {cf ts : Nat → Nat → Nat} {σ : zWd} {g : Nat → Nat} {at' a m : Nat} (h : MSc li gi row od cf ts σ) (ht : σ 83 = zN 2400 g) (hg : ∀ j, g j < 2147483647) (ha : a < li) (hm : at' + m ≤ 2400) : Ct m_mo_expand [.ref 78, .int (nI at'), .int (nI a), .int (nI m)] 90 σ (zEq none 90 (va_up σ 83 (zN 2400 (ex_ (ts a) g at' m)))) := by
  obtain ⟨h0, ⟨h1, h1'⟩, ⟨f, h2, h2'⟩, ⟨g1, h3, h3', h3''⟩, ⟨g2, h4, h4', h4''⟩, h5, h6, h7⟩ := h
  have h0 : σ 78 = zO 5 [.int (nI li), .int (nI gi), .ref 79, .ref 80, .ref 81, .ref 82, .ref 83, .ref 84, .ref 85, .ref 86, .ref 87, .ref 88, .ref 89] := h0
  have hSR := h5 a ha
  have ho := hSR.1
  have hfa := h2' a ha
  refine Ct.of (lv := [some (.ref 78), some (.int (nI at')), some (.int (nI a)), some (.int (nI m)), none, none, none, none, none]) 5 (by decide) rfl (Nat.le_of_ble_eq_true rfl) ?_
  generalize hPo : zEq none 90 (va_up σ 83 (zN 2400 (ex_ (ts a) g at' m))) = Po
  refine z_ald0 (q := 1) d_mo_expand_0 rfl ?_
  refine z_get 3 (q := 4) d_mo_expand_1 rfl fg_mo_13 (by first | assumption | omega) (by first | assumption | omega) (by rfl) ?_
  refine z_ild2 (q := 5) d_mo_expand_4 rfl ?_
  refine z_iaload (q := 6) d_mo_expand_5 rfl (by first | assumption | omega) (by first | assumption | omega) (by omega) (by omega) ?_
  rw [hfa]
  refine z_ist4 (q := 8) d_mo_expand_6 rfl rfl ?_
  refine z_iconst (v := nI 0) (q := 9) d_mo_expand_8 rfl (by decide) ?_
  refine z_ist5 (q := 11) d_mo_expand_9 rfl rfl ?_
  have loop : ∀ e x (t6 t7 t8 : Option Value), x + e = m → Z m_mo_expand Po 0 0 90 (va_up σ 83 (zN 2400 (ex_ (ts a) g at' x))) 11 [some (.ref 78), some (.int (nI at')), some (.int (nI a)), some (.int (nI m)), some (.int (nI (od a))), some (.int (nI x)), t6, t7, t8] [] := by
    intro e
    induction e with
    | zero =>
      intro x t6 t7 t8 hx
      obtain rfl : x = m := by omega
      refine z_ild5 (q := 13) d_mo_expand_11 rfl ?_
      refine z_ild3 (q := 14) d_mo_expand_13 rfl ?_
      refine zn_icmp_ge (q := 17) (tgt := 118) d_mo_expand_14 rfl (by decide) (by omega) (by omega) (fun hb => ?_) (fun hb => ?_)
      · exact z_vret d_mo_expand_118 rfl (Nat.le_refl _) (Nat.le_refl _) (by rw [← hPo]; exact ⟨rfl, rfl, rfl⟩)
      · exact absurd hb (by omega)
    | succ e ih =>
      intro x t6 t7 t8 hx
      generalize hW : va_up σ 83 (zN 2400 (ex_ (ts a) g at' x)) = W
      have w0 : W 78 = zO 5 [.int (nI li), .int (nI gi), .ref 79, .ref 80, .ref 81, .ref 82, .ref 83, .ref 84, .ref 85, .ref 86, .ref 87, .ref 88, .ref 89] := by rw [← hW, zu_ne (by omega)]; exact h0
      have w1 : W 81 = zN 480 g1 := by rw [← hW, zu_ne (by omega)]; exact h3
      have w2 : W 82 = zN 480 g2 := by rw [← hW, zu_ne (by omega)]; exact h4
      have w3 : W 83 = zN 2400 (ex_ (ts a) g at' x) := by rw [← hW, zu_same]
      have hexP := ex_lt (at' := at') (x := x) hSR.2.1 hg
      have fin : ∀ t8 : Option Value, Z m_mo_expand Po 0 0 90 W 101 [some (.ref 78), some (.int (nI at')), some (.int (nI a)), some (.int (nI m)), some (.int (nI (od a))), some (.int (nI x)), some (.long (lN (ts a x))), none, t8] [] := by
        intro t8
        refine z_ald0 (q := 102) d_mo_expand_101 rfl ?_
        refine z_get 6 (q := 105) d_mo_expand_102 rfl fg_mo_23 (by first | assumption | omega) (by first | assumption | omega) (by rfl) ?_
        refine z_ild1 (q := 106) d_mo_expand_105 rfl ?_
        refine z_ild5 (q := 108) d_mo_expand_106 rfl ?_
        first | refine zn_iadd (q := 109) d_mo_expand_108 rfl ?_ | refine z_iadd (q := 109) d_mo_expand_108 rfl ?_
        refine z_lld6 (q := 111) d_mo_expand_109 rfl ?_
        refine z_lastore (q := 112) d_mo_expand_111 rfl (by first | assumption | omega) (by first | assumption | omega) (by omega) (by omega) ?_
        refine zn_iinc5 (d := 1) (q := 115) d_mo_expand_112 rfl rfl ?_
        refine z_goto (tgt := 11) d_mo_expand_115 (by decide) ?_
        refine Z.eqw ?_ (ih (x + 1) _ _ _ (by omega))
        rw [← hW, zu_up, ex_s]
      have mid : ∀ y, y < 2147483647 → (x < od a → y = ts a x) → (od a ≤ x → y = 0) → Z m_mo_expand Po 0 0 90 W 40 [some (.ref 78), some (.int (nI at')), some (.int (nI a)), some (.int (nI m)), some (.int (nI (od a))), some (.int (nI x)), t6, t7, t8] [.long (lN y)] := by
        intro y hy hy1 hy2
        refine z_lst6 (q := 42) d_mo_expand_40 rfl rfl ?_
        refine z_iconst (v := nI 1) (q := 43) d_mo_expand_42 rfl (by decide) ?_
        refine z_ist8 (q := 45) d_mo_expand_43 rfl rfl ?_
        by_cases hxo : x < od a
        · rw [hy1 hxo]
          refine z_ild8 (q := 47) d_mo_expand_45 rfl ?_
          refine z_ild4 (q := 49) d_mo_expand_47 rfl ?_
          refine zn_icmp_gt (q := 52) (tgt := 101) d_mo_expand_49 rfl (by decide) (by omega) (by omega) (fun _ => fin _) (fun _ => ?_)
          refine z_ild5 (q := 54) d_mo_expand_52 rfl ?_
          refine z_ild4 (q := 56) d_mo_expand_54 rfl ?_
          exact zn_icmp_lt (q := 59) (tgt := 101) d_mo_expand_56 rfl (by decide) (by omega) (by omega) (fun _ => fin _) (fun hb => absurd hxo hb)
        · rw [hy2 (by omega)]
          have inner : ∀ e2 z, z + e2 = od a → Z m_mo_expand Po 0 0 90 W 45 [some (.ref 78), some (.int (nI at')), some (.int (nI a)), some (.int (nI m)), some (.int (nI (od a))), some (.int (nI x)), some (.long (lN (fo_ (cf a) (ts a) x z))), none, some (.int (nI (z + 1)))] [] := by
            intro e2
            induction e2 with
            | zero =>
              intro z hz
              obtain rfl : z = od a := by omega
              refine z_ild8 (q := 47) d_mo_expand_45 rfl ?_
              refine z_ild4 (q := 49) d_mo_expand_47 rfl ?_
              refine zn_icmp_gt (q := 52) (tgt := 101) d_mo_expand_49 rfl (by decide) (by omega) (by omega) (fun _ => ?_) (fun hb => absurd hb (by omega))
              have e9 : fo_ (cf a) (ts a) x (od a) = ts a x := (hSR.2.2.2.1 x (by omega)).symm
              rw [e9]
              exact fin _
            | succ e2 ih2 =>
              intro z hz
              have q1 := fo_lt (cf a) (ts a) x z
              have q2 : g1 (24 * a + z) = cf a z := h3'' a ha z (by omega)
              have q3 : ex_ (ts a) g at' x (at' + x - (z + 1)) = ts a (x - 1 - z) := by
                rw [show at' + x - (z + 1) = at' + (x - 1 - z) by omega]
                exact ex_in (by omega)
              have q4 := mul_lt (hSR.2.2.1 z) (hSR.2.1 (x - 1 - z))
              refine z_ild8 (q := 47) d_mo_expand_45 rfl ?_
              refine z_ild4 (q := 49) d_mo_expand_47 rfl ?_
              refine zn_icmp_gt (q := 52) (tgt := 101) d_mo_expand_49 rfl (by decide) (by omega) (by omega) (fun hb => absurd hb (by omega)) (fun _ => ?_)
              refine z_ild5 (q := 54) d_mo_expand_52 rfl ?_
              refine z_ild4 (q := 56) d_mo_expand_54 rfl ?_
              refine zn_icmp_lt (q := 59) (tgt := 101) d_mo_expand_56 rfl (by decide) (by omega) (by omega) (fun hb => absurd hb hxo) (fun _ => ?_)
              refine z_lld6 (q := 61) d_mo_expand_59 rfl ?_
              refine z_ald0 (q := 62) d_mo_expand_61 rfl ?_
              refine z_get 4 (q := 65) d_mo_expand_62 rfl fg_mo_17 (by first | assumption | omega) (by first | assumption | omega) (by rfl) ?_
              refine z_bipush (v := nI 24) (q := 67) d_mo_expand_65 rfl (by decide) ?_
              refine z_ild2 (q := 68) d_mo_expand_67 rfl ?_
              first | refine zn_imul (q := 69) d_mo_expand_68 rfl ?_ | refine z_imul (q := 69) d_mo_expand_68 rfl ?_
              refine z_ild8 (q := 71) d_mo_expand_69 rfl ?_
              first | refine zn_iadd (q := 72) d_mo_expand_71 rfl ?_ | refine z_iadd (q := 72) d_mo_expand_71 rfl ?_
              refine z_iconst (v := nI 1) (q := 73) d_mo_expand_72 rfl (by decide) ?_
              first | refine zn_isub (q := 74) d_mo_expand_73 rfl (by omega) ?_ | refine z_isub (q := 74) d_mo_expand_73 rfl ?_
              refine z_laload (q := 75) d_mo_expand_74 rfl w1 (by omega) (by omega) (by omega) ?_
              rw [show 24 * a + (z + 1) - 1 = 24 * a + z by omega, q2]
              refine z_ald0 (q := 76) d_mo_expand_75 rfl ?_
              refine z_get 6 (q := 79) d_mo_expand_76 rfl fg_mo_23 (by first | assumption | omega) (by first | assumption | omega) (by rfl) ?_
              refine z_ild1 (q := 80) d_mo_expand_79 rfl ?_
              refine z_ild5 (q := 82) d_mo_expand_80 rfl ?_
              first | refine zn_iadd (q := 83) d_mo_expand_82 rfl ?_ | refine z_iadd (q := 83) d_mo_expand_82 rfl ?_
              refine z_ild8 (q := 85) d_mo_expand_83 rfl ?_
              first | refine zn_isub (q := 86) d_mo_expand_85 rfl (by omega) ?_ | refine z_isub (q := 86) d_mo_expand_85 rfl ?_
              refine z_laload (q := 87) d_mo_expand_86 rfl w3 (by omega) (by omega) (by omega) ?_
              rw [q3]
              first | refine zn_lmul (q := 88) d_mo_expand_87 rfl ?_ | refine z_lmul (q := 88) d_mo_expand_87 rfl ?_
              first | refine zn_ladd (q := 89) d_mo_expand_88 rfl ?_ | refine z_ladd (q := 89) d_mo_expand_88 rfl ?_
              refine z_ldc2 (q := 92) d_mo_expand_89 rfl cl_mo_44 ?_
              refine zn_lrem (q := 93) d_mo_expand_92 rfl (by omega) (by omega) (by omega) ?_
              refine z_lst6 (q := 95) d_mo_expand_93 rfl rfl ?_
              refine zn_iinc8 (d := 1) (q := 98) d_mo_expand_95 rfl rfl ?_
              refine z_goto (tgt := 45) d_mo_expand_98 (by decide) ?_
              exact ih2 (z + 1) (by omega)
          have h9 := inner (od a) 0 (by omega)
          exact h9
      refine z_ild5 (q := 13) d_mo_expand_11 rfl ?_
      refine z_ild3 (q := 14) d_mo_expand_13 rfl ?_
      refine zn_icmp_ge (q := 17) (tgt := 118) d_mo_expand_14 rfl (by decide) (by omega) (by omega) (fun hb => ?_) (fun hb => ?_)
      · exact absurd hb (by omega)
      · refine z_ild5 (q := 19) d_mo_expand_17 rfl ?_
        refine z_ild4 (q := 21) d_mo_expand_19 rfl ?_
        refine zn_icmp_ge (q := 24) (tgt := 39) d_mo_expand_21 rfl (by decide) (by omega) (by omega) (fun hb2 => ?_) (fun hb2 => ?_)
        · refine z_lconst (v := lN 0) (q := 40) d_mo_expand_39 rfl rfl ?_
          exact mid 0 (by omega) (fun h => by omega) (fun _ => rfl)
        · refine z_ald0 (q := 25) d_mo_expand_24 rfl ?_
          refine z_get 5 (q := 28) d_mo_expand_25 rfl fg_mo_20 (by first | assumption | omega) (by first | assumption | omega) (by rfl) ?_
          refine z_bipush (v := nI 24) (q := 30) d_mo_expand_28 rfl (by decide) ?_
          refine z_ild2 (q := 31) d_mo_expand_30 rfl ?_
          first | refine zn_imul (q := 32) d_mo_expand_31 rfl ?_ | refine z_imul (q := 32) d_mo_expand_31 rfl ?_
          refine z_ild5 (q := 34) d_mo_expand_32 rfl ?_
          first | refine zn_iadd (q := 35) d_mo_expand_34 rfl ?_ | refine z_iadd (q := 35) d_mo_expand_34 rfl ?_
          refine z_laload (q := 36) d_mo_expand_35 rfl (by first | assumption | omega) (by first | assumption | omega) (by omega) (by omega) ?_
          rw [h4'' a ha x (by omega)]
          refine z_goto (tgt := 40) d_mo_expand_36 (by decide) ?_
          exact mid _ (hSR.2.1 x) (fun _ => rfl) (fun h => by omega)
  exact (Z.eqw (by rw [ex_0]; exact zu_id ht) (loop m 0 none none none (by omega)))

