/-! Cells that change; RecurrentSeries.Numbers.of, Series.writeTerms, Finder -/
theorem zu_same {α : Type} {f : Nat → α} {k : Nat} {v : α} : va_up f k v k = v := by simp [va_up]
theorem zu_ne {α : Type} {f : Nat → α} {k j : Nat} {v : α} (h : j ≠ k) : va_up f k v j = f j := by simp [va_up, h]
theorem zu_up {α : Type} {f : Nat → α} {k : Nat} {v w : α} : va_up (va_up f k v) k w = va_up f k w := by
  funext j
  by_cases h : j = k <;> simp [va_up, h]
theorem zu_comm {α : Type} {f : Nat → α} {k l : Nat} {v w : α} (h : k ≠ l) : va_up (va_up f k v) l w = va_up (va_up f l w) k v := by
  funext j
  by_cases h1 : j = k
  · subst h1; simp [va_up, h]
  · by_cases h2 : j = l <;> simp [va_up, h1, h2, Ne.symm h]
theorem zu_id {α : Type} {f : Nat → α} {k : Nat} {v : α} (h : f k = v) : f = va_up f k v := by
  funext j
  by_cases h1 : j = k
  · subst h1; simp [va_up, h]
  · simp [va_up, h1]
def fl_ (s g : Nat → Nat) (x : Nat) : Nat → Nat := fun j => if j < x then s j else g j
theorem fl_0 (s g : Nat → Nat) : fl_ s g 0 = g := by funext j; simp [fl_]
theorem fl_s (s g : Nat → Nat) (x : Nat) : va_up (fl_ s g x) x (s x) = fl_ s g (x + 1) := by
  funext j
  by_cases h : j = x
  · subst h; simp [va_up, fl_]
  · by_cases h2 : j < x
    · simp [va_up, fl_, h, h2, show j < x + 1 by omega]
    · simp [va_up, fl_, h, h2, show ¬ j < x + 1 by omega]
theorem fl_hi {s g : Nat → Nat} {x j : Nat} (h : x ≤ j) : fl_ s g x j = g j := by simp [fl_, show ¬ j < x by omega]
theorem fl_lo {s g : Nat → Nat} {x j : Nat} (h : j < x) : fl_ s g x j = s j := by simp [fl_, h]
theorem fl_lt {s g : Nat → Nat} {x B : Nat} (hs : ∀ j, s j < B) (hg : ∀ j, g j < B) : ∀ j, fl_ s g x j < B := by
  intro j
  unfold fl_
  split
  · exact hs j
  · exact hg j
/-- a number given: its rest -/
def nu_ (v : Int32) : Nat := (v.toInt % 2147483647).toNat
theorem nu_lt (v : Int32) : nu_ v < 2147483647 := by
  unfold nu_
  have h1 := Int.emod_nonneg v.toInt (show (2147483647 : Int) ≠ 0 by decide)
  have h2 := Int.emod_lt_of_pos v.toInt (show (0 : Int) < 2147483647 by decide)
  omega
theorem zr_rem (v : Int32) : (v.toInt64 - v.toInt64 / lN 2147483647 * lN 2147483647).toInt = v.toInt.tmod 2147483647 := by
  have hv1 := v.le_toInt
  have hv2 := v.toInt_lt
  have e1 : v.toInt64.toInt = v.toInt := Int32.toInt_toInt64 v
  have e2 : (lN 2147483647).toInt = 2147483647 := pk_lT (by decide)
  have e3 : (v.toInt64 / lN 2147483647).toInt = v.toInt.tdiv 2147483647 := by
    rw [Jvm.Kit.i64_div (by omega), e1, e2]
  have h4 := Int.tmod_def v.toInt 2147483647
  have h5 : -2147483647 < v.toInt.tmod 2147483647 ∧ v.toInt.tmod 2147483647 < 2147483647 := tmod_bounds (by decide)
  have e4 : (v.toInt64 / lN 2147483647 * lN 2147483647).toInt = v.toInt.tdiv 2147483647 * 2147483647 := by
    rw [Jvm.Kit.i64_mul (by rw [e3, e2]; omega) (by rw [e3, e2]; omega), e3, e2]
  rw [Jvm.Kit.i64_sub (by rw [e1, e4]; omega) (by rw [e1, e4]; omega), e1, e4]
  omega
theorem zr_num {x : Int64} {k : Nat} (hk : k < 2 ^ 63) (h : x.toInt = (k : Int)) : x = lN k := Int64.toInt_inj.mp (by rw [h, pk_lT hk])
theorem nu_pos {v : Int32} (h : 0 ≤ v.toInt.tmod 2147483647) : v.toInt.tmod 2147483647 = (nu_ v : Int) := by
  have h1 := Int.emod_nonneg v.toInt (show (2147483647 : Int) ≠ 0 by decide)
  have h2 := Int.emod_lt_of_pos v.toInt (show (0 : Int) < 2147483647 by decide)
  have h5 : -2147483647 < v.toInt.tmod 2147483647 ∧ v.toInt.tmod 2147483647 < 2147483647 := tmod_bounds (by decide)
  have h3 := Int.tmod_def v.toInt 2147483647
  have h4 := Int.emod_def v.toInt 2147483647
  unfold nu_
  omega
theorem nu_neg {v : Int32} (h : v.toInt.tmod 2147483647 < 0) : v.toInt.tmod 2147483647 + 2147483647 = (nu_ v : Int) := by
  have h1 := Int.emod_nonneg v.toInt (show (2147483647 : Int) ≠ 0 by decide)
  have h2 := Int.emod_lt_of_pos v.toInt (show (0 : Int) < 2147483647 by decide)
  have h5 : -2147483647 < v.toInt.tmod 2147483647 ∧ v.toInt.tmod 2147483647 < 2147483647 := tmod_bounds (by decide)
  have h3 := Int.tmod_def v.toInt 2147483647
  have h4 := Int.emod_def v.toInt 2147483647
  unfold nu_
  omega
theorem ct_of (n : Nat) (σ : zWd) (v : Int32) : Ct m_nu_of [.int v] n σ (zEq (some (.long (lN (nu_ v)))) n σ) := by
  refine Ct.of (lv := [some (.int v), none, none]) 2 (by decide) rfl (Nat.le_of_ble_eq_true rfl) ?_
  have hr := zr_rem v
  have hb5 : -2147483647 < v.toInt.tmod 2147483647 ∧ v.toInt.tmod 2147483647 < 2147483647 := tmod_bounds (by decide)
  refine z_ild0 (q := 1) d_nu_of_0 rfl ?_
  first | refine zn_i2l (q := 2) d_nu_of_1 rfl (by omega) ?_ | refine z_i2l (q := 2) d_nu_of_1 rfl ?_
  refine z_ldc2 (q := 5) d_nu_of_2 rfl cl_nu_9 ?_
  refine z_lrem (q := 6) d_nu_of_5 rfl (z_lne0 (by decide) (by decide)) ?_
  generalize v.toInt64 - v.toInt64 / lN 2147483647 * lN 2147483647 = x at hr ⊢
  refine z_lst1 (q := 7) d_nu_of_6 rfl rfl ?_
  refine z_lld1 (q := 8) d_nu_of_7 rfl ?_
  refine z_lconst (v := lN 0) (q := 9) d_nu_of_8 rfl rfl ?_
  refine z_lcmp (q := 10) d_nu_of_9 rfl ?_
  refine z_if_ge (q := 13) (tgt := 21) d_nu_of_10 rfl (by decide) (fun hb => ?_) (fun hb => ?_)
  · have h0 : 0 ≤ x.toInt := by
      have := (lg_cmp_ge x (lN 0)).mp hb
      rw [Int64.le_iff_toInt_le] at this
      exact this
    have e : x = lN (nu_ v) := zr_num (by have := nu_lt v; omega) (by rw [hr]; exact nu_pos (by omega))
    refine z_lld1 (q := 22) d_nu_of_21 rfl ?_
    exact z_lret d_nu_of_22 rfl (Nat.le_refl _) (Nat.le_refl _) ⟨by rw [e], rfl, rfl⟩
  · have h0 : x.toInt < 0 := by
      refine Int.not_le.mp (fun h => hb ((lg_cmp_ge x (lN 0)).mpr ?_))
      rw [Int64.le_iff_toInt_le]
      exact h
    have e : x + lN 2147483647 = lN (nu_ v) := zr_num (by have := nu_lt v; omega) (by
      have e2 : (lN 2147483647).toInt = 2147483647 := pk_lT (by decide)
      rw [Jvm.Kit.i64_add (by rw [e2]; omega) (by rw [e2]; omega), e2, hr]
      exact nu_neg (by omega))
    refine z_lld1 (q := 14) d_nu_of_13 rfl ?_
    refine z_ldc2 (q := 17) d_nu_of_14 rfl cl_nu_9 ?_
    first | refine zn_ladd (q := 18) d_nu_of_17 rfl ?_ | refine z_ladd (q := 18) d_nu_of_17 rfl ?_
    refine z_goto (tgt := 22) d_nu_of_18 (by decide) ?_
    exact z_lret d_nu_of_22 rfl (Nat.le_refl _) (Nat.le_refl _) ⟨by rw [e], rfl, rfl⟩
/-- the terms of a series, written out -/
theorem ct_writeTerms {n : Nat} {σ : zWd} {i ci ti v o N len : Nat} {c f g s : Nat → Nat} (hi : σ i = zO 1 [.int (nI o), .ref ci, .ref ti]) (hc : σ ci = zN 48 c) (hv : σ v = zN N g) (hin : i < n) (hcn : ci < n) (htn : ti < n) (hvn : v < n) (hvi : i ≠ v) (hvc : ci ≠ v) (hN : N < 10000) (hlen : len ≤ N) (ho : o ≤ 48)
    (hread : ∀ x, x < o → x < len → va_up σ v (zN N (fl_ s g x)) ti = zN 88 (if ti = v then fl_ s g x else f) ∧ f x = s x ∧ (ti = v → g x = s x)) (hcP : ∀ x, c x < 2147483647) (hsP : ∀ x, s x < 2147483647) (hgP : ∀ x, g x < 2147483647) (hs : ∀ x, o ≤ x → s x = fo_ c s x o) :
    Ct m_se_writeTerms [.ref i, .ref v, .int (nI len)] n σ (zEq none n (va_up σ v (zN N (fl_ s g len)))) := by
  refine Ct.of (lv := [some (.ref i), some (.ref v), some (.int (nI len)), none]) 1 (by decide) rfl (Nat.le_of_ble_eq_true rfl) ?_
  refine z_iconst (v := nI 0) (q := 1) d_se_writeTerms_0 rfl (by decide) ?_
  refine z_ist3 (q := 2) d_se_writeTerms_1 rfl rfl ?_
  refine Z.eqw (σ' := va_up σ v (zN N (fl_ s g 0))) (by rw [fl_0]; exact zu_id hv) ?_
  have loop : ∀ d x, x + d = len → Z m_se_writeTerms (zEq none n (va_up σ v (zN N (fl_ s g len)))) 0 0 n (va_up σ v (zN N (fl_ s g x))) 2 [some (.ref i), some (.ref v), some (.int (nI len)), some (.int (nI x))] [] := by
    intro d
    induction d with
    | zero =>
      intro x hx
      refine z_ild3 (q := 3) d_se_writeTerms_2 rfl ?_
      refine z_ild2 (q := 4) d_se_writeTerms_3 rfl ?_
      refine zn_icmp_ge (q := 7) (tgt := 46) d_se_writeTerms_4 rfl (by decide) (by omega) (by omega) (fun hb => ?_) (fun hb => ?_)
      · obtain rfl : x = len := by omega
        exact z_vret d_se_writeTerms_46 rfl (Nat.le_refl _) (Nat.le_refl _) ⟨rfl, rfl, rfl⟩
      · exact absurd hb (by omega)
    | succ d ih =>
      intro x hx
      have hs0 : va_up σ v (zN N (fl_ s g x)) v = zN N (fl_ s g x) := zu_same
      have hs1 : va_up σ v (zN N (fl_ s g x)) i = zO 1 [.int (nI o), .ref ci, .ref ti] := by rw [zu_ne hvi]; exact hi
      have hs2 : va_up σ v (zN N (fl_ s g x)) ci = zN 48 c := by rw [zu_ne hvc]; exact hc
      have fin : Z m_se_writeTerms (zEq none n (va_up σ v (zN N (fl_ s g len)))) 0 0 n (va_up σ v (zN N (fl_ s g x))) 39 [some (.ref i), some (.ref v), some (.int (nI len)), some (.int (nI x))] [.long (lN (s x)), .int (nI x), .ref v] := by
        refine z_lastore (q := 40) d_se_writeTerms_39 rfl (by first | assumption | omega) (by first | assumption | omega) (by omega) (by omega) ?_
        refine zn_iinc3 (d := 1) (q := 43) d_se_writeTerms_40 rfl rfl ?_
        refine z_goto (tgt := 2) d_se_writeTerms_43 (by decide) ?_
        refine Z.eqw ?_ (ih (x + 1) (by omega))
        rw [zu_up, fl_s]
      refine z_ild3 (q := 3) d_se_writeTerms_2 rfl ?_
      refine z_ild2 (q := 4) d_se_writeTerms_3 rfl ?_
      refine zn_icmp_ge (q := 7) (tgt := 46) d_se_writeTerms_4 rfl (by decide) (by omega) (by omega) (fun hb => ?_) (fun hb => ?_)
      · exact absurd hb (by omega)
      · refine z_ald1 (q := 8) d_se_writeTerms_7 rfl ?_
        refine z_ild3 (q := 9) d_se_writeTerms_8 rfl ?_
        refine z_ild3 (q := 10) d_se_writeTerms_9 rfl ?_
        refine z_ald0 (q := 11) d_se_writeTerms_10 rfl ?_
        refine z_get 0 (q := 14) d_se_writeTerms_11 rfl fg_se_18 (by first | assumption | omega) (by first | assumption | omega) (by rfl) ?_
        refine zn_icmp_ge (q := 17) (tgt := 26) d_se_writeTerms_14 rfl (by decide) (by omega) (by omega) (fun hb => ?_) (fun hb => ?_)
        · refine z_ald0 (q := 27) d_se_writeTerms_26 rfl ?_
          refine z_get 1 (q := 30) d_se_writeTerms_27 rfl fg_se_9 (by first | assumption | omega) (by first | assumption | omega) (by rfl) ?_
          refine z_ald0 (q := 31) d_se_writeTerms_30 rfl ?_
          refine z_get 0 (q := 34) d_se_writeTerms_31 rfl fg_se_18 (by first | assumption | omega) (by first | assumption | omega) (by rfl) ?_
          refine z_ald1 (q := 35) d_se_writeTerms_34 rfl ?_
          refine z_ild3 (q := 36) d_se_writeTerms_35 rfl ?_
          refine z_cS4 (q := 39) d_se_writeTerms_36 rfl (ct_foretold hs2 hs0 (by omega) (by omega) (by omega) (by omega) (by omega) (by omega) (by omega) hcP (fl_lt hsP hgP)) ck_nu_foretold lk_se_22 st_nu_foretold ⟨by decide, by decide⟩ (Nat.le_of_ble_eq_true rfl) rfl rfl ?_
          have e : fo_ c (fl_ s g x) x o = s x := by
            rw [hs x (by omega)]
            exact fo_congr (fun _ _ => rfl) (fun y hy => fl_lo (by omega))
          rw [e]
          exact fin
        · obtain ⟨hs3, e1, e2⟩ := hread x (by omega) (by omega)
          refine z_ald0 (q := 18) d_se_writeTerms_17 rfl ?_
          refine z_get 2 (q := 21) d_se_writeTerms_18 rfl fg_se_15 (by first | assumption | omega) (by first | assumption | omega) (by rfl) ?_
          refine z_ild3 (q := 22) d_se_writeTerms_21 rfl ?_
          refine z_laload (q := 23) d_se_writeTerms_22 rfl (by first | assumption | omega) (by first | assumption | omega) (by omega) (by omega) ?_
          refine z_goto (tgt := 39) d_se_writeTerms_23 (by decide) ?_
          have e : (if ti = v then fl_ s g x else f) x = s x := by
            by_cases h : ti = v
            · rw [if_pos h, fl_hi (Nat.le_refl x)]; exact e2 h
            · rw [if_neg h]; exact e1
          rw [e]
          exact fin
  exact loop len 0 (by omega)
theorem ct_erase {n : Nat} {σ : zWd} {v : Nat} {g : Nat → Nat} (hv : σ v = zN 48 g) (hvn : v < n) : Ct m_fi_erase [.ref v] n σ (zEq none n (va_up σ v (zN 48 (fl_ (fun _ => 0) g 48)))) := by
  refine Ct.of (lv := [some (.ref v), none]) 1 (by decide) rfl (Nat.le_of_ble_eq_true rfl) ?_
  refine z_iconst (v := nI 0) (q := 1) d_fi_erase_0 rfl (by decide) ?_
  refine z_ist1 (q := 2) d_fi_erase_1 rfl rfl ?_
  refine Z.eqw (σ' := va_up σ v (zN 48 (fl_ (fun _ => 0) g 0))) (by rw [fl_0]; exact zu_id hv) ?_
  have loop : ∀ d x, x + d = 48 → Z m_fi_erase (zEq none n (va_up σ v (zN 48 (fl_ (fun _ => 0) g 48)))) 0 0 n (va_up σ v (zN 48 (fl_ (fun _ => 0) g x))) 2 [some (.ref v), some (.int (nI x))] [] := by
    intro d
    induction d with
    | zero =>
      intro x hx
      refine z_ild1 (q := 3) d_fi_erase_2 rfl ?_
      refine z_bipush (v := nI 48) (q := 5) d_fi_erase_3 rfl (by decide) ?_
      refine zn_icmp_ge (q := 8) (tgt := 18) d_fi_erase_5 rfl (by decide) (by omega) (by omega) (fun hb => ?_) (fun hb => ?_)
      · obtain rfl : x = 48 := by omega
        exact z_vret d_fi_erase_18 rfl (Nat.le_refl _) (Nat.le_refl _) ⟨rfl, rfl, rfl⟩
      · exact absurd hb (by omega)
    | succ d ih =>
      intro x hx
      have hs0 : va_up σ v (zN 48 (fl_ (fun _ => 0) g x)) v = zN 48 (fl_ (fun _ => 0) g x) := zu_same
      refine z_ild1 (q := 3) d_fi_erase_2 rfl ?_
      refine z_bipush (v := nI 48) (q := 5) d_fi_erase_3 rfl (by decide) ?_
      refine zn_icmp_ge (q := 8) (tgt := 18) d_fi_erase_5 rfl (by decide) (by omega) (by omega) (fun hb => ?_) (fun hb => ?_)
      · exact absurd hb (by omega)
      · refine z_ald0 (q := 9) d_fi_erase_8 rfl ?_
        refine z_ild1 (q := 10) d_fi_erase_9 rfl ?_
        refine z_lconst (v := lN 0) (q := 11) d_fi_erase_10 rfl rfl ?_
        refine z_lastore (q := 12) d_fi_erase_11 rfl (by first | assumption | omega) (by first | assumption | omega) (by omega) (by omega) ?_
        refine zn_iinc1 (d := 1) (q := 15) d_fi_erase_12 rfl rfl ?_
        refine z_goto (tgt := 2) d_fi_erase_15 (by decide) ?_
        refine Z.eqw ?_ (ih (x + 1) (by omega))
        rw [zu_up, ← fl_s]
  exact loop 48 0 (by omega)
theorem ct_keepUnmended {n : Nat} {σ : zWd} {p1 p2 p3 : Nat} (h5 : σ 5 = zO 2 [.ref p1, .ref p2, .ref p3]) (hn : 5 < n) : Ct m_fi_keepUnmended [.ref 5] n σ (zEq none n (va_up σ 5 (zO 2 [.ref p1, .ref p3, .ref p2]))) := by
  refine Ct.of (lv := [some (.ref 5), none]) 1 (by decide) rfl (Nat.le_of_ble_eq_true rfl) ?_
  refine z_ald0 (q := 1) d_fi_keepUnmended_0 rfl ?_
  refine z_get 1 (q := 4) d_fi_keepUnmended_1 rfl fg_fi_15 (by first | assumption | omega) (by first | assumption | omega) (by rfl) ?_
  refine z_ast1 (q := 5) d_fi_keepUnmended_4 rfl rfl ?_
  refine z_ald0 (q := 6) d_fi_keepUnmended_5 rfl ?_
  refine z_ald0 (q := 7) d_fi_keepUnmended_6 rfl ?_
  refine z_get 2 (q := 10) d_fi_keepUnmended_7 rfl fg_fi_18 (by first | assumption | omega) (by first | assumption | omega) (by rfl) ?_
  refine z_put 1 (q := 13) d_fi_keepUnmended_10 rfl fg_fi_15 ft_fi fk_fi_15 (by first | assumption | omega) (by first | assumption | omega) (fun _ => rfl) (fun _ => rfl) (by simp) ?_
  have hs1 : va_up σ 5 (zO 2 [.ref p1, .ref p3, .ref p3]) 5 = zO 2 [.ref p1, .ref p3, .ref p3] := zu_same
  refine Z.eqw (σ' := va_up σ 5 (zO 2 [.ref p1, .ref p3, .ref p3])) rfl ?_
  refine z_ald0 (q := 14) d_fi_keepUnmended_13 rfl ?_
  refine z_ald1 (q := 15) d_fi_keepUnmended_14 rfl ?_
  refine z_put 2 (q := 18) d_fi_keepUnmended_15 rfl fg_fi_18 ft_fi fk_fi_18 (by first | assumption | omega) (by first | assumption | omega) (fun _ => rfl) (fun _ => rfl) (by simp) ?_
  refine z_vret d_fi_keepUnmended_18 rfl (Nat.le_refl _) (Nat.le_refl _) ⟨rfl, rfl, ?_⟩
  rw [zu_up]
  rfl

