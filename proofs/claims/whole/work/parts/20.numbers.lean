/-! RecurrentSeries.Numbers -/
theorem ct_plus (n : Nat) (σ : zWd) {a b : Nat} (ha : a < 2147483647) (hb : b < 2147483647) : Ct m_nu_plus [.long (lN a), .long (lN b)] n σ (zEq (some (.long (lN ((a + b) % 2147483647)))) n σ) := by
  refine Ct.of (lv := [some (.long (lN a)), none, some (.long (lN b)), none]) 0 (by decide) rfl (Nat.le_of_ble_eq_true rfl) ?_
  refine z_lld0 (q := 1) d_nu_plus_0 rfl ?_
  refine z_lld2 (q := 2) d_nu_plus_1 rfl ?_
  first | refine zn_ladd (q := 3) d_nu_plus_2 rfl ?_ | refine z_ladd (q := 3) d_nu_plus_2 rfl ?_
  refine z_ldc2 (q := 6) d_nu_plus_3 rfl cl_nu_9 ?_
  refine zn_lrem (q := 7) d_nu_plus_6 rfl (by omega) (by omega) (by omega) ?_
  exact z_lret d_nu_plus_7 rfl (Nat.le_refl _) (Nat.le_refl _) ⟨rfl, rfl, rfl⟩
theorem ct_minus (n : Nat) (σ : zWd) {a b : Nat} (ha : a < 2147483647) (hb : b < 2147483647) : Ct m_nu_minus [.long (lN a), .long (lN b)] n σ (zEq (some (.long (lN ((a + 2147483647 - b) % 2147483647)))) n σ) := by
  refine Ct.of (lv := [some (.long (lN a)), none, some (.long (lN b)), none]) 0 (by decide) rfl (Nat.le_of_ble_eq_true rfl) ?_
  refine z_lld0 (q := 1) d_nu_minus_0 rfl ?_
  refine z_ldc2 (q := 4) d_nu_minus_1 rfl cl_nu_9 ?_
  first | refine zn_ladd (q := 5) d_nu_minus_4 rfl ?_ | refine z_ladd (q := 5) d_nu_minus_4 rfl ?_
  refine z_lld2 (q := 6) d_nu_minus_5 rfl ?_
  first | refine zn_lsub (q := 7) d_nu_minus_6 rfl (by omega) ?_ | refine z_lsub (q := 7) d_nu_minus_6 rfl ?_
  refine z_ldc2 (q := 10) d_nu_minus_7 rfl cl_nu_9 ?_
  refine zn_lrem (q := 11) d_nu_minus_10 rfl (by omega) (by omega) (by omega) ?_
  exact z_lret d_nu_minus_11 rfl (Nat.le_refl _) (Nat.le_refl _) ⟨rfl, rfl, rfl⟩
theorem mul_lt {a b : Nat} (ha : a < 2147483647) (hb : b < 2147483647) : a * b ≤ 4611686009837453316 := Nat.mul_le_mul (Nat.le_of_lt_succ ha) (Nat.le_of_lt_succ hb)
theorem ct_times (n : Nat) (σ : zWd) {a b : Nat} (ha : a < 2147483647) (hb : b < 2147483647) : Ct m_nu_times [.long (lN a), .long (lN b)] n σ (zEq (some (.long (lN (a * b % 2147483647)))) n σ) := by
  have hm := mul_lt ha hb
  refine Ct.of (lv := [some (.long (lN a)), none, some (.long (lN b)), none]) 0 (by decide) rfl (Nat.le_of_ble_eq_true rfl) ?_
  refine z_lld0 (q := 1) d_nu_times_0 rfl ?_
  refine z_lld2 (q := 2) d_nu_times_1 rfl ?_
  first | refine zn_lmul (q := 3) d_nu_times_2 rfl ?_ | refine z_lmul (q := 3) d_nu_times_2 rfl ?_
  refine z_ldc2 (q := 6) d_nu_times_3 rfl cl_nu_9 ?_
  refine zn_lrem (q := 7) d_nu_times_6 rfl (by omega) (by omega) (by omega) ?_
  exact z_lret d_nu_times_7 rfl (Nat.le_refl _) (Nat.le_refl _) ⟨rfl, rfl, rfl⟩
theorem ct_plusTimes (n : Nat) (σ : zWd) {a b c : Nat} (ha : a < 2147483647) (hb : b < 2147483647) (hc : c < 2147483647) : Ct m_nu_plusTimes [.long (lN a), .long (lN b), .long (lN c)] n σ (zEq (some (.long (lN ((a + b * c) % 2147483647)))) n σ) := by
  have hm := mul_lt hb hc
  refine Ct.of (lv := [some (.long (lN a)), none, some (.long (lN b)), none, some (.long (lN c)), none]) 0 (by decide) rfl (Nat.le_of_ble_eq_true rfl) ?_
  refine z_lld0 (q := 1) d_nu_plusTimes_0 rfl ?_
  refine z_lld2 (q := 2) d_nu_plusTimes_1 rfl ?_
  refine z_lld4 (q := 4) d_nu_plusTimes_2 rfl ?_
  first | refine zn_lmul (q := 5) d_nu_plusTimes_4 rfl ?_ | refine z_lmul (q := 5) d_nu_plusTimes_4 rfl ?_
  first | refine zn_ladd (q := 6) d_nu_plusTimes_5 rfl ?_ | refine z_ladd (q := 6) d_nu_plusTimes_5 rfl ?_
  refine z_ldc2 (q := 9) d_nu_plusTimes_6 rfl cl_nu_9 ?_
  refine zn_lrem (q := 10) d_nu_plusTimes_9 rfl (by omega) (by omega) (by omega) ?_
  exact z_lret d_nu_plusTimes_10 rfl (Nat.le_refl _) (Nat.le_refl _) ⟨rfl, rfl, rfl⟩
theorem ct_foretold {n : Nat} {σ : zWd} {i j Nc Nv r k : Nat} {c v : Nat → Nat} (hc : σ i = zN Nc c) (hv : σ j = zN Nv v) (hi : i < n) (hj : j < n) (hNc : Nc < 10000) (hNv : Nv < 10000) (hr : r ≤ Nc) (hk : k ≤ Nv) (hrk : r ≤ k) (hcP : ∀ x, c x < 2147483647) (hvP : ∀ x, v x < 2147483647) : Ct m_nu_foretold [.ref i, .int (nI r), .ref j, .int (nI k)] n σ (zEq (some (.long (lN (fo_ c v k r)))) n σ) := by
  refine Ct.of (lv := [some (.ref i), some (.int (nI r)), some (.ref j), some (.int (nI k)), none, none, none]) 3 (by decide) rfl (Nat.le_of_ble_eq_true rfl) ?_
  refine z_lconst (v := lN 0) (q := 1) d_nu_foretold_0 rfl rfl ?_
  refine z_lst4 (q := 3) d_nu_foretold_1 rfl rfl ?_
  refine z_iconst (v := nI 0) (q := 4) d_nu_foretold_3 rfl (by decide) ?_
  refine z_ist6 (q := 6) d_nu_foretold_4 rfl rfl ?_
  have loop : ∀ d x, x + d = r → Z m_nu_foretold (zEq (some (.long (lN (fo_ c v k r)))) n σ) 0 0 n σ 6 [some (.ref i), some (.int (nI r)), some (.ref j), some (.int (nI k)), some (.long (lN (fo_ c v k x))), none, some (.int (nI x))] [] := by
    intro d
    induction d with
    | zero =>
      intro x hx
      refine z_ild6 (q := 8) d_nu_foretold_6 rfl ?_
      refine z_ild1 (q := 9) d_nu_foretold_8 rfl ?_
      refine zn_icmp_ge (q := 12) (tgt := 37) d_nu_foretold_9 rfl (by decide) (by omega) (by omega) (fun hb => ?_) (fun hb => ?_)
      · refine z_lld4 (q := 39) d_nu_foretold_37 rfl ?_
        obtain rfl : x = r := by omega
        exact z_lret d_nu_foretold_39 rfl (Nat.le_refl _) (Nat.le_refl _) ⟨rfl, rfl, rfl⟩
      · exact absurd hb (by omega)
    | succ d ih =>
      intro x hx
      refine z_ild6 (q := 8) d_nu_foretold_6 rfl ?_
      refine z_ild1 (q := 9) d_nu_foretold_8 rfl ?_
      refine zn_icmp_ge (q := 12) (tgt := 37) d_nu_foretold_9 rfl (by decide) (by omega) (by omega) (fun hb => ?_) (fun hb => ?_)
      · exact absurd hb (by omega)
      · refine z_lld4 (q := 14) d_nu_foretold_12 rfl ?_
        refine z_ald0 (q := 15) d_nu_foretold_14 rfl ?_
        refine z_ild6 (q := 17) d_nu_foretold_15 rfl ?_
        refine z_laload (q := 18) d_nu_foretold_17 rfl (by first | assumption | omega) (by first | assumption | omega) (by omega) (by omega) ?_
        refine z_ald2 (q := 19) d_nu_foretold_18 rfl ?_
        refine z_ild3 (q := 20) d_nu_foretold_19 rfl ?_
        refine z_iconst (v := nI 1) (q := 21) d_nu_foretold_20 rfl (by decide) ?_
        first | refine zn_isub (q := 22) d_nu_foretold_21 rfl (by omega) ?_ | refine z_isub (q := 22) d_nu_foretold_21 rfl ?_
        refine z_ild6 (q := 24) d_nu_foretold_22 rfl ?_
        first | refine zn_isub (q := 25) d_nu_foretold_24 rfl (by omega) ?_ | refine z_isub (q := 25) d_nu_foretold_24 rfl ?_
        refine z_laload (q := 26) d_nu_foretold_25 rfl (by first | assumption | omega) (by first | assumption | omega) (by omega) (by omega) ?_
        refine z_cS3 (q := 29) d_nu_foretold_26 rfl (ct_plusTimes n σ (fo_lt c v k x) (hcP x) (hvP (k - 1 - x))) ck_nu_plusTimes lk_nu_17 st_nu_plusTimes ⟨by decide, by decide⟩ (Nat.le_of_ble_eq_true rfl) rfl rfl ?_
        refine z_lst4 (q := 31) d_nu_foretold_29 rfl rfl ?_
        refine zn_iinc6 (d := 1) (q := 34) d_nu_foretold_31 rfl rfl ?_
        refine z_goto (tgt := 6) d_nu_foretold_34 (by decide) ?_
        exact ih (x + 1) (by omega)
  exact loop r 0 (by omega)
/-- an inverse by powers: the bits of l, from the lowest -/
def iv_ : Nat → Nat → Nat → Nat → Nat
  | 0, _, p, _ => p
  | f + 1, l, p, s => if l = 0 then p else iv_ f (l / 2) (if l % 2 = 1 then p * s % 2147483647 else p) (s * s % 2147483647)
def in_ (a : Nat) : Nat := iv_ 31 2147483645 1 a
theorem iv_lt : ∀ f l p s, p < 2147483647 → iv_ f l p s < 2147483647
  | 0, _, p, _, h => h
  | f + 1, l, p, s, h => by
    unfold iv_
    split
    · exact h
    · refine iv_lt f _ _ _ ?_
      split
      · exact Nat.mod_lt _ (by omega)
      · exact h
theorem in_lt (a : Nat) : in_ a < 2147483647 := iv_lt _ _ _ _ (by omega)
theorem iv_ph : ∀ f l p s, l < 2 ^ f → ph (iv_ f l p s) = ph p * pw_ (ph s) l
  | 0, l, p, s, h => by
    have : l = 0 := by simp at h; omega
    subst this
    show ph p = ph p * 1
    grind
  | f + 1, l, p, s, h => by
    unfold iv_
    by_cases h0 : l = 0
    · rw [if_pos h0, h0]
      show ph p = ph p * 1
      grind
    · rw [if_neg h0, iv_ph f _ _ _ (by rw [Nat.pow_succ] at h; omega), ph_mod, ph_mul, pw_sq]
      by_cases h1 : l % 2 = 1
      · rw [if_pos h1, ph_mod, ph_mul]
        have e : pw_ (ph s) l = pw_ (ph s) (2 * (l / 2)) * ph s := by
          have : l = 2 * (l / 2) + 1 := by omega
          rw [this]
          rw [show (2 * (l / 2) + 1) / 2 = l / 2 by omega]
          rfl
        rw [e]
        grind
      · rw [if_neg h1, show 2 * (l / 2) = l by omega]
theorem in_ph {a : Nat} (h : ph a ≠ 0) : ph a * ph (in_ a) = 1 := by
  unfold in_
  rw [iv_ph 31 2147483645 1 a (by decide), ph_1]
  have := pw_inv 2147483645 (by omega) h
  grind
theorem ct_inverse (n : Nat) (σ : zWd) {a : Nat} (ha : a < 2147483647) : Ct m_nu_inverse [.long (lN a)] n σ (zEq (some (.long (lN (in_ a)))) n σ) := by
  refine Ct.of (lv := [some (.long (lN a)), none, none, none, none, none, none, none]) 6 (by decide) rfl (Nat.le_of_ble_eq_true rfl) ?_
  refine z_lconst (v := lN 1) (q := 1) d_nu_inverse_0 rfl rfl ?_
  refine z_lst2 (q := 2) d_nu_inverse_1 rfl rfl ?_
  refine z_lld0 (q := 3) d_nu_inverse_2 rfl ?_
  refine z_lst4 (q := 5) d_nu_inverse_3 rfl rfl ?_
  refine z_ldc2 (q := 8) d_nu_inverse_5 rfl cl_nu_11 ?_
  refine z_lst6 (q := 10) d_nu_inverse_8 rfl rfl ?_
  have loop : ∀ f l p s, l < 2 ^ f → l < 2147483647 → p < 2147483647 → s < 2147483647 → Z m_nu_inverse (zEq (some (.long (lN (iv_ f l p s)))) n σ) 0 0 n σ 10 [some (.long (lN a)), none, some (.long (lN p)), none, some (.long (lN s)), none, some (.long (lN l)), none] [] := by
    intro f
    induction f with
    | zero =>
      intro l p s hl _ hp hs
      have : l = 0 := by simp at hl; omega
      subst this
      refine z_lld6 (q := 12) d_nu_inverse_10 rfl ?_
      refine z_lconst (v := lN 0) (q := 13) d_nu_inverse_12 rfl rfl ?_
      refine z_lcmp (q := 14) d_nu_inverse_13 rfl ?_
      refine zc_if_le (q := 17) (tgt := 51) d_nu_inverse_14 rfl (by decide) (by omega) (by omega) (fun hb => ?_) (fun hb => absurd (Nat.le_refl 0) hb)
      refine z_lld2 (q := 52) d_nu_inverse_51 rfl ?_
      exact z_lret d_nu_inverse_52 rfl (Nat.le_refl _) (Nat.le_refl _) ⟨rfl, rfl, rfl⟩
    | succ f ih =>
      intro l p s hl hl2 hp hs
      refine z_lld6 (q := 12) d_nu_inverse_10 rfl ?_
      refine z_lconst (v := lN 0) (q := 13) d_nu_inverse_12 rfl rfl ?_
      refine z_lcmp (q := 14) d_nu_inverse_13 rfl ?_
      refine zc_if_le (q := 17) (tgt := 51) d_nu_inverse_14 rfl (by decide) (by omega) (by omega) (fun hb => ?_) (fun hb => ?_)
      · have : l = 0 := by omega
        subst this
        refine z_lld2 (q := 52) d_nu_inverse_51 rfl ?_
        exact z_lret d_nu_inverse_52 rfl (Nat.le_refl _) (Nat.le_refl _) ⟨rfl, rfl, rfl⟩
      · have hl0 : l ≠ 0 := by omega
        have tail : ∀ p', p' < 2147483647 → p' = (if l % 2 = 1 then p * s % 2147483647 else p) → Z m_nu_inverse (zEq (some (.long (lN (iv_ (f + 1) l p s)))) n σ) 0 0 n σ 33 [some (.long (lN a)), none, some (.long (lN p')), none, some (.long (lN s)), none, some (.long (lN l)), none] [] := by
          intro p' hp' hpe
          refine z_lld4 (q := 35) d_nu_inverse_33 rfl ?_
          refine z_lld4 (q := 37) d_nu_inverse_35 rfl ?_
          refine z_cS2 (q := 40) d_nu_inverse_37 rfl (ct_times n σ hs hs) ck_nu_times lk_nu_13 st_nu_times ⟨by decide, by decide⟩ (Nat.le_of_ble_eq_true rfl) rfl rfl ?_
          refine z_lst4 (q := 42) d_nu_inverse_40 rfl rfl ?_
          refine z_lld6 (q := 44) d_nu_inverse_42 rfl ?_
          refine z_iconst (v := nI 1) (q := 45) d_nu_inverse_44 rfl (by decide) ?_
          refine zn_lshr (q := 46) d_nu_inverse_45 rfl (by omega) (by omega) ?_
          refine z_lst6 (q := 48) d_nu_inverse_46 rfl rfl ?_
          refine z_goto (tgt := 10) d_nu_inverse_48 (by decide) ?_
          have e : iv_ (f + 1) l p s = iv_ f (l / 2 ^ 1) p' (s * s % 2147483647) := by
            rw [hpe]
            show (if l = 0 then p else _) = _
            rw [if_neg hl0]
          rw [e]
          exact ih (l / 2 ^ 1) p' _ (by rw [Nat.pow_succ] at hl; omega) (by omega) hp' (Nat.mod_lt _ (by omega))
        refine z_lld6 (q := 19) d_nu_inverse_17 rfl ?_
        refine z_lconst (v := lN 1) (q := 20) d_nu_inverse_19 rfl rfl ?_
        refine zn_land1 (q := 21) d_nu_inverse_20 rfl (by omega) ?_
        refine z_lconst (v := lN 1) (q := 22) d_nu_inverse_21 rfl rfl ?_
        refine z_lcmp (q := 23) d_nu_inverse_22 rfl ?_
        refine zc_if_ne (q := 26) (tgt := 33) d_nu_inverse_23 rfl (by decide) (by omega) (by omega) (fun hb => ?_) (fun hb => ?_)
        · exact tail p hp (by rw [if_neg hb])
        · refine z_lld2 (q := 27) d_nu_inverse_26 rfl ?_
          refine z_lld4 (q := 29) d_nu_inverse_27 rfl ?_
          refine z_cS2 (q := 32) d_nu_inverse_29 rfl (ct_times n σ hp hs) ck_nu_times lk_nu_13 st_nu_times ⟨by decide, by decide⟩ (Nat.le_of_ble_eq_true rfl) rfl rfl ?_
          refine z_lst2 (q := 33) d_nu_inverse_32 rfl rfl ?_
          exact tail _ (Nat.mod_lt _ (by omega)) (by rw [if_pos hb])
  exact loop 31 2147483645 1 a (by decide) (by omega) (by omega) ha

