/-! The class's state: what its cells hold -/
/-- a series of order o: coefficients c, terms s -/
def SR (o : Nat) (c s : Nat → Nat) : Prop := o ≤ 24 ∧ (∀ n, s n < 2147483647) ∧ (∀ i, c i < 2147483647) ∧ (∀ n, o ≤ n → s n = fo_ c s n o) ∧ lo_ (fun n => ph (s n)) o (fun i => ph (c i))
def SC (σ : zWd) (k : Nat) (o : Int32) (c f : Nat → Nat) : Prop := σ (18 + 3 * k) = zO 1 [.int o, .ref (19 + 3 * k), .ref (20 + 3 * k)] ∧ σ (19 + 3 * k) = zN 48 c ∧ σ (20 + 3 * k) = zN 88 f ∧ (∀ j, c j < 2147483647) ∧ (∀ j, f j < 2147483647)
def FI (σ : zWd) : Prop := ∃ (p1 p2 p3 : Nat) (a b c : Nat → Nat), σ 5 = zO 2 [.ref p1, .ref p2, .ref p3] ∧ σ p1 = zN 48 a ∧ σ p2 = zN 48 b ∧ σ p3 = zN 48 c ∧ (6 ≤ p1 ∧ p1 ≤ 8) ∧ (6 ≤ p2 ∧ p2 ≤ 8) ∧ (6 ≤ p3 ∧ p3 ≤ 8) ∧ p1 ≠ p2 ∧ p1 ≠ p3 ∧ p2 ≠ p3 ∧ (∀ j, a j < 2147483647) ∧ (∀ j, b j < 2147483647) ∧ (∀ j, c j < 2147483647)
def SK (σ : zWd) : Prop := ∃ (q1 q2 q3 q4 : Nat) (a1 a2 a3 a4 a5 : Nat → Nat), σ 9 = zO 3 [.ref q1, .ref q2, .ref q3, .ref q4, .ref 14] ∧ σ q1 = zN 49 a1 ∧ σ q2 = zN 49 a2 ∧ σ q3 = zN 49 a3 ∧ σ q4 = zN 49 a4 ∧ σ 14 = zN 49 a5 ∧ (10 ≤ q1 ∧ q1 ≤ 13) ∧ (10 ≤ q2 ∧ q2 ≤ 13) ∧ (10 ≤ q3 ∧ q3 ≤ 13) ∧ (10 ≤ q4 ∧ q4 ≤ 13) ∧ q1 ≠ q2 ∧ q1 ≠ q3 ∧ q1 ≠ q4 ∧ q2 ≠ q3 ∧ q2 ≠ q4 ∧ q3 ≠ q4 ∧ (∀ j, a1 j < 2147483647) ∧ (∀ j, a2 j < 2147483647) ∧ (∀ j, a3 j < 2147483647) ∧ (∀ j, a4 j < 2147483647) ∧ (∀ j, a5 j < 2147483647)
def DV (σ : zWd) : Prop := σ 15 = zO 4 [.ref 16, .ref 17] ∧ ∃ a b : Nat → Nat, σ 16 = zN 49 a ∧ σ 17 = zN 49 b ∧ (∀ j, a j < 2147483647) ∧ (∀ j, b j < 2147483647)
def c0_ (li gi : Nat) : va_E := zO 0 [.ref 1, .ref 2, .ref 3, .ref 4, .ref 5, .ref 9, .ref 15, .int (nI li), .int (nI gi)]
def LI (σ : zWd) : Prop := ∃ f : Nat → Option Nat, σ 1 = zR 20 f ∧ ∀ k, k < 20 → f k = some (18 + 3 * k)
def AR (σ : zWd) (p N : Nat) : Prop := ∃ g : Nat → Nat, σ p = zN N g ∧ ∀ j, g j < 2147483647
def SS (σ : zWd) (k o : Nat) (cf ts : Nat → Nat) : Prop := ∃ c f : Nat → Nat, SC σ k (nI o) c f ∧ (∀ i, i < o → c i = cf i) ∧ ∀ j, j < 88 → f j = ts j
def CS (li gi : Nat) (row od : Nat → Nat) (cf ts : Nat → Nat → Nat) (σ : zWd) : Prop :=
  σ 0 = c0_ li gi ∧ LI σ ∧ (σ 2 = zN 40 row ∧ ∀ j, row j < 2147483647) ∧ AR σ 3 48 ∧ AR σ 4 2129 ∧ FI σ ∧ SK σ ∧ DV σ ∧ (∀ k, k < 20 → ∃ (o : Int32) (c f : Nat → Nat), SC σ k o c f) ∧ (∀ k, k < li → SS σ k (od k) (cf k) (ts k)) ∧ (∀ k, k < li → SR (od k) (cf k) (ts k)) ∧ li ≤ 20 ∧ gi ≤ 40
theorem SC.congr {σ σ' : zWd} {k : Nat} {o : Int32} {c f : Nat → Nat} (h : SC σ k o c f) (e : ∀ j, 18 + 3 * k ≤ j → j ≤ 20 + 3 * k → σ' j = σ j) : SC σ' k o c f := by
  obtain ⟨h1, h2, h3, h4⟩ := h
  exact ⟨by rw [e _ (by omega) (by omega)]; exact h1, by rw [e _ (by omega) (by omega)]; exact h2, by rw [e _ (by omega) (by omega)]; exact h3, h4⟩
theorem SS.congr {σ σ' : zWd} {k o : Nat} {c f : Nat → Nat} (h : SS σ k o c f) (e : ∀ j, 18 + 3 * k ≤ j → j ≤ 20 + 3 * k → σ' j = σ j) : SS σ' k o c f := by
  obtain ⟨c', f', h1, h2⟩ := h
  exact ⟨c', f', h1.congr e, h2⟩
theorem FI.congr {σ σ' : zWd} (h : FI σ) (e : ∀ j, 5 ≤ j → j ≤ 8 → σ' j = σ j) : FI σ' := by
  obtain ⟨p1, p2, p3, a, b, c, h1, h2, h3, h4, h5⟩ := h
  exact ⟨p1, p2, p3, a, b, c, by rw [e _ (by omega) (by omega)]; exact h1, by rw [e _ (by omega) (by omega)]; exact h2, by rw [e _ (by omega) (by omega)]; exact h3, by rw [e _ (by omega) (by omega)]; exact h4, h5⟩
theorem SK.congr {σ σ' : zWd} (h : SK σ) (e : ∀ j, 9 ≤ j → j ≤ 14 → σ' j = σ j) : SK σ' := by
  obtain ⟨q1, q2, q3, q4, a1, a2, a3, a4, a5, h1, h2, h3, h4, h5, h6, h7⟩ := h
  exact ⟨q1, q2, q3, q4, a1, a2, a3, a4, a5, by rw [e _ (by omega) (by omega)]; exact h1, by rw [e _ (by omega) (by omega)]; exact h2, by rw [e _ (by omega) (by omega)]; exact h3, by rw [e _ (by omega) (by omega)]; exact h4, by rw [e _ (by omega) (by omega)]; exact h5, by rw [e _ (by omega) (by omega)]; exact h6, h7⟩
theorem DV.congr {σ σ' : zWd} (h : DV σ) (e : ∀ j, 15 ≤ j → j ≤ 17 → σ' j = σ j) : DV σ' := by
  obtain ⟨h1, a, b, h2, h3, h4⟩ := h
  exact ⟨by rw [e _ (by omega) (by omega)]; exact h1, a, b, by rw [e _ (by omega) (by omega)]; exact h2, by rw [e _ (by omega) (by omega)]; exact h3, h4⟩
theorem LI.congr {σ σ' : zWd} (h : LI σ) (e : σ' 1 = σ 1) : LI σ' := by
  obtain ⟨f, h1, h2⟩ := h
  exact ⟨f, by rw [e]; exact h1, h2⟩
theorem AR.congr {σ σ' : zWd} {p N : Nat} (h : AR σ p N) (e : σ' p = σ p) : AR σ' p N := by
  obtain ⟨g, h1, h2⟩ := h
  exact ⟨g, by rw [e]; exact h1, h2⟩
theorem CS.congr {li gi : Nat} {row od : Nat → Nat} {cf ts : Nat → Nat → Nat} {σ σ' : zWd} (h : CS li gi row od cf ts σ) (e : ∀ j, j < 78 → σ' j = σ j) : CS li gi row od cf ts σ' := by
  obtain ⟨h0, h1, ⟨h2, h2'⟩, h3, h4, h5, h6, h7, h8, h9, h10, h11, h12⟩ := h
  refine ⟨by rw [e 0 (by omega)]; exact h0, h1.congr (e 1 (by omega)), ⟨by rw [e 2 (by omega)]; exact h2, h2'⟩, h3.congr (e 3 (by omega)), h4.congr (e 4 (by omega)), h5.congr (fun j _ _ => e j (by omega)), h6.congr (fun j _ _ => e j (by omega)), h7.congr (fun j _ _ => e j (by omega)), fun k hk => ?_, fun k hk => (h9 k hk).congr (fun j _ _ => e j (by omega)), h10, h11, h12⟩
  obtain ⟨o, c, f, hs⟩ := h8 k hk
  exact ⟨o, c, f, hs.congr (fun j _ _ => e j (by omega))⟩
/-- made changes -/
theorem CS.made {li gi : Nat} {row od : Nat → Nat} {cf ts : Nat → Nat → Nat} {σ : zWd} {g : Nat → Nat} (h : CS li gi row od cf ts σ) (hg : ∀ j, g j < 2147483647) : CS li gi row od cf ts (va_up σ 3 (zN 48 g)) := by
  obtain ⟨h0, h1, ⟨h2, h2'⟩, h3, h4, h5, h6, h7, h8, h9, h10, h11, h12⟩ := h
  have e : ∀ j, j ≠ 3 → va_up σ 3 (zN 48 g) j = σ j := fun j hj => zu_ne hj
  refine ⟨by rw [e 0 (by omega)]; exact h0, h1.congr (e 1 (by omega)), ⟨by rw [e 2 (by omega)]; exact h2, h2'⟩, ⟨g, zu_same, hg⟩, h4.congr (e 4 (by omega)), h5.congr (fun j _ _ => e j (by omega)), h6.congr (fun j _ _ => e j (by omega)), h7.congr (fun j _ _ => e j (by omega)), fun k hk => ?_, fun k hk => (h9 k hk).congr (fun j _ _ => e j (by omega)), h10, h11, h12⟩
  obtain ⟨o, c, f, hs⟩ := h8 k hk
  exact ⟨o, c, f, hs.congr (fun j _ _ => e j (by omega))⟩
theorem CS.walk {li gi : Nat} {row od : Nat → Nat} {cf ts : Nat → Nat → Nat} {σ : zWd} {g : Nat → Nat} (h : CS li gi row od cf ts σ) (hg : ∀ j, g j < 2147483647) : CS li gi row od cf ts (va_up σ 4 (zN 2129 g)) := by
  obtain ⟨h0, h1, ⟨h2, h2'⟩, h3, h4, h5, h6, h7, h8, h9, h10, h11, h12⟩ := h
  have e : ∀ j, j ≠ 4 → va_up σ 4 (zN 2129 g) j = σ j := fun j hj => zu_ne hj
  refine ⟨by rw [e 0 (by omega)]; exact h0, h1.congr (e 1 (by omega)), ⟨by rw [e 2 (by omega)]; exact h2, h2'⟩, h3.congr (e 3 (by omega)), ⟨g, zu_same, hg⟩, h5.congr (fun j _ _ => e j (by omega)), h6.congr (fun j _ _ => e j (by omega)), h7.congr (fun j _ _ => e j (by omega)), fun k hk => ?_, fun k hk => (h9 k hk).congr (fun j _ _ => e j (by omega)), h10, h11, h12⟩
  obtain ⟨o, c, f, hs⟩ := h8 k hk
  exact ⟨o, c, f, hs.congr (fun j _ _ => e j (by omega))⟩
/-- the row and the counters change -/
theorem CS.row {li gi : Nat} {row od : Nat → Nat} {cf ts : Nat → Nat → Nat} {σ : zWd} {li' gi' : Nat} {row' : Nat → Nat} (h : CS li gi row od cf ts σ) (hg : ∀ j, row' j < 2147483647) (hl : li' ≤ li) (hg' : gi' ≤ 40) : CS li' gi' row' od cf ts (va_up (va_up σ 2 (zN 40 row')) 0 (c0_ li' gi')) := by
  obtain ⟨h0, h1, ⟨h2, h2'⟩, h3, h4, h5, h6, h7, h8, h9, h10, h11, h12⟩ := h
  have e : ∀ j, j ≠ 0 → j ≠ 2 → va_up (va_up σ 2 (zN 40 row')) 0 (c0_ li' gi') j = σ j := fun j hj hj2 => by rw [zu_ne hj, zu_ne hj2]
  refine ⟨zu_same, h1.congr (e 1 (by omega) (by omega)), ⟨by rw [zu_ne (by omega)]; exact zu_same, hg⟩, h3.congr (e 3 (by omega) (by omega)), h4.congr (e 4 (by omega) (by omega)), h5.congr (fun j _ _ => e j (by omega) (by omega)), h6.congr (fun j _ _ => e j (by omega) (by omega)), h7.congr (fun j _ _ => e j (by omega) (by omega)), fun k hk => ?_, fun k hk => (h9 k (by omega)).congr (fun j _ _ => e j (by omega) (by omega)), fun k hk => h10 k (by omega), by omega, hg'⟩
  obtain ⟨o, c, f, hs⟩ := h8 k hk
  exact ⟨o, c, f, hs.congr (fun j _ _ => e j (by omega) (by omega))⟩
theorem lo_congr {K : Type} [Lean.Grind.CommRing K] {s : Nat → K} {R : Nat} {c c' : Nat → K} (h : lo_ s R c) (e : ∀ i, i < R → c i = c' i) : lo_ s R c' := by
  refine ⟨fun n => ?_, h.2⟩
  rw [h.1 n]
  exact sm_congr (fun i hi => by rw [e i hi])
/-- in the list -/
def isL (li : Nat) (k : Int32) : Prop := ∃ a, a < li ∧ k = nI a
theorem isL_no {li : Nat} (hli : li ≤ 20) {k : Int32} (h : ¬ isL li k) : k < 0 ∨ nI li ≤ k := by
  rcases pk_ix k (n := li) (by omega) with h1 | h1 | ⟨j, h1, h2⟩
  · exact Or.inl h1
  · exact Or.inr h1
  · exact absurd ⟨j, h1, h2⟩ h
theorem ct_isListed_yes {n : Nat} {σ : zWd} {li gi a : Nat} (h0 : σ 0 = c0_ li gi) (hn : 0 < n) (hli : li ≤ 20) (ha : a < li) : Ct m_rs_isListed [.ref 0, .int (nI a)] n σ (zEq (some (.int (nI 1))) n σ) := by
  have h0 : σ 0 = zO 0 [.ref 1, .ref 2, .ref 3, .ref 4, .ref 5, .ref 9, .ref 15, .int (nI li), .int (nI gi)] := h0
  refine Ct.of (lv := [some (.ref 0), some (.int (nI a))]) 0 (by decide) rfl (Nat.le_of_ble_eq_true rfl) ?_
  refine z_ild1 (q := 1) d_rs_isListed_0 rfl ?_
  refine zi_if_lt (q := 4) (tgt := 16) d_rs_isListed_1 rfl (by decide) (by omega) ?_
  refine z_ild1 (q := 5) d_rs_isListed_4 rfl ?_
  refine z_ald0 (q := 6) d_rs_isListed_5 rfl ?_
  refine z_get 7 (q := 9) d_rs_isListed_6 rfl fg_rs_47 (by first | assumption | omega) (by first | assumption | omega) (by rfl) ?_
  refine zn_icmp_ge (q := 12) (tgt := 16) d_rs_isListed_9 rfl (by decide) (by omega) (by omega) (fun hb => ?_) (fun hb => ?_)
  · exact absurd hb (by omega)
  · refine z_iconst (v := nI 1) (q := 13) d_rs_isListed_12 rfl (by decide) ?_
    refine z_goto (tgt := 17) d_rs_isListed_13 (by decide) ?_
    exact z_zret d_rs_isListed_17 rfl rfl (Nat.le_refl _) (Nat.le_refl _) ⟨rfl, rfl, rfl⟩
theorem ct_isListed_no {n : Nat} {σ : zWd} {li gi : Nat} {k : Int32} (h0 : σ 0 = c0_ li gi) (hn : 0 < n) (hli : li ≤ 20) (hk : ¬ isL li k) : Ct m_rs_isListed [.ref 0, .int k] n σ (zEq (some (.int (nI 0))) n σ) := by
  have h0 : σ 0 = zO 0 [.ref 1, .ref 2, .ref 3, .ref 4, .ref 5, .ref 9, .ref 15, .int (nI li), .int (nI gi)] := h0
  have hk := isL_no hli hk
  refine Ct.of (lv := [some (.ref 0), some (.int k)]) 0 (by decide) rfl (Nat.le_of_ble_eq_true rfl) ?_
  have fin : Z m_rs_isListed (zEq (some (.int (nI 0))) n σ) 0 0 n σ 16 [some (.ref 0), some (.int k)] [] := by
    refine z_iconst (v := nI 0) (q := 17) d_rs_isListed_16 rfl (by decide) ?_
    exact z_zret d_rs_isListed_17 rfl rfl (Nat.le_refl _) (Nat.le_refl _) ⟨rfl, rfl, rfl⟩
  refine z_ild1 (q := 1) d_rs_isListed_0 rfl ?_
  refine z_if_lt (q := 4) (tgt := 16) d_rs_isListed_1 rfl (by decide) (fun hb => ?_) (fun hb => ?_)
  · exact fin
  · refine z_ild1 (q := 5) d_rs_isListed_4 rfl ?_
    refine z_ald0 (q := 6) d_rs_isListed_5 rfl ?_
    refine z_get 7 (q := 9) d_rs_isListed_6 rfl fg_rs_47 (by first | assumption | omega) (by first | assumption | omega) (by rfl) ?_
    refine z_icmp_ge (q := 12) (tgt := 16) d_rs_isListed_9 rfl (by decide) (fun hb => ?_) (fun hb => ?_)
    · exact fin
    · rcases hk with h | h
      · exact absurd h (by assumption)
      · exact absurd h hb
def nf_ (li B : Nat) : Int32 := if 20 ≤ li then -2 else if 24 < B then -3 else nI li
theorem ct_numberFor {n : Nat} {σ : zWd} {li gi B : Nat} (h0 : σ 0 = c0_ li gi) (hn : 0 < n) (hli : li ≤ 20) (hB : B < 100000) : Ct m_rs_numberFor [.ref 0, .int (nI B)] n σ (zEq (some (.int (nf_ li B))) n σ) := by
  have h0 : σ 0 = zO 0 [.ref 1, .ref 2, .ref 3, .ref 4, .ref 5, .ref 9, .ref 15, .int (nI li), .int (nI gi)] := h0
  refine Ct.of (lv := [some (.ref 0), some (.int (nI B))]) 0 (by decide) rfl (Nat.le_of_ble_eq_true rfl) ?_
  refine z_ald0 (q := 1) d_rs_numberFor_0 rfl ?_
  refine z_get 7 (q := 4) d_rs_numberFor_1 rfl fg_rs_47 (by first | assumption | omega) (by first | assumption | omega) (by rfl) ?_
  refine z_bipush (v := nI 20) (q := 6) d_rs_numberFor_4 rfl (by decide) ?_
  refine zn_icmp_lt (q := 9) (tgt := 12) d_rs_numberFor_6 rfl (by decide) (by omega) (by omega) (fun hb => ?_) (fun hb => ?_)
  · refine z_ild1 (q := 13) d_rs_numberFor_12 rfl ?_
    refine z_bipush (v := nI 24) (q := 15) d_rs_numberFor_13 rfl (by decide) ?_
    refine zn_icmp_le (q := 18) (tgt := 23) d_rs_numberFor_15 rfl (by decide) (by omega) (by omega) (fun hb2 => ?_) (fun hb2 => ?_)
    · refine z_ald0 (q := 24) d_rs_numberFor_23 rfl ?_
      refine z_get 7 (q := 27) d_rs_numberFor_24 rfl fg_rs_47 (by first | assumption | omega) (by first | assumption | omega) (by rfl) ?_
      exact z_iret d_rs_numberFor_27 rfl (Nat.le_refl _) (Nat.le_refl _) ⟨by unfold nf_; rw [if_neg (by omega), if_neg (by omega)], rfl, rfl⟩
    · refine z_bipush (v := (-3)) (q := 20) d_rs_numberFor_18 rfl (by decide) ?_
      refine z_goto (tgt := 27) d_rs_numberFor_20 (by decide) ?_
      exact z_iret d_rs_numberFor_27 rfl (Nat.le_refl _) (Nat.le_refl _) ⟨by unfold nf_; rw [if_neg (by omega), if_pos (by omega)], rfl, rfl⟩
  · refine z_bipush (v := (-2)) (q := 11) d_rs_numberFor_9 rfl (by decide) ?_
    exact z_iret d_rs_numberFor_11 rfl (Nat.le_refl _) (Nat.le_refl _) ⟨by unfold nf_; rw [if_pos (by omega)], rfl, rfl⟩

