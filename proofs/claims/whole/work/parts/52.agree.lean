/-! Both sides agree -/
theorem CS.keep {li gi : Nat} {row od : Nat → Nat} {cf ts : Nat → Nat → Nat} {σ σ' : zWd} (h : CS li gi row od cf ts σ) (e : ∀ j, j < 78 → σ' j = σ j) : CS li gi row od cf ts σ' := by
  obtain ⟨h0, h1, ⟨h2, h2'⟩, h3, h4, h5, h6, ⟨d1, da, db, d2, d3, d4⟩, h8, h9, h10, h11, h12⟩ := h
  refine ⟨by rw [e 0 (by omega)]; exact h0, h1.congr (e 1 (by omega)), ⟨by rw [e 2 (by omega)]; exact h2, h2'⟩, h3.congr (e 3 (by omega)), h4.congr (e 4 (by omega)), h5.congr (fun j _ _ => e j (by omega)), h6.congr (fun j _ _ => e j (by omega)), ⟨by rw [e 15 (by omega)]; exact d1, da, db, by rw [e 16 (by omega)]; exact d2, by rw [e 17 (by omega)]; exact d3, d4⟩, fun k hk => ?_, fun k hk => (h9 k hk).congr (fun j _ _ => e j (by omega)), h10, h11, h12⟩
  obtain ⟨o, c, f, hs⟩ := h8 k hk
  exact ⟨o, c, f, hs.congr (fun j _ _ => e j (by omega))⟩
theorem MS.keep {li gi : Nat} {row od : Nat → Nat} {cf ts : Nat → Nat → Nat} {σ σ' : zWd} (h : MS li gi row od cf ts σ) (e : ∀ j, 78 ≤ j → σ' j = σ j) : MS li gi row od cf ts σ' := ⟨h.1.congr (fun j q1 q2 => e j (by omega)), h.2.congr (fun j q1 q2 => e j (by omega))⟩
theorem SR_uniq {o o' : Nat} {c c' s : Nat → Nat} (h : SR o c s) (h' : SR o' c' s) : o = o' ∧ ∀ i, i < o → c i = c' i := by
  have e : o = o' := by
    rcases Nat.lt_trichotomy o o' with q | q | q
    · exact absurd (ob_of h) (h'.2.2.2.2.2 o _ q)
    · exact q
    · exact absurd (ob_of h') (h.2.2.2.2.2 o' _ q)
  subst e
  exact ⟨rfl, fun i hi => (ph_eq (h.2.2.1 i) (h'.2.2.1 i)).mp (lo_uniq fp_inv h.2.2.2.2 (ob_of h') i hi)⟩
theorem MS.swap {li gi o o' : Nat} {row od c c' s : Nat → Nat} {cf ts : Nat → Nat → Nat} {σ : zWd} (h : MS (li + 1) gi row (va_up od li o') (va_up cf li c') (va_up ts li s) σ) (hS : SR o c s) (hS' : SR o' c' s) : MS (li + 1) gi row (va_up od li o) (va_up cf li c) (va_up ts li s) σ := by
  obtain ⟨rfl, hc⟩ := SR_uniq hS hS'
  obtain ⟨⟨h0, h1, h2, ⟨g1, h3, h3', h3''⟩, h4, h5, h6, h7⟩, hs⟩ := h
  refine ⟨⟨h0, h1, h2, ⟨g1, h3, h3', fun k hk i hi => ?_⟩, h4, fun k hk => ?_, h6, h7⟩, hs⟩
  · rw [h3'' k hk i hi]
    by_cases hkl : k = li
    · subst hkl
      rw [zu_same] at hi
      rw [zu_same, zu_same]
      exact (hc i hi).symm
    · rw [zu_ne hkl, zu_ne hkl]
  · by_cases hkl : k = li
    · subst hkl; rw [zu_same, zu_same, zu_same]; exact hS
    · have := h5 k hk
      rw [zu_ne hkl, zu_ne hkl, zu_ne hkl] at this
      rw [zu_ne hkl, zu_ne hkl, zu_ne hkl]
      exact this
/-- both objects hold the same -/
def J (σ : zWd) : Prop := ∃ (li gi : Nat) (row od : Nat → Nat) (cf ts : Nat → Nat → Nat), CS li gi row od cf ts σ ∧ MS li gi row od cf ts σ
def OP (M1 M2 : zMI) (As : List Value) : Prop := ∀ σ, J σ → ∃ P1 : Option Value → Nat → zWd → Prop, Ct M1 (.ref 0 :: As) 90 σ P1 ∧ ∀ r1 n1 σ1, P1 r1 n1 σ1 → n1 = 90 ∧ (∃ li gi, σ1 78 = m0_ li gi) ∧ ∃ v1 : Int32, r1 = some (.int v1) ∧ ∃ P2 : Option Value → Nat → zWd → Prop, Ct M2 (.ref 78 :: As) 90 σ1 P2 ∧ ∀ r2 n2 σ2, P2 r2 n2 σ2 → n2 = 90 ∧ r2 = some (.int v1) ∧ J σ2
theorem OP.mk {M1 M2 : zMI} {As : List Value} (good : Nat → Prop) (B : (Nat → Nat) → Nat) (s : (Nat → Nat → Nat) → Nat → Nat)
    (c1 : ∀ {σ : zWd} {li gi : Nat} {row od : Nat → Nat} {cf ts : Nat → Nat → Nat}, CS li gi row od cf ts σ → Ct M1 (.ref 0 :: As) 90 σ (MK CS FrC σ li gi row od cf ts (good li) (B od) (s ts)))
    (c2 : ∀ {σ : zWd} {li gi : Nat} {row od : Nat → Nat} {cf ts : Nat → Nat → Nat}, MS li gi row od cf ts σ → Ct M2 (.ref 78 :: As) 90 σ (MK MS FrM σ li gi row od cf ts (good li) (B od) (s ts))) : OP M1 M2 As := by
  rintro σ ⟨li, gi, row, od, cf, ts, hC, hM⟩
  refine ⟨_, c1 hC, fun r1 n1 σ1 h1 => ?_⟩
  rcases h1 with ⟨hg, rfl, rfl, hf, hC1⟩ | ⟨hg, hn, rfl, rfl, hf, hC1⟩ | ⟨hg, hl, hB, rfl, hf, rfl, o, c, ho, hSR, hC1⟩
  · have hM1 := hM.keep hf
    refine ⟨rfl, ⟨li, gi, hM1.1.1⟩, _, rfl, _, c2 hM1, fun r2 n2 σ2 h2 => ?_⟩
    rcases h2 with ⟨hg2, rfl, rfl, hf2, hM2⟩ | ⟨hg2, -⟩ | ⟨hg2, -⟩
    · exact ⟨rfl, rfl, li, gi, row, od, cf, ts, hC1.keep hf2, hM2⟩
    · exact absurd hg2 hg
    · exact absurd hg2 hg
  · have hM1 := hM.keep hf
    refine ⟨rfl, ⟨li, gi, hM1.1.1⟩, _, rfl, _, c2 hM1, fun r2 n2 σ2 h2 => ?_⟩
    rcases h2 with ⟨hg2, -⟩ | ⟨hg2, -, rfl, rfl, hf2, hM2⟩ | ⟨hg2, hl2, hB2, -⟩
    · exact absurd hg hg2
    · exact ⟨rfl, rfl, li, gi, row, od, cf, ts, hC1.keep hf2, hM2⟩
    · omega
  · have hM1 := hM.keep hf
    refine ⟨rfl, ⟨li, gi, hM1.1.1⟩, _, rfl, _, c2 hM1, fun r2 n2 σ2 h2 => ?_⟩
    rcases h2 with ⟨hg2, -⟩ | ⟨hg2, hn2, -⟩ | ⟨hg2, hl2, hB2, rfl, hf2, rfl, o', c', ho', hSR', hM2⟩
    · exact absurd hg hg2
    · omega
    · exact ⟨rfl, rfl, li + 1, gi, row, _, _, _, hC1.keep hf2, hM2.swap hSR hSR'⟩
theorem OP.as {M1 M2 : zMI} {As : List Value} (Q1 Q2 : Nat → Nat → (Nat → Nat) → (Nat → Nat) → (Nat → Nat → Nat) → (Nat → Nat → Nat) → Int32 → Prop)
    (c1 : ∀ {σ : zWd} {li gi : Nat} {row od : Nat → Nat} {cf ts : Nat → Nat → Nat}, CS li gi row od cf ts σ → Ct M1 (.ref 0 :: As) 90 σ (AS CS FrC σ li gi row od cf ts (Q1 li gi row od cf ts)))
    (c2 : ∀ {σ : zWd} {li gi : Nat} {row od : Nat → Nat} {cf ts : Nat → Nat → Nat}, MS li gi row od cf ts σ → Ct M2 (.ref 78 :: As) 90 σ (AS MS FrM σ li gi row od cf ts (Q2 li gi row od cf ts)))
    (hq : ∀ (li gi : Nat) (row od : Nat → Nat) (cf ts : Nat → Nat → Nat), (∀ k, k < li → SR (od k) (cf k) (ts k)) → li ≤ 20 → ∀ v v', Q1 li gi row od cf ts v → Q2 li gi row od cf ts v' → v = v') : OP M1 M2 As := by
  rintro σ ⟨li, gi, row, od, cf, ts, hC, hM⟩
  refine ⟨_, c1 hC, fun r1 n1 σ1 h1 => ?_⟩
  obtain ⟨rfl, hf, ⟨v, rfl, hv⟩, hC1⟩ := h1
  have hM1 := hM.keep hf
  refine ⟨rfl, ⟨li, gi, hM1.1.1⟩, _, rfl, _, c2 hM1, fun r2 n2 σ2 h2 => ?_⟩
  obtain ⟨rfl, hf2, ⟨v', rfl, hv'⟩, hM2⟩ := h2
  obtain rfl := hq li gi row od cf ts hM.1.2.2.2.2.2.1 hM.1.2.2.2.2.2.2.1 v v' hv hv'
  exact ⟨rfl, rfl, li, gi, row, od, cf, ts, hC1.keep hf2, hM2⟩
theorem op_give (v : Int32) : OP m_rs_give m_mo_give [.int v] := by
  rintro σ ⟨li, gi, row, od, cf, ts, hC, hM⟩
  refine ⟨_, cc_give hC v, fun r1 n1 σ1 h1 => ?_⟩
  rcases h1 with ⟨rfl, hf, ⟨hg, rfl, hC1⟩ | ⟨hg, rfl, hC1⟩⟩
  · have hM1 := hM.keep hf
    refine ⟨rfl, ⟨li, gi, hM1.1.1⟩, _, rfl, _, mm_give hM1 v, fun r2 n2 σ2 h2 => ?_⟩
    rcases h2 with ⟨rfl, hf2, ⟨hg2, rfl, hM2⟩ | ⟨hg2, rfl, hM2⟩⟩
    · exact ⟨rfl, rfl, _, _, _, _, _, _, hC1.keep hf2, hM2⟩
    · omega
  · have hM1 := hM.keep hf
    refine ⟨rfl, ⟨li, gi, hM1.1.1⟩, _, rfl, _, mm_give hM1 v, fun r2 n2 σ2 h2 => ?_⟩
    rcases h2 with ⟨rfl, hf2, ⟨hg2, rfl, hM2⟩ | ⟨hg2, rfl, hM2⟩⟩
    · omega
    · exact ⟨rfl, rfl, _, _, _, _, _, _, hC1.keep hf2, hM2⟩
theorem op_clear : OP m_rs_clear m_mo_clear [] := by
  rintro σ ⟨li, gi, row, od, cf, ts, hC, hM⟩
  refine ⟨_, cc_clear hC, fun r1 n1 σ1 h1 => ?_⟩
  obtain ⟨rfl, hf, rfl, hC1⟩ := h1
  have hM1 := hM.keep hf
  refine ⟨rfl, ⟨li, gi, hM1.1.1⟩, _, rfl, _, mm_clear hM1, fun r2 n2 σ2 h2 => ?_⟩
  obtain ⟨rfl, hf2, rfl, hM2⟩ := h2
  exact ⟨rfl, rfl, _, _, _, _, _, _, hC1.keep hf2, hM2⟩
theorem op_forget : OP m_rs_forget m_mo_forget [] := by
  rintro σ ⟨li, gi, row, od, cf, ts, hC, hM⟩
  refine ⟨_, cc_forget hC, fun r1 n1 σ1 h1 => ?_⟩
  rcases h1 with ⟨rfl, hf, ⟨hg, rfl, hC1⟩ | ⟨hg, rfl, hC1⟩⟩
  · have hM1 := hM.keep hf
    refine ⟨rfl, ⟨li, gi, hM1.1.1⟩, _, rfl, _, mm_forget hM1, fun r2 n2 σ2 h2 => ?_⟩
    rcases h2 with ⟨rfl, hf2, ⟨hg2, rfl, hM2⟩ | ⟨hg2, rfl, hM2⟩⟩
    · exact ⟨rfl, rfl, _, _, _, _, _, _, hC1.keep hf2, hM2⟩
    · omega
  · have hM1 := hM.keep hf
    refine ⟨rfl, ⟨li, gi, hM1.1.1⟩, _, rfl, _, mm_forget hM1, fun r2 n2 σ2 h2 => ?_⟩
    rcases h2 with ⟨rfl, hf2, ⟨hg2, rfl, hM2⟩ | ⟨hg2, rfl, hM2⟩⟩
    · omega
    · exact ⟨rfl, rfl, _, _, _, _, _, _, hC1.keep hf2, hM2⟩
theorem op_leaf (r : Int32) : OP m_rs_leaf m_mo_leaf [.int r] := by
  rintro σ ⟨li, gi, row, od, cf, ts, hC, hM⟩
  refine ⟨_, cc_leaf hC r, fun r1 n1 σ1 h1 => ?_⟩
  rcases h1 with ⟨hg, rfl, rfl, hf, hC1⟩ | ⟨hg, hl, rfl, rfl, hf, hC1⟩ | ⟨hg, hl, hn, rfl, rfl, hf, hC1⟩ | ⟨hg, hl, hy, rfl, hf, rfl, o, c, ho, hSR, hC1⟩
  · have hM1 := hM.keep hf
    refine ⟨rfl, ⟨li, gi, hM1.1.1⟩, _, rfl, _, mm_leaf hM1 r, fun r2 n2 σ2 h2 => ?_⟩
    rcases h2 with ⟨hg2, rfl, rfl, hf2, hM2⟩ | ⟨hg2, -⟩ | ⟨hg2, -⟩ | ⟨hg2, -⟩
    · exact ⟨rfl, rfl, li, gi, row, od, cf, ts, hC1.keep hf2, hM2⟩
    · exact absurd hg2 hg
    · exact absurd hg2 hg
    · exact absurd hg2 hg
  · have hM1 := hM.keep hf
    refine ⟨rfl, ⟨li, gi, hM1.1.1⟩, _, rfl, _, mm_leaf hM1 r, fun r2 n2 σ2 h2 => ?_⟩
    rcases h2 with ⟨hg2, -⟩ | ⟨hg2, hl2, rfl, rfl, hf2, hM2⟩ | ⟨hg2, hl2, -⟩ | ⟨hg2, hl2, -⟩
    · exact absurd hg hg2
    · exact ⟨rfl, rfl, li, gi, row, od, cf, ts, hC1.keep hf2, hM2⟩
    · exact absurd hl2 (by omega)
    · exact absurd hl2 (by omega)
  · have hM1 := hM.keep hf
    refine ⟨rfl, ⟨li, gi, hM1.1.1⟩, _, rfl, _, mm_leaf hM1 r, fun r2 n2 σ2 h2 => ?_⟩
    rcases h2 with ⟨hg2, -⟩ | ⟨hg2, hl2, -⟩ | ⟨hg2, hl2, hn2, rfl, rfl, hf2, hM2⟩ | ⟨hg2, hl2, hy2, -⟩
    · exact absurd hg hg2
    · exact absurd hl2 (by omega)
    · exact ⟨rfl, rfl, li, gi, row, od, cf, ts, hC1.keep hf2, hM2⟩
    · exact absurd hy2 hn
  · have hM1 := hM.keep hf
    refine ⟨rfl, ⟨li, gi, hM1.1.1⟩, _, rfl, _, mm_leaf hM1 r, fun r2 n2 σ2 h2 => ?_⟩
    rcases h2 with ⟨hg2, -⟩ | ⟨hg2, hl2, -⟩ | ⟨hg2, hl2, hn2, -⟩ | ⟨hg2, hl2, hy2, rfl, hf2, rfl, o', c', ho', hSR', hM2⟩
    · exact absurd hg hg2
    · exact absurd hl2 (by omega)
    · exact absurd hy hn2
    · exact ⟨rfl, rfl, li + 1, 0, row, _, _, _, hC1.keep hf2, hM2.swap hSR hSR'⟩
theorem sr_eq {o o' : Nat} {c c' a b : Nat → Nat} (h : SR o c a) (h' : SR o' c' b) (he : ∀ m, m < o + o' → a m = b m) : ∀ m, a m = b m := by
  obtain ⟨r, hr, cc, hob⟩ := bd_combine fp_inv (ob_of h) (ob_of h') 1 (-1)
  have hz := ob_zero hob (fun n hn => by rw [he n (by omega)]; grind)
  intro m
  refine (ph_eq (h.2.1 m) (h'.2.1 m)).mp ?_
  have := hz m
  grind
theorem qD_eq {N N' : Nat} {a b : Nat → Nat} {v v' : Int32} (hN : N' ≤ N) (h : qD N a b v) (h' : qD N' a b v') (he : (∀ m, m < N' → a m = b m) → ∀ m, a m = b m) : v = v' := by
  rcases h with ⟨n, hn, h1, h2, rfl⟩ | ⟨h1, rfl⟩
  · rcases h' with ⟨n', hn', h1', h2', rfl⟩ | ⟨h1', rfl⟩
    · rcases Nat.lt_trichotomy n n' with q | q | q
      · exact absurd (h2' n q) h1
      · rw [q]
      · exact absurd (h2 n' q) h1'
    · exact absurd (he h1' n) h1
  · rcases h' with ⟨n', hn', h1', h2', rfl⟩ | ⟨h1', rfl⟩
    · exact absurd (h1 n' (by omega)) h1'
    · rfl
theorem isL_n {li : Nat} {k : Int32} (hli : li ≤ 20) (h : isL li k) : k.toNatClampNeg < li := by
  obtain ⟨a, ha, rfl⟩ := h
  rw [nI_clamp (by omega)]
  exact ha
theorem op_differ (j k : Int32) : OP m_rs_differ m_mo_differ [.int j, .int k] := by
  refine OP.as (fun li _ _ od _ ts => qDf li od ts (fun _ _ => 48) j k) (fun li _ _ od _ ts => qDf li od ts (fun a b => od a + od b) j k) (fun h => cc_differ h j k) (fun h => mm_differ h j k) (fun li gi row od cf ts hS hli v v' h h' => ?_)
  rcases h with ⟨hg, rfl⟩ | ⟨hg, h⟩
  · rcases h' with ⟨hg2, rfl⟩ | ⟨hg2, h'⟩
    · rfl
    · exact absurd hg2 hg
  · rcases h' with ⟨hg2, rfl⟩ | ⟨hg2, h'⟩
    · exact absurd hg hg2
    · have s1 := hS _ (isL_n hli hg.1)
      have s2 := hS _ (isL_n hli hg.2)
      have o1 := s1.1
      have o2 := s2.1
      exact qD_eq (show od j.toNatClampNeg + od k.toNatClampNeg ≤ 48 by omega) h h' (sr_eq s1 s2)
theorem op_shared (j k : Int32) : OP m_rs_shared m_mo_shared [.int j, .int k] := by
  refine OP.as (fun li _ _ _ _ ts => qSh li ts j k) (fun li _ _ _ _ ts => qSh li ts j k) (fun h => cc_shared h j k) (fun h => mm_shared h j k) (fun li gi row od cf ts hS hli v v' h h' => ?_)
  rcases h with ⟨hg, rfl⟩ | ⟨hg, r, hr, rfl, ⟨c, hc⟩, hm⟩
  · rcases h' with ⟨hg2, rfl⟩ | ⟨hg2, h'⟩
    · rfl
    · exact absurd hg2 hg
  · rcases h' with ⟨hg2, rfl⟩ | ⟨hg2, r', hr', rfl, ⟨c', hc'⟩, hm'⟩
    · exact absurd hg hg2
    · have e1 := hm r' c' hc'.1 hc'.2
      have e2 := hm' r c hc.1 hc.2
      rw [show r = r' by omega]
theorem op_count : OP m_rs_count m_mo_count [] := OP.as (fun li _ _ _ _ _ v => v = nI li) (fun li _ _ _ _ _ v => v = nI li) (fun h => cc_count h) (fun h => mm_count h) (fun li gi row od cf ts hS hli v v' h h' => h.trans h'.symm)
theorem two_eq {A : Prop} {x y v v' : Int32} (h : (¬ A ∧ v = x) ∨ (A ∧ v = y)) (h' : (¬ A ∧ v' = x) ∨ (A ∧ v' = y)) : v = v' := by
  rcases h with ⟨hg, rfl⟩ | ⟨hg, rfl⟩
  · rcases h' with ⟨hg2, rfl⟩ | ⟨hg2, rfl⟩
    · rfl
    · exact absurd hg2 hg
  · rcases h' with ⟨hg2, rfl⟩ | ⟨hg2, rfl⟩
    · exact absurd hg hg2
    · rfl
theorem op_order (k : Int32) : OP m_rs_order m_mo_order [.int k] := OP.as (fun li _ _ od _ _ => qOrd li od k) (fun li _ _ od _ _ => qOrd li od k) (fun h => cc_order h k) (fun h => mm_order h k) (fun li gi row od cf ts hS hli v v' h h' => two_eq h h')
theorem op_coefficient (k i : Int32) : OP m_rs_coefficient m_mo_coefficient [.int k, .int i] := OP.as (fun li _ _ od cf _ => qCo li od cf k i) (fun li _ _ od cf _ => qCo li od cf k i) (fun h => cc_coefficient h k i) (fun h => mm_coefficient h k i) (fun li gi row od cf ts hS hli v v' h h' => two_eq h h')
theorem op_term (k : Int32) (n : Int64) : OP m_rs_term m_mo_term [.int k, .long n] := OP.as (fun li _ _ _ _ ts => qTe li ts k n) (fun li _ _ _ _ ts => qTe li ts k n) (fun h => cc_term h k n) (fun h => mm_term h k n) (fun li gi row od cf ts hS hli v v' h h' => two_eq h h')
theorem op_obeys (k : Int32) : OP m_rs_obeys m_mo_obeys [.int k] := by
  refine OP.as (fun li gi row od _ ts => qOb li gi row od ts k) (fun li gi row od _ ts => qOb li gi row od ts k) (fun h => cc_obeys h k) (fun h => mm_obeys h k) (fun li gi row od cf ts hS hli v v' h h' => ?_)
  rcases h with ⟨hg, rfl⟩ | ⟨hg, h⟩
  · rcases h' with ⟨hg2, rfl⟩ | ⟨hg2, h'⟩
    · rfl
    · exact absurd hg2 hg
  · rcases h' with ⟨hg2, rfl⟩ | ⟨hg2, h'⟩
    · exact absurd hg hg2
    · exact two_eq (Or.symm h) (Or.symm h')
theorem op_combine (j k u v : Int32) : OP m_rs_combine m_mo_combine [.int j, .int k, .int u, .int v] := OP.mk (fun li => (isL li j ∧ isL li k)) (fun od => (od j.toNatClampNeg + od k.toNatClampNeg)) (fun ts => (fun n => (nu_ u * ts j.toNatClampNeg n + nu_ v * ts k.toNatClampNeg n) % 2147483647)) (fun h => cc_combine h j k u v) (fun h => mm_combine h j k u v)
theorem op_product (j k : Int32) : OP m_rs_product m_mo_product [.int j, .int k] := OP.mk (fun li => (isL li j ∧ isL li k)) (fun od => (od j.toNatClampNeg + od k.toNatClampNeg)) (fun ts => (fun n => pd_ (ts j.toNatClampNeg) (ts k.toNatClampNeg) n (n + 1))) (fun h => cc_product h j k) (fun h => mm_product h j k)
theorem op_pairwise (j k : Int32) : OP m_rs_pairwise m_mo_pairwise [.int j, .int k] := OP.mk (fun li => (isL li j ∧ isL li k)) (fun od => (od j.toNatClampNeg * od k.toNatClampNeg)) (fun ts => (fun n => ts j.toNatClampNeg n * ts k.toNatClampNeg n % 2147483647)) (fun h => cc_pairwise h j k) (fun h => mm_pairwise h j k)
theorem op_derivative (j : Int32) : OP m_rs_derivative m_mo_derivative [.int j] := OP.mk (fun li => (isL li j)) (fun od => (2 * od j.toNatClampNeg)) (fun ts => (fun n => (n + 1) * ts j.toNatClampNeg (n + 1) % 2147483647)) (fun h => cc_derivative h j) (fun h => mm_derivative h j)
theorem op_tail (j : Int32) : OP m_rs_tail m_mo_tail [.int j] := OP.mk (fun li => (isL li j)) (fun od => (od j.toNatClampNeg)) (fun ts => (fun n => ts j.toNatClampNeg (n + 1))) (fun h => cc_tail h j) (fun h => mm_tail h j)
theorem op_delay (j : Int32) : OP m_rs_delay m_mo_delay [.int j] := OP.mk (fun li => (isL li j)) (fun od => (od j.toNatClampNeg + 1)) (fun ts => (fun n => if n = 0 then 0 else ts j.toNatClampNeg (n - 1))) (fun h => cc_delay h j) (fun h => mm_delay h j)
theorem op_sums (j : Int32) : OP m_rs_sums m_mo_sums [.int j] := OP.mk (fun li => (isL li j)) (fun od => (od j.toNatClampNeg + 1)) (fun ts => (fun n => su_ (ts j.toNatClampNeg) (n + 1))) (fun h => cc_sums h j) (fun h => mm_sums h j)
theorem op_section (j m i : Int32) : OP m_rs_section m_mo_section [.int j, .int m, .int i] := OP.mk (fun li => (isL li j ∧ isR 1 24 m ∧ isR 0 1000 i)) (fun od => (od j.toNatClampNeg)) (fun ts => (fun n => ts j.toNatClampNeg (m.toNatClampNeg * n + i.toNatClampNeg))) (fun h => cc_section h j m i) (fun h => mm_section h j m i)
theorem op_spread (j m : Int32) : OP m_rs_spread m_mo_spread [.int j, .int m] := OP.mk (fun li => (isL li j ∧ isR 1 24 m)) (fun od => (m.toNatClampNeg * od j.toNatClampNeg)) (fun ts => (fun n => if n % m.toNatClampNeg = 0 then ts j.toNatClampNeg (n / m.toNatClampNeg) else 0)) (fun h => cc_spread h j m) (fun h => mm_spread h j m)

