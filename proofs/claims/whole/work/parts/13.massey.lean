/-! Berlekamp's and Massey's way -/
/-- what the row c foretells at k, from all terms before it -/
def ft_ {K : Type} [Lean.Grind.CommRing K] (s c : Nat → K) (k : Nat) : K := sm k (fun i => c i * s (k - 1 - i))
theorem ft_cut {K : Type} [Lean.Grind.CommRing K] {s c : Nat → K} {L k : Nat} (hk : L ≤ k) (h : ∀ i, L ≤ i → c i = 0) : ft_ s c k = sm L (fun i => c i * s (k - 1 - i)) :=
  sm_cut hk (fun i h1 _ => by rw [h i h1]; grind)
/-- the mended row: c - f x^(g + 1) b, read as polynomials 1 - c 0 x - .. -/
def mn_ {K : Type} [Lean.Grind.CommRing K] (c b : Nat → K) (f : K) (g : Nat) : Nat → K := fun i => if i < g then c i else if i = g then c g + f else c i - f * b (i - g - 1)
theorem mn_ft {K : Type} [Lean.Grind.CommRing K] (s c b : Nat → K) (f : K) (g t : Nat) : ft_ s (mn_ c b f g) (g + (1 + t)) = ft_ s c (g + (1 + t)) + f * (s t - ft_ s b t) := by
  unfold ft_
  rw [sm_split g (1 + t), sm_split g (1 + t), sm_split 1 t, sm_split 1 t]
  have h1 : sm g (fun i => mn_ c b f g i * s (g + (1 + t) - 1 - i)) = sm g (fun i => c i * s (g + (1 + t) - 1 - i)) := sm_congr (fun i hi => by unfold mn_; rw [if_pos hi])
  have h2 : ∀ u : Nat → K, sm 1 (fun i => u (g + i) * s (g + (1 + t) - 1 - (g + i))) = u g * s t := by
    intro u
    rw [show (1 : Nat) = 0 + 1 from rfl, sm_s, sm_0, Nat.add_zero, show g + (0 + 1 + t) - (0 + 1) - g = t by omega]
    grind
  have h3 : sm t (fun i => mn_ c b f g (g + (1 + i)) * s (g + (1 + t) - 1 - (g + (1 + i)))) = sm t (fun i => c (g + (1 + i)) * s (g + (1 + t) - 1 - (g + (1 + i)))) - f * sm t (fun i => b i * s (t - 1 - i)) := by
    rw [← sm_mul, ← sm_sub]
    refine sm_congr (fun i hi => ?_)
    unfold mn_
    rw [if_neg (by omega), if_neg (by omega), show g + (1 + i) - g - 1 = i by omega, show g + (1 + t) - 1 - (g + (1 + i)) = t - 1 - i by omega]
    grind
  rw [h1, h2, h2, h3]
  have h4 : mn_ c b f g g = c g + f := by unfold mn_; rw [if_neg (by omega), if_pos rfl]
  rw [h4]
  grind
theorem mn_low {K : Type} [Lean.Grind.CommRing K] (s c b : Nat → K) (f : K) (g k : Nat) (hk : k ≤ g) : ft_ s (mn_ c b f g) k = ft_ s c k := by
  unfold ft_
  exact sm_congr (fun i hi => by unfold mn_; rw [if_pos (by omega)])
/-- Massey's bound -/
theorem massey_ {K : Type} [Lean.Grind.CommRing K] {s c c' : Nat → K} {L R n : Nat} (hL : ∀ k, L ≤ k → k < n → s k = sm L (fun i => c i * s (k - 1 - i))) (hR : ∀ k, R ≤ k → k ≤ n → s k = sm R (fun j => c' j * s (k - 1 - j))) (h : L + R ≤ n) : s n = sm L (fun i => c i * s (n - 1 - i)) := by
  have h1 : sm L (fun i => c i * s (n - 1 - i)) = sm L (fun i => sm R (fun j => c i * (c' j * s (n - 1 - i - 1 - j)))) := by
    refine sm_congr (fun i hi => ?_)
    rw [hR (n - 1 - i) (by omega) (by omega), ← sm_mul]
  rw [h1, sm_swap, hR n (by omega) (Nat.le_refl n)]
  refine sm_congr (fun j hj => ?_)
  rw [hL (n - 1 - j) (by omega) (by omega), ← sm_mul]
  refine sm_congr (fun i hi => ?_)
  rw [show n - 1 - j - 1 - i = n - 1 - i - 1 - j by omega]
  grind
/-- the invariant: n terms are read; now has the order L; before had Lm, and missed the term u - 1 (u = 0: none was missed) by d -/
def bi_ {K : Type} [Lean.Grind.CommRing K] (s : Nat → K) (n L u Lm : Nat) (now before : Nat → K) (d : K) : Prop :=
  (∀ i, L ≤ i → now i = 0) ∧ (∀ i, Lm ≤ i → before i = 0) ∧ (∀ k, L ≤ k → k < n → s k = ft_ s now k) ∧ L ≤ n ∧ u ≤ n ∧ L + Lm = u ∧ d ≠ 0 ∧
  (u ≠ 0 → Lm < u ∧ (∀ k, Lm ≤ k → k + 1 < u → s k = ft_ s before k) ∧ s (u - 1) - ft_ s before (u - 1) = d)
theorem bi_start {K : Type} [Lean.Grind.CommRing K] (s : Nat → K) (h1 : (1 : K) ≠ 0) : bi_ s 0 0 0 0 (fun _ => 0) (fun _ => 0) 1 :=
  ⟨fun _ _ => rfl, fun _ _ => rfl, fun k _ h => by omega, Nat.le_refl 0, Nat.le_refl 0, rfl, h1, fun h => absurd rfl h⟩
theorem bi_same {K : Type} [Lean.Grind.CommRing K] {s : Nat → K} {n L u Lm : Nat} {now before : Nat → K} {d : K} (h : bi_ s n L u Lm now before d) (hm : s n = ft_ s now n) : bi_ s (n + 1) L u Lm now before d := by
  obtain ⟨h1, h2, h3, h4, h5, h6, h7, h8⟩ := h
  refine ⟨h1, h2, fun k a b => ?_, by omega, by omega, h6, h7, h8⟩
  by_cases hk : k = n
  · subst hk; exact hm
  · exact h3 k a (by omega)
/-- what the mended row foretells, from the larger of the two orders on -/
theorem bi_mend {K : Type} [Lean.Grind.CommRing K] {s : Nat → K} {n L u Lm : Nat} {now before : Nat → K} {d f : K} (h : bi_ s n L u Lm now before d) (hf : f * d = s n - ft_ s now n) {L' : Nat} (hL : L ≤ L') (hL2 : n + 1 ≤ L' + L) : (∀ i, L' ≤ i → mn_ now before f (n - u) i = 0) ∧ ∀ k, L' ≤ k → k < n + 1 → s k = ft_ s (mn_ now before f (n - u)) k := by
  obtain ⟨h1, h2, h3, h4, h5, h6, h7, h8⟩ := h
  by_cases hu : u = 0
  · subst hu
    have hL0 : L = 0 := by omega
    subst hL0
    refine ⟨fun i hi => ?_, fun k a b => by omega⟩
    unfold mn_
    rw [if_neg (by omega), if_neg (by omega), h1 i (by omega), h2 _ (by omega)]
    grind
  · obtain ⟨g1, g2, g3⟩ := h8 hu
    refine ⟨fun i hi => ?_, fun k a b => ?_⟩
    · unfold mn_
      rw [if_neg (by omega), if_neg (by omega), h1 i (by omega), h2 _ (by omega)]
      grind
    · have hm := mn_ft s now before f (n - u) (k - (n - u) - 1)
      rw [show n - u + (1 + (k - (n - u) - 1)) = k by omega] at hm
      rw [hm]
      by_cases hk : k = n
      · subst hk
        rw [show k - (k - u) - 1 = u - 1 by omega, g3, hf]
        grind
      · rw [← g2 (k - (n - u) - 1) (by omega) (by omega), ← h3 k (by omega) (by omega)]
        grind
theorem bi_stay {K : Type} [Lean.Grind.CommRing K] {s : Nat → K} {n L u Lm : Nat} {now before : Nat → K} {d f : K} (h : bi_ s n L u Lm now before d) (hf : f * d = s n - ft_ s now n) (hg : n < 2 * L) : bi_ s (n + 1) L u Lm (mn_ now before f (n - u)) before d := by
  obtain ⟨m1, m2⟩ := bi_mend h hf (Nat.le_refl L) (by omega)
  obtain ⟨h1, h2, h3, h4, h5, h6, h7, h8⟩ := h
  exact ⟨m1, h2, m2, by omega, by omega, h6, h7, h8⟩
theorem bi_grow {K : Type} [Lean.Grind.CommRing K] {s : Nat → K} {n L u Lm : Nat} {now before : Nat → K} {d f e : K} (h : bi_ s n L u Lm now before d) (he : e = s n - ft_ s now n) (he0 : e ≠ 0) (hf : f * d = e) (hg : 2 * L ≤ n) : bi_ s (n + 1) (n + 1 - L) (n + 1) L (mn_ now before f (n - u)) now e := by
  obtain ⟨m1, m2⟩ := bi_mend h (hf.trans he) (show L ≤ n + 1 - L by omega) (by omega)
  obtain ⟨h1, h2, h3, h4, h5, h6, h7, h8⟩ := h
  refine ⟨m1, h1, m2, by omega, Nat.le_refl _, by omega, he0, fun _ => ⟨by omega, fun k a b => h3 k a (by omega), ?_⟩⟩
  rw [show n + 1 - 1 = n by omega]
  exact he.symm
/-- the order never passes that of a recurrence which the series obeys -/
theorem bi_le {K : Type} [Lean.Grind.CommRing K] {s : Nat → K} {n L u Lm R : Nat} {now before c : Nat → K} {d : K} (h : bi_ s n L u Lm now before d) (hR : ob R c s) (hm : s n ≠ ft_ s now n) (hLn : L ≤ n) : n + 1 - L ≤ R := by
  refine Classical.byContradiction (fun hno => hm ?_)
  obtain ⟨h1, h2, h3, -⟩ := h
  rw [ft_cut hLn h1]
  refine massey_ (c' := c) (R := R) (fun k a b => ?_) (fun k a b => ?_) (by omega)
  · rw [h3 k a b, ft_cut a h1]
  · have := hR (k - R)
    rw [show k - R + R = k by omega] at this
    exact this
/-- the end: 2 B terms are read, and the least order is at most B -/
theorem bi_end {K : Type} [Lean.Grind.CommRing K] (hI : ∀ x : K, x ≠ 0 → ∃ y, x * y = 1) {s : Nat → K} {B L u Lm R : Nat} {now before c : Nat → K} {d : K} (h : bi_ s (2 * B) L u Lm now before d) (hR : lo_ s R c) (hRB : R ≤ B) (hL : L ≤ R) : L = R ∧ ∀ i, i < R → now i = c i := by
  obtain ⟨h1, h2, h3, -⟩ := h
  have hob : ob L now s := by
    refine ob_check hR.1 (fun n hn => ?_)
    unfold ms_
    have h4 := h3 (n + L) (by omega) (by omega)
    rw [ft_cut (by omega) h1] at h4
    rw [← h4]
    grind
  have hLR : L = R := by
    refine Classical.byContradiction (fun hne => hR.2 L now (by omega) hob)
  subst hLR
  exact ⟨rfl, fun i hi => (lo_uniq hI hR hob i hi).symm⟩
