/-! Linear equations: rows q < rows, unknowns c < r, the right side in column r -/
def so_ {K : Type} [Lean.Grind.CommRing K] (rows r : Nat) (g : Nat → Nat → K) (x : Nat → K) : Prop := ∀ q, q < rows → sm r (fun c => g q c * x c) = g q r
def sw_ {K : Type} (g : Nat → Nat → K) (a b : Nat) : Nat → Nat → K := fun q => if q = a then g b else if q = b then g a else g q
def cl_ {K : Type} [Lean.Grind.CommRing K] (g : Nat → Nat → K) (t col : Nat) (w : K) : Nat → Nat → K := fun q c => if q = t then g t c * w else g q c - g q col * (g t c * w)
theorem so_congr {K : Type} [Lean.Grind.CommRing K] {rows r : Nat} {g g' : Nat → Nat → K} (h : ∀ q, q < rows → ∀ c, c ≤ r → g q c = g' q c) (x : Nat → K) : so_ rows r g x ↔ so_ rows r g' x := by
  have key : ∀ q, q < rows → (sm r (fun c => g q c * x c) = g q r ↔ sm r (fun c => g' q c * x c) = g' q r) := by
    intro q hq
    rw [h q hq r (Nat.le_refl r), sm_congr (fun c hc => by rw [h q hq c (by omega)])]
  exact ⟨fun k q hq => (key q hq).mp (k q hq), fun k q hq => (key q hq).mpr (k q hq)⟩
theorem so_sw {K : Type} [Lean.Grind.CommRing K] {rows r a b : Nat} {g : Nat → Nat → K} (ha : a < rows) (hb : b < rows) (x : Nat → K) : so_ rows r (sw_ g a b) x ↔ so_ rows r g x := by
  constructor
  · intro h q hq
    by_cases h1 : q = a
    · subst h1
      by_cases h2 : q = b
      · subst h2
        have := h q hq
        unfold sw_ at this
        rw [if_pos rfl] at this
        exact this
      · have := h b hb
        unfold sw_ at this
        rw [if_neg (fun z => h2 z.symm), if_pos rfl] at this
        exact this
    · by_cases h2 : q = b
      · subst h2
        have := h a ha
        unfold sw_ at this
        rw [if_pos rfl] at this
        exact this
      · have := h q hq
        unfold sw_ at this
        rw [if_neg h1, if_neg h2] at this
        exact this
  · intro h q hq
    unfold sw_
    by_cases h1 : q = a
    · rw [if_pos h1]; exact h b hb
    · rw [if_neg h1]
      by_cases h2 : q = b
      · rw [if_pos h2]; exact h a ha
      · rw [if_neg h2]; exact h q hq
theorem so_cl {K : Type} [Lean.Grind.CommRing K] {rows r t col : Nat} {w : K} {g : Nat → Nat → K} (ht : t < rows) (hw : g t col * w = 1) (x : Nat → K) : so_ rows r (cl_ g t col w) x ↔ so_ rows r g x := by
  have e1 : sm r (fun c => cl_ g t col w t c * x c) = sm r (fun c => g t c * x c) * w := by
    rw [← sm_mulr]
    refine sm_congr (fun c hc => ?_)
    unfold cl_
    rw [if_pos rfl]
    grind
  have e2 : ∀ q, q ≠ t → sm r (fun c => cl_ g t col w q c * x c) = sm r (fun c => g q c * x c) - g q col * (sm r (fun c => g t c * x c) * w) := by
    intro q hq
    rw [← sm_mulr, ← sm_mul, ← sm_sub]
    refine sm_congr (fun c hc => ?_)
    unfold cl_
    rw [if_neg hq]
    grind
  have e3 : cl_ g t col w t r = g t r * w := by unfold cl_; rw [if_pos rfl]
  have e4 : ∀ q, q ≠ t → cl_ g t col w q r = g q r - g q col * (g t r * w) := fun q hq => by unfold cl_; rw [if_neg hq]
  constructor
  · intro h
    have ht1 := h t ht
    rw [e1, e3] at ht1
    have ht2 : sm r (fun c => g t c * x c) = g t r := by
      have h1 : sm r (fun c => g t c * x c) = sm r (fun c => g t c * x c) * w * g t col := by grind
      have h2 : g t r = g t r * w * g t col := by grind
      rw [h1, ht1, ← h2]
    intro q hq
    by_cases hqt : q = t
    · rw [hqt]; exact ht2
    · have := h q hq
      rw [e2 q hqt, e4 q hqt, ht2] at this
      grind
  · intro h q hq
    have ht2 := h t ht
    by_cases hqt : q = t
    · rw [hqt, e1, e3, ht2]
    · rw [e2 q hqt, e4 q hqt, ht2, h q hq]
/-- col columns are done, k rows have a pivot -/
def gi_ {K : Type} [Lean.Grind.CommRing K] (rows r : Nat) (g0 : Nat → Nat → K) (col k : Nat) (g : Nat → Nat → K) (pv : Nat → Option Nat) (pc : Nat → Nat) : Prop :=
  (∀ x, so_ rows r g x ↔ so_ rows r g0 x) ∧ k ≤ rows ∧
  (∀ c p, c < col → pv c = some p → p < k ∧ pc p = c ∧ ∀ q, q < rows → g q c = if q = p then 1 else 0) ∧
  (∀ c, c < col → pv c = none → ∀ q, k ≤ q → q < rows → g q c = 0) ∧
  (∀ p, p < k → pc p < col ∧ pv (pc p) = some p)
theorem gi_start {K : Type} [Lean.Grind.CommRing K] (rows r : Nat) (g0 : Nat → Nat → K) (pv : Nat → Option Nat) (pc : Nat → Nat) : gi_ rows r g0 0 0 g0 pv pc :=
  ⟨fun _ => Iff.rfl, Nat.zero_le _, fun c p h => by omega, fun c h => by omega, fun p h => by omega⟩
theorem gi_none {K : Type} [Lean.Grind.CommRing K] {rows r col k : Nat} {g0 g : Nat → Nat → K} {pv : Nat → Option Nat} {pc : Nat → Nat} (h : gi_ rows r g0 col k g pv pc) (hz : ∀ q, k ≤ q → q < rows → g q col = 0) : gi_ rows r g0 (col + 1) k g (va_up pv col none) pc := by
  obtain ⟨h1, h2, h3, h4, h5⟩ := h
  refine ⟨h1, h2, fun c p hc hp => ?_, fun c hc hp => ?_, fun p hp => ?_⟩
  · by_cases hcc : c = col
    · subst hcc; simp [va_up] at hp
    · simp only [va_up, if_neg hcc] at hp
      exact h3 c p (by omega) hp
  · by_cases hcc : c = col
    · subst hcc; exact hz
    · simp only [va_up, if_neg hcc] at hp
      exact h4 c (by omega) hp
  · obtain ⟨g1, g2⟩ := h5 p hp
    refine ⟨by omega, ?_⟩
    simp only [va_up, if_neg (show ¬ pc p = col by omega)]
    exact g2
theorem gi_pivot {K : Type} [Lean.Grind.CommRing K] {rows r col k t : Nat} {w : K} {g0 g : Nat → Nat → K} {pv : Nat → Option Nat} {pc : Nat → Nat} (h : gi_ rows r g0 col k g pv pc) (hk : k ≤ t) (ht : t < rows) (hw : g t col * w = 1) : gi_ rows r g0 (col + 1) (k + 1) (cl_ (sw_ g t k) k col w) (va_up pv col (some k)) (va_up pc k col) := by
  obtain ⟨h1, h2, h3, h4, h5⟩ := h
  have hsk : sw_ g t k k = g t := by
    unfold sw_
    by_cases hkt : k = t
    · rw [if_pos hkt, hkt]
    · rw [if_neg hkt, if_pos rfl]
  have hw' : sw_ g t k k col * w = 1 := by rw [hsk]; exact hw
  -- an old column with a pivot: zero from row k on
  have hold : ∀ c p, c < col → pv c = some p → ∀ q, q < rows → sw_ g t k q c = if q = p then 1 else 0 := by
    intro c p hc hp q hq
    obtain ⟨g1, g2, g3⟩ := h3 c p hc hp
    unfold sw_
    by_cases hqt : q = t
    · rw [if_pos hqt, g3 k (by omega), if_neg (by omega), if_neg (by omega)]
    · rw [if_neg hqt]
      by_cases hqk : q = k
      · rw [if_pos hqk, g3 t ht, if_neg (by omega), if_neg (by omega)]
      · rw [if_neg hqk]; exact g3 q hq
  have holdn : ∀ c, c < col → pv c = none → ∀ q, k ≤ q → q < rows → sw_ g t k q c = 0 := by
    intro c hc hp q hq1 hq2
    unfold sw_
    by_cases hqt : q = t
    · rw [if_pos hqt]; exact h4 c hc hp k (Nat.le_refl k) (by omega)
    · rw [if_neg hqt]
      by_cases hqk : q = k
      · rw [if_pos hqk]; exact h4 c hc hp t hk ht
      · rw [if_neg hqk]; exact h4 c hc hp q hq1 hq2
  refine ⟨fun x => ((so_cl (by omega) hw' x).trans (so_sw ht (by omega) x)).trans (h1 x), by omega, fun c p hc hp => ?_, fun c hc hp q hq1 hq2 => ?_, fun p hp => ?_⟩
  · by_cases hcc : c = col
    · subst hcc
      simp only [va_up, if_true] at hp
      cases hp
      refine ⟨by omega, by simp [va_up], fun q hq => ?_⟩
      unfold cl_
      by_cases hqk : q = k
      · rw [if_pos hqk, if_pos hqk]; exact hw'
      · rw [if_neg hqk, if_neg hqk]; grind
    · simp only [va_up, if_neg hcc] at hp
      obtain ⟨g1, g2, g3⟩ := h3 c p (by omega) hp
      refine ⟨by omega, by simp only [va_up, if_neg (show ¬ p = k by omega)]; exact g2, fun q hq => ?_⟩
      have e1 := hold c p (by omega) hp k (by omega)
      rw [if_neg (by omega)] at e1
      unfold cl_
      by_cases hqk : q = k
      · rw [if_pos hqk, e1, if_neg (by omega)]; grind
      · rw [if_neg hqk, e1, hold c p (by omega) hp q hq]; grind
  · by_cases hcc : c = col
    · subst hcc; simp [va_up] at hp
    · simp only [va_up, if_neg hcc] at hp
      have e1 := holdn c (by omega) hp k (Nat.le_refl k) (by omega)
      unfold cl_
      rw [if_neg (by omega), e1, holdn c (by omega) hp q (by omega) hq2]
      grind
  · by_cases hpk : p = k
    · subst hpk
      simp [va_up]
    · obtain ⟨g1, g2⟩ := h5 p (by omega)
      simp only [va_up, if_neg hpk, if_neg (show ¬ pc p = col by omega)]
      exact ⟨by omega, g2⟩
theorem gi_zero {K : Type} [Lean.Grind.CommRing K] {rows r k : Nat} {g0 g : Nat → Nat → K} {pv : Nat → Option Nat} {pc : Nat → Nat} (h : gi_ rows r g0 r k g pv pc) {q : Nat} (hq1 : k ≤ q) (hq2 : q < rows) : ∀ c, c < r → g q c = 0 := by
  obtain ⟨h1, h2, h3, h4, h5⟩ := h
  intro c hc
  cases hp : pv c with
  | none => exact h4 c hc hp q hq1 hq2
  | some p =>
    obtain ⟨g1, g2, g3⟩ := h3 c p hc hp
    rw [g3 q hq2, if_neg (by omega)]
theorem gi_no {K : Type} [Lean.Grind.CommRing K] {rows r k : Nat} {g0 g : Nat → Nat → K} {pv : Nat → Option Nat} {pc : Nat → Nat} (h : gi_ rows r g0 r k g pv pc) {x : Nat → K} (hx : so_ rows r g0 x) : ∀ q, k ≤ q → q < rows → g q r = 0 := by
  intro q hq1 hq2
  have h1 := (h.1 x).mpr hx q hq2
  rw [← h1]
  refine sm_zero (fun c hc => ?_)
  rw [gi_zero h hq1 hq2 c hc]
  grind
theorem gi_yes {K : Type} [Lean.Grind.CommRing K] {rows r k : Nat} {g0 g : Nat → Nat → K} {pv : Nat → Option Nat} {pc : Nat → Nat} (h : gi_ rows r g0 r k g pv pc) (hz : ∀ q, k ≤ q → q < rows → g q r = 0) : so_ rows r g0 (fun c => match pv c with | some p => g p r | none => 0) := by
  refine (h.1 _).mp (fun q hq => ?_)
  by_cases hqk : k ≤ q
  · rw [hz q hqk hq]
    refine sm_zero (fun c hc => ?_)
    rw [gi_zero h hqk hq c hc]
    grind
  · obtain ⟨h1, h2, h3, h4, h5⟩ := h
    obtain ⟨g1, g2⟩ := h5 q (by omega)
    rw [sm_one (p := pc q) g1]
    · obtain ⟨e1, e2, e3⟩ := h3 (pc q) q g1 g2
      rw [g2, e3 q hq, if_pos rfl]
      grind
    · intro c hc hne
      cases hp : pv c with
      | none => simp only; grind
      | some p =>
        obtain ⟨e1, e2, e3⟩ := h3 c p hc hp
        have hqp : ¬ q = p := fun z => hne (by rw [z]; exact e2.symm)
        rw [e3 q hq, if_neg hqp]
        grind
