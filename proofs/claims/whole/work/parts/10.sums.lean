/-! Sums over 0 .. n - 1, in any commutative ring -/
def sm {K : Type} [Lean.Grind.CommRing K] : Nat → (Nat → K) → K
  | 0, _ => 0
  | n + 1, f => sm n f + f n
theorem sm_0 {K : Type} [Lean.Grind.CommRing K] (f : Nat → K) : sm 0 f = 0 := rfl
theorem sm_s {K : Type} [Lean.Grind.CommRing K] (n : Nat) (f : Nat → K) : sm (n + 1) f = sm n f + f n := rfl
theorem sm_congr {K : Type} [Lean.Grind.CommRing K] {n : Nat} {f g : Nat → K} (h : ∀ i, i < n → f i = g i) : sm n f = sm n g := by
  induction n with
  | zero => rfl
  | succ n ih => rw [sm_s, sm_s, ih (fun i hi => h i (by omega)), h n (by omega)]
theorem sm_zero {K : Type} [Lean.Grind.CommRing K] {n : Nat} {f : Nat → K} (h : ∀ i, i < n → f i = 0) : sm n f = 0 := by
  induction n with
  | zero => rfl
  | succ n ih => rw [sm_s, ih (fun i hi => h i (by omega)), h n (by omega)]; grind
theorem sm_add {K : Type} [Lean.Grind.CommRing K] (n : Nat) (f g : Nat → K) : sm n (fun i => f i + g i) = sm n f + sm n g := by
  induction n with
  | zero => simp only [sm_0]; grind
  | succ n ih => simp only [sm_s, ih]; grind
theorem sm_sub {K : Type} [Lean.Grind.CommRing K] (n : Nat) (f g : Nat → K) : sm n (fun i => f i - g i) = sm n f - sm n g := by
  induction n with
  | zero => simp only [sm_0]; grind
  | succ n ih => simp only [sm_s, ih]; grind
theorem sm_mul {K : Type} [Lean.Grind.CommRing K] (n : Nat) (a : K) (f : Nat → K) : sm n (fun i => a * f i) = a * sm n f := by
  induction n with
  | zero => simp only [sm_0]; grind
  | succ n ih => simp only [sm_s, ih]; grind
theorem sm_mulr {K : Type} [Lean.Grind.CommRing K] (n : Nat) (a : K) (f : Nat → K) : sm n (fun i => f i * a) = sm n f * a := by
  induction n with
  | zero => simp only [sm_0]; grind
  | succ n ih => simp only [sm_s, ih]; grind
theorem sm_neg {K : Type} [Lean.Grind.CommRing K] (n : Nat) (f : Nat → K) : sm n (fun i => - f i) = - sm n f := by
  induction n with
  | zero => simp only [sm_0]; grind
  | succ n ih => simp only [sm_s, ih]; grind
/-- two sums change places -/
theorem sm_swap {K : Type} [Lean.Grind.CommRing K] (n m : Nat) (f : Nat → Nat → K) : sm n (fun i => sm m (fun j => f i j)) = sm m (fun j => sm n (fun i => f i j)) := by
  induction n with
  | zero => simp only [sm_0]; exact (sm_zero (fun _ _ => rfl)).symm
  | succ n ih => simp only [sm_s]; rw [ih, ← sm_add]
/-- the first term apart -/
theorem sm_head {K : Type} [Lean.Grind.CommRing K] (n : Nat) (f : Nat → K) : sm (n + 1) f = f 0 + sm n (fun i => f (i + 1)) := by
  induction n with
  | zero => simp only [sm_s, sm_0]; grind
  | succ n ih => rw [sm_s, ih, sm_s]; grind
theorem sm_split {K : Type} [Lean.Grind.CommRing K] (n m : Nat) (f : Nat → K) : sm (n + m) f = sm n f + sm m (fun i => f (n + i)) := by
  induction m with
  | zero => simp only [sm_0, Nat.add_zero]; grind
  | succ m ih => rw [← Nat.add_assoc, sm_s, ih, sm_s]; grind
/-- terms beyond m that are 0 -/
theorem sm_cut {K : Type} [Lean.Grind.CommRing K] {n m : Nat} {f : Nat → K} (hm : m ≤ n) (h : ∀ i, m ≤ i → i < n → f i = 0) : sm n f = sm m f := by
  obtain ⟨d, rfl⟩ : ∃ d, n = m + d := ⟨n - m, by omega⟩
  rw [sm_split, sm_zero (fun i hi => h (m + i) (by omega) (by omega))]
  grind
/-- from behind -/
theorem sm_rev {K : Type} [Lean.Grind.CommRing K] (n : Nat) (f : Nat → K) : sm n f = sm n (fun i => f (n - 1 - i)) := by
  induction n with
  | zero => rfl
  | succ n ih =>
    rw [sm_s, ih, sm_head]
    have : sm n (fun i => f (n + 1 - 1 - (i + 1))) = sm n (fun i => f (n - 1 - i)) := sm_congr (fun i hi => by rw [show n + 1 - 1 - (i + 1) = n - 1 - i by omega])
    rw [this, show n + 1 - 1 - 0 = n by omega]
    grind
/-- one term alone -/
theorem sm_one {K : Type} [Lean.Grind.CommRing K] {n p : Nat} {f : Nat → K} (hp : p < n) (h : ∀ i, i < n → i ≠ p → f i = 0) : sm n f = f p := by
  induction n with
  | zero => omega
  | succ n ih =>
    rw [sm_s]
    by_cases hpn : p = n
    · subst hpn
      rw [sm_zero (fun i hi => h i (by omega) (by omega))]
      grind
    · rw [ih (by omega) (fun i hi hne => h i (by omega) hne), h n (by omega) (by omega)]
      grind
/-- a triangle, by rows or by columns -/
theorem sm_tri {K : Type} [Lean.Grind.CommRing K] (n : Nat) (f : Nat → Nat → K) : sm n (fun k => sm (k + 1) (fun i => f i (k - i))) = sm n (fun i => sm (n - i) (fun j => f i j)) := by
  induction n with
  | zero => rfl
  | succ n ih =>
    rw [sm_s, ih, sm_s (f := fun i => sm (n + 1 - i) (fun j => f i j))]
    have h1 : sm n (fun i => sm (n + 1 - i) (fun j => f i j)) = sm n (fun i => sm (n - i) (fun j => f i j)) + sm n (fun i => f i (n - i)) := by
      rw [← sm_add]
      refine sm_congr (fun i hi => ?_)
      rw [show n + 1 - i = (n - i) + 1 by omega, sm_s]
    have h2 : sm (n + 1 - n) (fun j => f n j) = f n 0 := by
      rw [show n + 1 - n = 0 + 1 by omega, sm_s, sm_0]
      grind
    rw [h1, h2, sm_s, Nat.sub_self]
    grind
/-! Recurrences: c i stands for the coefficient of the term i + 1 places before -/
def ob {K : Type} [Lean.Grind.CommRing K] (r : Nat) (c : Nat → K) (s : Nat → K) : Prop := ∀ n, s (n + r) = sm r (fun i => c i * s (n + r - 1 - i))
/-- what the recurrence misses at n + r -/
def ms_ {K : Type} [Lean.Grind.CommRing K] (r : Nat) (c : Nat → K) (s : Nat → K) (n : Nat) : K := s (n + r) - sm r (fun i => c i * s (n + r - 1 - i))
theorem ob_iff {K : Type} [Lean.Grind.CommRing K] {r : Nat} {c s : Nat → K} : ob r c s ↔ ∀ n, ms_ r c s n = 0 := by
  constructor
  · intro h n
    unfold ms_
    rw [← h n]
    grind
  · intro h n
    have := h n
    unfold ms_ at this
    grind
theorem ob_zero {K : Type} [Lean.Grind.CommRing K] {r : Nat} {c s : Nat → K} (h : ob r c s) (h0 : ∀ n, n < r → s n = 0) : ∀ n, s n = 0 := by
  intro n
  induction n using Nat.strongRecOn with
  | _ n ih =>
    by_cases hn : n < r
    · exact h0 n hn
    · have h1 := h (n - r)
      rw [show n - r + r = n by omega] at h1
      rw [h1]
      refine sm_zero (fun i hi => ?_)
      rw [ih (n - 1 - i) (by omega)]
      grind
theorem ob_shift {K : Type} [Lean.Grind.CommRing K] {r : Nat} {c s : Nat → K} (h : ob r c s) (k : Nat) : ob r c (fun n => s (n + k)) := by
  intro n
  show s (n + r + k) = _
  rw [show n + r + k = (n + k) + r by omega, h (n + k)]
  refine sm_congr (fun i hi => ?_)
  show c i * s _ = c i * s _
  rw [show n + k + r - 1 - i = n + r - 1 - i + k by omega]
theorem ob_lin {K : Type} [Lean.Grind.CommRing K] {r : Nat} {c : Nat → K} (d : Nat) (a : Nat → K) (v : Nat → Nat → K) (h : ∀ i, i < d → ob r c (v i)) : ob r c (fun n => sm d (fun i => a i * v i n)) := by
  intro n
  show sm d (fun i => a i * v i (n + r)) = sm r (fun j => c j * sm d (fun i => a i * v i (n + r - 1 - j)))
  have h1 : sm d (fun i => a i * v i (n + r)) = sm d (fun i => sm r (fun j => a i * (c j * v i (n + r - 1 - j)))) := by
    refine sm_congr (fun i hi => ?_)
    rw [h i hi n, ← sm_mul]
  rw [h1, sm_swap]
  refine sm_congr (fun j hj => ?_)
  rw [← sm_mul]
  refine sm_congr (fun i hi => ?_)
  grind
theorem ob_sub {K : Type} [Lean.Grind.CommRing K] {r : Nat} {c s t : Nat → K} (h : ob r c s) (g : ob r c t) : ob r c (fun n => s n - t n) := by
  intro n
  show s (n + r) - t (n + r) = _
  rw [h n, g n, ← sm_sub]
  refine sm_congr (fun i hi => ?_)
  grind
/-- what a recurrence misses of a series is a series that obeys what the series obeys -/
theorem ob_ms {K : Type} [Lean.Grind.CommRing K] {B r : Nat} {cB c s : Nat → K} (h : ob B cB s) : ob B cB (ms_ r c s) := by
  have h1 : ob B cB (fun n => s (n + r)) := ob_shift h r
  have h2 : ob B cB (fun n => sm r (fun i => c i * s (n + (r - 1 - i)))) := ob_lin r c (fun i n => s (n + (r - 1 - i))) (fun i _ => ob_shift h _)
  have h3 := ob_sub h1 h2
  have e : ms_ r c s = (fun n => s (n + r) - sm r (fun i => c i * s (n + (r - 1 - i)))) := by
    funext n
    unfold ms_
    congr 1
    refine sm_congr (fun i hi => ?_)
    rw [show n + r - 1 - i = n + (r - 1 - i) by omega]
  rw [e]
  exact h3
theorem ob_check {K : Type} [Lean.Grind.CommRing K] {B r : Nat} {cB c s : Nat → K} (h : ob B cB s) (h0 : ∀ n, n < B → ms_ r c s n = 0) : ob r c s := ob_iff.mpr (ob_zero (ob_ms h) h0)
/-- a recurrence of an order may be read as one of a larger order, with zeros (its series shifted) -/
theorem ob_eq {K : Type} [Lean.Grind.CommRing K] {r : Nat} {c s t : Nat → K} (h : ob r c s) (g : ob r c t) (h0 : ∀ n, n < r → s n = t n) : ∀ n, s n = t n := by
  intro n
  have := ob_zero (ob_sub h g) (fun n hn => by rw [h0 n hn]; grind) n
  grind
