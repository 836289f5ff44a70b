/-! Dependence, spans, least orders: in a ring where each x that is not 0 has an inverse -/
theorem lst_ {P : Nat → Prop} (h : ∃ n, P n) : ∃ n, P n ∧ ∀ m, m < n → ¬ P m := by
  obtain ⟨n, hn⟩ := h
  induction n using Nat.strongRecOn with
  | _ n ih =>
    by_cases hm : ∃ m, m < n ∧ P m
    · obtain ⟨m, h1, h2⟩ := hm
      exact ih m h1 h2
    · exact ⟨n, hn, fun m h1 h2 => hm ⟨m, h1, h2⟩⟩
theorem dep_ {K : Type} [Lean.Grind.CommRing K] (hI : ∀ x : K, x ≠ 0 → ∃ y, x * y = 1) (d : Nat) : ∀ x : Nat → Nat → K, ∃ r, r ≤ d ∧ ∃ c : Nat → K, ∀ i, i < d → x r i = sm r (fun j => c j * x j i) := by
  induction d with
  | zero => intro x; exact ⟨0, Nat.le_refl 0, fun _ => 0, fun i hi => by omega⟩
  | succ d ih =>
    intro x
    by_cases hz : ∀ k, k ≤ d → x k d = 0
    · obtain ⟨r, hr, c, hc⟩ := ih x
      refine ⟨r, by omega, c, fun i hi => ?_⟩
      by_cases hid : i = d
      · subst hid
        rw [hz r hr]
        refine (sm_zero (fun j hj => ?_)).symm
        rw [hz j (by omega)]
        grind
      · exact hc i (by omega)
    · have hex : ∃ p, p ≤ d ∧ x p d ≠ 0 := by
        refine Classical.byContradiction (fun hno => hz (fun k hk => ?_))
        exact Classical.byContradiction (fun hk0 => hno ⟨k, hk, hk0⟩)
      obtain ⟨p, ⟨hpd, hp⟩, hlst⟩ := lst_ hex
      have hlow : ∀ k, k < p → x k d = 0 := fun k hk => Classical.byContradiction (fun h0 => hlst k hk ⟨by omega, h0⟩)
      obtain ⟨w, hw⟩ := hI _ hp
      obtain ⟨r, hr, c, hc⟩ := ih (fun k i => if k < p then x k i else x (k + 1) i - x (k + 1) d * w * x p i)
      have hc2 : ∀ i, i < d + 1 → (if r < p then x r i else x (r + 1) i - x (r + 1) d * w * x p i) = sm r (fun j => c j * (if j < p then x j i else x (j + 1) i - x (j + 1) d * w * x p i)) := by
        intro i hi
        by_cases hid : i = d
        · subst hid
          have hk : ∀ k, (if k < p then x k i else x (k + 1) i - x (k + 1) i * w * x p i) = 0 := by
            intro k
            by_cases hkp : k < p
            · rw [if_pos hkp]; exact hlow k hkp
            · rw [if_neg hkp]; grind
          rw [hk r]
          refine (sm_zero (fun j hj => ?_)).symm
          rw [hk j]
          grind
        · exact hc i (by omega)
      by_cases hrp : r < p
      · refine ⟨r, by omega, c, fun i hi => ?_⟩
        have h1 := hc2 i hi
        rw [if_pos hrp] at h1
        rw [h1]
        refine sm_congr (fun j hj => ?_)
        rw [if_pos (by omega)]
      · obtain ⟨e, rfl⟩ : ∃ e, r = p + e := ⟨r - p, by omega⟩
        refine ⟨p + e + 1, by omega, fun j => if j < p then c j else if j = p then x (p + e + 1) d * w - sm e (fun t => c (p + t) * (x (p + t + 1) d * w)) else c (j - 1), fun i hi => ?_⟩
        have h1 := hc2 i hi
        rw [if_neg (by omega), sm_split] at h1
        have h2 : sm p (fun j => c j * (if j < p then x j i else x (j + 1) i - x (j + 1) d * w * x p i)) = sm p (fun j => c j * x j i) := sm_congr (fun j hj => by rw [if_pos hj])
        have h3 : sm e (fun t => c (p + t) * (if p + t < p then x (p + t) i else x (p + t + 1) i - x (p + t + 1) d * w * x p i)) = sm e (fun t => c (p + t) * x (p + t + 1) i) - sm e (fun t => c (p + t) * (x (p + t + 1) d * w)) * x p i := by
          rw [← sm_mulr, ← sm_sub]
          refine sm_congr (fun t ht => ?_)
          rw [if_neg (by omega)]
          grind
        rw [h2, h3] at h1
        rw [show p + e + 1 = p + (1 + e) by omega, sm_split, sm_split (n := 1)]
        have h4 : sm p (fun j => (if j < p then c j else if j = p then x (p + (1 + e)) d * w - sm e (fun t => c (p + t) * (x (p + t + 1) d * w)) else c (j - 1)) * x j i) = sm p (fun j => c j * x j i) := sm_congr (fun j hj => by rw [if_pos hj])
        have h5 : sm e (fun t => (if p + (1 + t) < p then c (p + (1 + t)) else if p + (1 + t) = p then x (p + (1 + e)) d * w - sm e (fun t => c (p + t) * (x (p + t + 1) d * w)) else c (p + (1 + t) - 1)) * x (p + (1 + t)) i) = sm e (fun t => c (p + t) * x (p + t + 1) i) := by
          refine sm_congr (fun t ht => ?_)
          rw [if_neg (by omega), if_neg (by omega), show p + (1 + t) - 1 = p + t by omega, show p + (1 + t) = p + t + 1 by omega]
        have h6 : sm 1 (fun t => (if p + t < p then c (p + t) else if p + t = p then x (p + (1 + e)) d * w - sm e (fun t => c (p + t) * (x (p + t + 1) d * w)) else c (p + t - 1)) * x (p + t) i) = (x (p + (1 + e)) d * w - sm e (fun t => c (p + t) * (x (p + t + 1) d * w))) * x p i := by
          rw [show (1 : Nat) = 0 + 1 from rfl, sm_s, sm_0, if_neg (by omega), if_pos (by omega)]
          simp only [Nat.add_zero]
          grind
        rw [h4, h5, h6]
        rw [show p + (1 + e) = p + e + 1 by omega]
        grind
/-- coordinates of the shifts -/
def cx_ {K : Type} [Lean.Grind.CommRing K] (d : Nat) (a : Nat → K) (Mx : Nat → Nat → K) : Nat → Nat → K
  | 0, j => a j
  | k + 1, j => sm d (fun i => cx_ d a Mx k i * Mx i j)
theorem span_ {K : Type} [Lean.Grind.CommRing K] (hI : ∀ x : K, x ≠ 0 → ∃ y, x * y = 1) (d : Nat) (s a : Nat → K) (v Mx : Nat → Nat → K) (hs : ∀ n, s n = sm d (fun i => a i * v i n)) (hM : ∀ i, i < d → ∀ n, v i (n + 1) = sm d (fun j => Mx i j * v j n)) : ∃ r, r ≤ d ∧ ∃ c : Nat → K, ob r c s := by
  have key : ∀ k n, s (n + k) = sm d (fun i => cx_ d a Mx k i * v i n) := by
    intro k
    induction k with
    | zero => intro n; exact hs n
    | succ k ih =>
      intro n
      rw [show n + (k + 1) = (n + 1) + k by omega, ih (n + 1)]
      have h1 : sm d (fun i => cx_ d a Mx k i * v i (n + 1)) = sm d (fun i => sm d (fun j => cx_ d a Mx k i * (Mx i j * v j n))) := by
        refine sm_congr (fun i hi => ?_)
        rw [hM i hi n, ← sm_mul]
      rw [h1, sm_swap]
      refine sm_congr (fun j hj => ?_)
      show _ = sm d (fun i => cx_ d a Mx k i * Mx i j) * v j n
      rw [← sm_mulr]
      refine sm_congr (fun i hi => ?_)
      grind
  obtain ⟨r, hr, c, hc⟩ := dep_ hI d (cx_ d a Mx)
  have key2 : ∀ n i, i < d → cx_ d a Mx (n + r) i = sm r (fun j => c j * cx_ d a Mx (n + j) i) := by
    intro n
    induction n with
    | zero =>
      intro i hi
      rw [Nat.zero_add, hc i hi]
      exact sm_congr (fun j hj => by rw [Nat.zero_add])
    | succ n ih =>
      intro i hi
      rw [show n + 1 + r = (n + r) + 1 by omega]
      show sm d (fun i' => cx_ d a Mx (n + r) i' * Mx i' i) = _
      have h1 : sm d (fun i' => cx_ d a Mx (n + r) i' * Mx i' i) = sm d (fun i' => sm r (fun j => c j * cx_ d a Mx (n + j) i' * Mx i' i)) := by
        refine sm_congr (fun i' hi' => ?_)
        rw [ih i' hi', ← sm_mulr]
      rw [h1, sm_swap]
      refine sm_congr (fun j hj => ?_)
      rw [show n + 1 + j = (n + j) + 1 by omega]
      show _ = c j * sm d (fun i' => cx_ d a Mx (n + j) i' * Mx i' i)
      rw [← sm_mul]
      refine sm_congr (fun i' hi' => ?_)
      grind
  refine ⟨r, hr, fun i => c (r - 1 - i), fun n => ?_⟩
  have h1 := key (n + r) 0
  rw [Nat.zero_add] at h1
  have h2 : sm d (fun i => cx_ d a Mx (n + r) i * v i 0) = sm d (fun i => sm r (fun j => c j * cx_ d a Mx (n + j) i * v i 0)) := by
    refine sm_congr (fun i hi => ?_)
    rw [key2 n i hi, ← sm_mulr]
  rw [h1, h2, sm_swap, sm_rev r (fun i => c (r - 1 - i) * s (n + r - 1 - i))]
  refine sm_congr (fun j hj => ?_)
  have h3 := key (n + j) 0
  rw [Nat.zero_add] at h3
  rw [show r - 1 - (r - 1 - j) = j by omega, show n + r - 1 - (r - 1 - j) = n + j by omega, h3, ← sm_mul]
  refine sm_congr (fun i hi => ?_)
  grind
/-- least orders -/
def lo_ {K : Type} [Lean.Grind.CommRing K] (s : Nat → K) (R : Nat) (c : Nat → K) : Prop := ob R c s ∧ ∀ (r : Nat) (c' : Nat → K), r < R → ¬ ob r c' s
theorem lo_ex {K : Type} [Lean.Grind.CommRing K] {s : Nat → K} {B : Nat} (h : ∃ r, r ≤ B ∧ ∃ c : Nat → K, ob r c s) : ∃ R, R ≤ B ∧ ∃ c, lo_ s R c := by
  obtain ⟨r, hr, c, hc⟩ := h
  obtain ⟨R, ⟨cR, hR⟩, hl⟩ := lst_ (P := fun r => ∃ c : Nat → K, ob r c s) ⟨r, c, hc⟩
  refine ⟨R, ?_, cR, hR, fun r' c' h1 h2 => hl r' h1 ⟨c', h2⟩⟩
  refine Nat.le_trans ?_ hr
  exact Nat.le_of_not_lt (fun h => hl r h ⟨c, hc⟩)
theorem lo_uniq {K : Type} [Lean.Grind.CommRing K] (hI : ∀ x : K, x ≠ 0 → ∃ y, x * y = 1) {s : Nat → K} {R : Nat} {c c' : Nat → K} (h : lo_ s R c) (h' : ob R c' s) : ∀ i, i < R → c i = c' i := by
  refine fun i hi => Classical.byContradiction (fun hne => ?_)
  obtain ⟨p, ⟨hp, hpne⟩, hlst⟩ := lst_ (P := fun i => i < R ∧ c i ≠ c' i) ⟨i, hi, hne⟩
  have hlow : ∀ k, k < p → c k = c' k := fun k hk => Classical.byContradiction (fun h0 => hlst k hk ⟨by omega, h0⟩)
  have hd : c p - c' p ≠ 0 := fun h0 => hpne (by grind)
  obtain ⟨w, hw⟩ := hI _ hd
  obtain ⟨e, rfl⟩ : ∃ e, R = p + (1 + e) := ⟨R - p - 1, by omega⟩
  refine h.2 e (fun t => - (w * (c (p + (1 + t)) - c' (p + (1 + t))))) (by omega) (fun n => ?_)
  have h1 := h.1 n
  have h2 := h' n
  rw [sm_split, sm_split (n := 1)] at h1 h2
  have h3 : sm p (fun i => c i * s (n + (p + (1 + e)) - 1 - i)) = sm p (fun i => c' i * s (n + (p + (1 + e)) - 1 - i)) := sm_congr (fun i hi => by rw [hlow i hi])
  have h4 : sm e (fun t => - (w * (c (p + (1 + t)) - c' (p + (1 + t)))) * s (n + e - 1 - t)) = - (w * (sm e (fun t => c (p + (1 + t)) * s (n + (p + (1 + e)) - 1 - (p + (1 + t)))) - sm e (fun t => c' (p + (1 + t)) * s (n + (p + (1 + e)) - 1 - (p + (1 + t)))))) := by
    rw [← sm_sub, ← sm_mul, ← sm_neg]
    refine sm_congr (fun t ht => ?_)
    rw [show n + (p + (1 + e)) - 1 - (p + (1 + t)) = n + e - 1 - t by omega]
    grind
  have h5 : ∀ f : Nat → K, sm 1 (fun i => f (p + i) * s (n + (p + (1 + e)) - 1 - (p + i))) = f p * s (n + e) := by
    intro f
    rw [show (1 : Nat) = 0 + 1 from rfl, sm_s, sm_0, Nat.add_zero, show n + (p + (0 + 1 + e)) - (0 + 1) - p = n + e by omega]
    grind
  rw [h5 c] at h1
  rw [h5 c'] at h2
  rw [h4]
  rw [h1, h3] at h2
  grind
