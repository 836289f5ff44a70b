/-! Products of power series; Bostan's and Mori's way -/
theorem cv_comm {K : Type} [Lean.Grind.CommRing K] (a b : Nat → K) (n : Nat) : cv_ a b n = cv_ b a n := by
  unfold cv_
  rw [sm_rev]
  refine sm_congr (fun i hi => ?_)
  rw [show n + 1 - 1 - i = n - i by omega, show n - (n - i) = i by omega]
  grind
theorem cv_congr {K : Type} [Lean.Grind.CommRing K] {a a' b b' : Nat → K} {n : Nat} (h : ∀ i, i ≤ n → a i = a' i) (g : ∀ i, i ≤ n → b i = b' i) : cv_ a b n = cv_ a' b' n :=
  sm_congr (fun i hi => by rw [h i (by omega), g (n - i) (by omega)])
theorem cv_assoc {K : Type} [Lean.Grind.CommRing K] (a b c : Nat → K) (n : Nat) : cv_ (cv_ a b) c n = cv_ a (cv_ b c) n := by
  have h1 : cv_ (cv_ a b) c n = sm (n + 1) (fun k => sm (k + 1) (fun i => (fun i j => a i * (b j * c (n - i - j))) i (k - i))) := by
    refine sm_congr (fun k hk => ?_)
    show cv_ a b k * c (n - k) = _
    unfold cv_
    rw [← sm_mulr]
    refine sm_congr (fun i hi => ?_)
    show a i * b (k - i) * c (n - k) = a i * (b (k - i) * c (n - i - (k - i)))
    rw [show n - i - (k - i) = n - k by omega]
    grind
  rw [h1, sm_tri (n + 1) (fun i j => a i * (b j * c (n - i - j)))]
  refine sm_congr (fun i hi => ?_)
  show sm (n + 1 - i) (fun j => a i * (b j * c (n - i - j))) = a i * cv_ b c (n - i)
  unfold cv_
  rw [sm_mul, show n + 1 - i = n - i + 1 by omega]
theorem cv_add {K : Type} [Lean.Grind.CommRing K] (a b c : Nat → K) (n : Nat) : cv_ (fun i => a i + b i) c n = cv_ a c n + cv_ b c n := by
  unfold cv_
  rw [← sm_add]
  exact sm_congr (fun i hi => by grind)
theorem cv_sub {K : Type} [Lean.Grind.CommRing K] (a b c : Nat → K) (n : Nat) : cv_ (fun i => a i - b i) c n = cv_ a c n - cv_ b c n := by
  unfold cv_
  rw [← sm_sub]
  exact sm_congr (fun i hi => by grind)
theorem sm_two {K : Type} [Lean.Grind.CommRing K] (m : Nat) (f : Nat → K) : sm (2 * m) f = sm m (fun j => f (2 * j) + f (2 * j + 1)) := by
  induction m with
  | zero => rfl
  | succ m ih =>
    rw [show 2 * (m + 1) = 2 * m + 1 + 1 by omega, sm_s, sm_s, ih, sm_s]
    grind
/-- the polynomial at -x -/
def mi_ {K : Type} [Lean.Grind.CommRing K] (b : Nat → K) : Nat → K := fun i => if i % 2 = 0 then b i else - b i
theorem mi_odd {K : Type} [Lean.Grind.CommRing K] (h2 : ∀ x : K, x + x = 0 → x = 0) (b : Nat → K) (k : Nat) : cv_ b (mi_ b) (2 * k + 1) = 0 := by
  refine h2 _ ?_
  have e1 : cv_ b (mi_ b) (2 * k + 1) = sm (2 * k + 1 + 1) (fun i => b i * mi_ b (2 * k + 1 - i)) := rfl
  have e2 : cv_ b (mi_ b) (2 * k + 1) = sm (2 * k + 1 + 1) (fun i => b (2 * k + 1 - i) * mi_ b i) := by
    rw [e1, sm_rev]
    refine sm_congr (fun i hi => ?_)
    rw [show 2 * k + 1 + 1 - 1 - i = 2 * k + 1 - i by omega, show 2 * k + 1 - (2 * k + 1 - i) = i by omega]
  have e3 : sm (2 * k + 1 + 1) (fun i => b i * mi_ b (2 * k + 1 - i)) + sm (2 * k + 1 + 1) (fun i => b (2 * k + 1 - i) * mi_ b i) = 0 := by
    rw [← sm_add]
    refine sm_zero (fun i hi => ?_)
    unfold mi_
    by_cases hp : i % 2 = 0
    · rw [if_neg (show ¬ (2 * k + 1 - i) % 2 = 0 by omega), if_pos hp]
      grind
    · rw [if_pos (show (2 * k + 1 - i) % 2 = 0 by omega), if_neg hp]
      grind
  rw [← e1, ← e2] at e3
  exact e3
theorem bm_half {K : Type} [Lean.Grind.CommRing K] (h2 : ∀ x : K, x + x = 0 → x = 0) (b t u : Nat → K) (h : ∀ n, cv_ b u n = t n) (par : Nat) (hp : par < 2) : ∀ n, cv_ (fun i => cv_ b (mi_ b) (2 * i)) (fun i => u (2 * i + par)) n = cv_ t (mi_ b) (2 * n + par) := by
  intro n
  have e1 : cv_ t (mi_ b) (2 * n + par) = cv_ (cv_ b (mi_ b)) u (2 * n + par) := by
    have et : t = cv_ b u := (funext h).symm
    have eb : cv_ b u = cv_ u b := funext (cv_comm b u)
    rw [et, eb, cv_assoc, cv_comm]
  rw [e1]
  show sm (n + 1) (fun i => cv_ b (mi_ b) (2 * i) * u (2 * (n - i) + par)) = sm (2 * n + par + 1) (fun i => cv_ b (mi_ b) i * u (2 * n + par - i))
  have e2 : sm (2 * (n + 1)) (fun i => cv_ b (mi_ b) i * u (2 * n + par - i)) = sm (n + 1) (fun i => cv_ b (mi_ b) (2 * i) * u (2 * (n - i) + par)) := by
    rw [sm_two]
    refine sm_congr (fun i hi => ?_)
    rw [mi_odd h2, show 2 * n + par - 2 * i = 2 * (n - i) + par by omega]
    grind
  rw [← e2]
  by_cases hp0 : par = 0
  · subst hp0
    rw [show 2 * (n + 1) = 2 * n + 0 + 1 + 1 by omega, sm_s, show 2 * n + 0 + 1 = 2 * n + 1 by omega, mi_odd h2]
    grind
  · rw [show 2 * (n + 1) = 2 * n + par + 1 by omega]
/-- a product of two rows, of which one ends at d and the other at e, is cut there -/
theorem cv_range {K : Type} [Lean.Grind.CommRing K] {a b : Nat → K} {d n : Nat} (ha : ∀ i, d < i → a i = 0) (hb : ∀ i, d < i → b i = 0) : cv_ a b n = sm (min d n + 1 - (n - d)) (fun i => a (n - d + i) * b (n - (n - d + i))) := by
  unfold cv_
  by_cases h1 : n ≤ d
  · have : n - d = 0 := by omega
    rw [this, show min d n + 1 - 0 = n + 1 by omega]
    exact sm_congr (fun i hi => by rw [Nat.zero_add])
  · obtain ⟨e, rfl⟩ : ∃ e, n = d + e := ⟨n - d, by omega⟩
    rw [show d + e - d = e by omega, show min d (d + e) = d by omega]
    by_cases he : e ≤ d + 1
    · rw [show d + e + 1 = e + (d + 1 - e + e) by omega, sm_split, sm_split (d + 1 - e) e]
      rw [sm_zero (n := e) (f := fun i => a i * b (d + e - i)) (fun i hi => by rw [hb _ (by omega)]; grind)]
      rw [sm_zero (n := e) (f := fun i => a (e + (d + 1 - e + i)) * b (d + e - (e + (d + 1 - e + i)))) (fun i hi => by rw [ha _ (by omega)]; grind)]
      grind
    · rw [show d + 1 - e = 0 by omega, sm_0]
      refine sm_zero (fun i hi => ?_)
      by_cases hi : d < i
      · rw [ha i hi]; grind
      · rw [hb _ (by omega)]; grind
theorem cv_high {K : Type} [Lean.Grind.CommRing K] {a b : Nat → K} {d n : Nat} (ha : ∀ i, d < i → a i = 0) (hb : ∀ i, d < i → b i = 0) (hn : 2 * d < n) : cv_ a b n = 0 := by
  refine sm_zero (fun i hi => ?_)
  by_cases hi : d < i
  · rw [ha i hi]; grind
  · rw [hb _ (by omega)]; grind
