/-! Which series lie in the span of finitely many: the bounds of the makers -/
def In_ {K : Type} [Lean.Grind.CommRing K] (d : Nat) (v : Nat → Nat → K) (f : Nat → K) : Prop := ∃ a : Nat → K, ∀ n, f n = sm d (fun i => a i * v i n)
theorem In_.zero {K : Type} [Lean.Grind.CommRing K] {d : Nat} {v : Nat → Nat → K} {f : Nat → K} (h : ∀ n, f n = 0) : In_ d v f := ⟨fun _ => 0, fun n => by rw [h n]; exact (sm_zero (fun i _ => by grind)).symm⟩
theorem In_.self {K : Type} [Lean.Grind.CommRing K] {d i : Nat} {v : Nat → Nat → K} (hi : i < d) : In_ d v (v i) := ⟨fun j => if j = i then 1 else 0, fun n => by
  rw [sm_one (p := i) hi (fun j _ hj => by dsimp only; rw [if_neg hj]; grind)]
  dsimp only
  rw [if_pos rfl]
  grind⟩
theorem In_.add {K : Type} [Lean.Grind.CommRing K] {d : Nat} {v : Nat → Nat → K} {f g : Nat → K} (hf : In_ d v f) (hg : In_ d v g) : In_ d v (fun n => f n + g n) := by
  obtain ⟨a, ha⟩ := hf
  obtain ⟨b, hb⟩ := hg
  refine ⟨fun i => a i + b i, fun n => ?_⟩
  show f n + g n = _
  rw [ha n, hb n, ← sm_add]
  exact sm_congr (fun i _ => by grind)
theorem In_.mul {K : Type} [Lean.Grind.CommRing K] {d : Nat} {v : Nat → Nat → K} {f : Nat → K} (x : K) (hf : In_ d v f) : In_ d v (fun n => x * f n) := by
  obtain ⟨a, ha⟩ := hf
  refine ⟨fun i => x * a i, fun n => ?_⟩
  show x * f n = _
  rw [ha n, ← sm_mul]
  exact sm_congr (fun i _ => by grind)
theorem In_.congr {K : Type} [Lean.Grind.CommRing K] {d : Nat} {v : Nat → Nat → K} {f g : Nat → K} (hf : In_ d v f) (h : ∀ n, g n = f n) : In_ d v g := by
  obtain ⟨a, ha⟩ := hf
  exact ⟨a, fun n => (h n).trans (ha n)⟩
theorem In_.sum {K : Type} [Lean.Grind.CommRing K] {d : Nat} {v : Nat → Nat → K} (m : Nat) (c : Nat → K) (f : Nat → Nat → K) (h : ∀ i, i < m → In_ d v (f i)) : In_ d v (fun n => sm m (fun i => c i * f i n)) := by
  induction m with
  | zero => exact In_.zero (fun _ => rfl)
  | succ m ih => exact In_.add (ih (fun i hi => h i (by omega))) (In_.mul (c m) (h m (by omega)))
theorem In_.map {K : Type} [Lean.Grind.CommRing K] {d d' : Nat} {v v' : Nat → Nat → K} {f : Nat → K} (L : (Nat → K) → Nat → K) (hL : ∀ (m : Nat) (a : Nat → K) (w : Nat → Nat → K) (n : Nat), L (fun n => sm m (fun i => a i * w i n)) n = sm m (fun i => a i * L (w i) n)) (hv : ∀ i, i < d → In_ d' v' (L (v i))) (hf : In_ d v f) : In_ d' v' (L f) := by
  obtain ⟨a, ha⟩ := hf
  have e : f = fun n => sm d (fun i => a i * v i n) := funext ha
  rw [e]
  exact (In_.sum d a (fun i => L (v i)) hv).congr (fun n => hL d a v n)
/-- all that is in a span that its own shifts don't leave obeys a recurrence -/
theorem In_.obeys {K : Type} [Lean.Grind.CommRing K] (hI : ∀ x : K, x ≠ 0 → ∃ y, x * y = 1) {d : Nat} {v : Nat → Nat → K} {f : Nat → K} (hv : ∀ i, i < d → In_ d v (fun n => v i (n + 1))) (hf : In_ d v f) : ∃ r, r ≤ d ∧ ∃ c : Nat → K, ob r c f := by
  obtain ⟨a, ha⟩ := hf
  have hv' : ∀ i, ∃ w : Nat → K, i < d → ∀ n, v i (n + 1) = sm d (fun j => w j * v j n) := by
    intro i
    by_cases hi : i < d
    · obtain ⟨w, hw⟩ := hv i hi
      exact ⟨w, fun _ => hw⟩
    · exact ⟨fun _ => 0, fun h => absurd h hi⟩
  exact span_ hI d f a v (fun i => Classical.choose (hv' i)) ha (fun i hi n => Classical.choose_spec (hv' i) hi n)
/-- a series' own shifts -/
theorem In_.shifts {K : Type} [Lean.Grind.CommRing K] {r : Nat} {c s : Nat → K} (h : ob r c s) : ∀ k, In_ r (fun i n => s (n + i)) (fun n => s (n + k)) := by
  intro k
  induction k using Nat.strongRecOn with
  | _ k ih =>
    by_cases hk : k < r
    · exact In_.self (v := fun i n => s (n + i)) hk
    · refine (In_.sum (v := fun i n => s (n + i)) r c (fun i n => s (n + (k - 1 - i))) (fun i hi => ih (k - 1 - i) (by omega))).congr (fun n => ?_)
      have h1 := h (n + k - r)
      rw [show n + k - r + r = n + k by omega] at h1
      rw [h1]
      exact sm_congr (fun i hi => by rw [show n + k - 1 - i = n + (k - 1 - i) by omega])
/-- two families one behind the other -/
def un_ {K : Type} (d : Nat) (v v' : Nat → Nat → K) : Nat → Nat → K := fun i => if i < d then v i else v' (i - d)
theorem In_.left {K : Type} [Lean.Grind.CommRing K] {d d' : Nat} {v v' : Nat → Nat → K} {f : Nat → K} (hf : In_ d v f) : In_ (d + d') (un_ d v v') f := by
  obtain ⟨a, ha⟩ := hf
  refine (In_.sum d a v (fun i hi => ?_)).congr ha
  have := In_.self (d := d + d') (v := un_ d v v') (i := i) (by omega)
  unfold un_ at this ⊢
  rw [if_pos hi] at this
  exact this
theorem In_.right {K : Type} [Lean.Grind.CommRing K] {d d' : Nat} {v v' : Nat → Nat → K} {f : Nat → K} (hf : In_ d' v' f) : In_ (d + d') (un_ d v v') f := by
  obtain ⟨a, ha⟩ := hf
  refine (In_.sum d' a v' (fun i hi => ?_)).congr ha
  have := In_.self (d := d + d') (v := un_ d v v') (i := d + i) (by omega)
  unfold un_ at this ⊢
  rw [if_neg (by omega), show d + i - d = i by omega] at this
  exact this
theorem un_shift {K : Type} [Lean.Grind.CommRing K] {d d' e : Nat} {v v' w : Nat → Nat → K} (h : ∀ i, i < d → In_ e w (fun n => v i (n + 1))) (h' : ∀ i, i < d' → In_ e w (fun n => v' i (n + 1))) : ∀ i, i < d + d' → In_ e w (fun n => un_ d v v' i (n + 1)) := by
  intro i hi
  unfold un_
  by_cases h1 : i < d
  · rw [if_pos h1]; exact h i h1
  · rw [if_neg h1]; exact h' (i - d) (by omega)
section bd
/-- combine, and the difference of two -/
theorem bd_combine {K : Type} [Lean.Grind.CommRing K] (hI : ∀ x : K, x ≠ 0 → ∃ y, x * y = 1) {ra rb : Nat} {ca cb a b : Nat → K} (ha : ob ra ca a) (hb : ob rb cb b) (x y : K) : ∃ r, r ≤ ra + rb ∧ ∃ c : Nat → K, ob r c (fun n => x * a n + y * b n) := by
  refine In_.obeys hI (v := un_ ra (fun i n => a (n + i)) (fun i n => b (n + i))) ?_ (In_.add (In_.mul x ?_) (In_.mul y ?_))
  · refine un_shift (fun i hi => In_.left ?_) (fun i hi => In_.right ?_)
    · exact (In_.shifts ha (i + 1)).congr (fun n => by rw [show n + 1 + i = n + (i + 1) by omega])
    · exact (In_.shifts hb (i + 1)).congr (fun n => by rw [show n + 1 + i = n + (i + 1) by omega])
  · exact In_.left (In_.shifts ha 0)
  · exact In_.right (In_.shifts hb 0)
/-- the product of two as power series -/
def cv_ {K : Type} [Lean.Grind.CommRing K] (a b : Nat → K) (n : Nat) : K := sm (n + 1) (fun i => a i * b (n - i))
theorem cv_lin {K : Type} [Lean.Grind.CommRing K] (b : Nat → K) (m : Nat) (a : Nat → K) (w : Nat → Nat → K) (n : Nat) : cv_ (fun n => sm m (fun i => a i * w i n)) b n = sm m (fun i => a i * cv_ (w i) b n) := by
  unfold cv_
  have h1 : sm (n + 1) (fun i => sm m (fun j => a j * w j i) * b (n - i)) = sm (n + 1) (fun i => sm m (fun j => a j * w j i * b (n - i))) := sm_congr (fun i hi => (sm_mulr m (b (n - i)) (fun j => a j * w j i)).symm)
  rw [h1, sm_swap]
  refine sm_congr (fun j hj => ?_)
  rw [← sm_mul]
  exact sm_congr (fun i hi => by grind)
theorem cv_shift {K : Type} [Lean.Grind.CommRing K] (a b : Nat → K) (n : Nat) : cv_ a b (n + 1) = a 0 * b (n + 1) + cv_ (fun n => a (n + 1)) b n := by
  unfold cv_
  rw [sm_head, Nat.sub_zero]
  congr 1
  exact sm_congr (fun i hi => by rw [show n + 1 - (i + 1) = n - i by omega])
theorem bd_product {K : Type} [Lean.Grind.CommRing K] (hI : ∀ x : K, x ≠ 0 → ∃ y, x * y = 1) {ra rb : Nat} {ca cb a b : Nat → K} (ha : ob ra ca a) (hb : ob rb cb b) : ∃ r, r ≤ ra + rb ∧ ∃ c : Nat → K, ob r c (cv_ a b) := by
  have hm : ∀ k, In_ ra (fun i => cv_ (fun n => a (n + i)) b) (cv_ (fun n => a (n + k)) b) := fun k =>
    In_.map (fun f => cv_ f b) (fun m a w n => cv_lin b m a w n) (fun i hi => In_.self (v := fun i => cv_ (fun n => a (n + i)) b) hi) (In_.shifts ha k)
  refine In_.obeys hI (v := un_ ra (fun i => cv_ (fun n => a (n + i)) b) (fun i n => b (n + i))) ?_ (In_.left (hm 0))
  refine un_shift (fun i hi => ?_) (fun i hi => In_.right ?_)
  · refine (In_.add (In_.mul (a i) (In_.right (In_.shifts hb 1))) (In_.left (hm (i + 1)))).congr (fun n => ?_)
    rw [cv_shift]
    have e : (fun n => a (n + 1 + i)) = (fun n => a (n + (i + 1))) := funext (fun n => by rw [show n + 1 + i = n + (i + 1) by omega])
    rw [e, Nat.zero_add]
  · exact (In_.shifts hb (i + 1)).congr (fun n => by rw [show n + 1 + i = n + (i + 1) by omega])
theorem sm_prod {K : Type} [Lean.Grind.CommRing K] (m n : Nat) (f : Nat → K) : sm (m * n) f = sm m (fun i => sm n (fun j => f (i * n + j))) := by
  induction m with
  | zero => rw [Nat.zero_mul]; rfl
  | succ m ih => rw [Nat.succ_mul, sm_split, ih, sm_s]
theorem bd_pairwise {K : Type} [Lean.Grind.CommRing K] (hI : ∀ x : K, x ≠ 0 → ∃ y, x * y = 1) {ra rb : Nat} {ca cb a b : Nat → K} (ha : ob ra ca a) (hb : ob rb cb b) : ∃ r, r ≤ ra * rb ∧ ∃ c : Nat → K, ob r c (fun n => a n * b n) := by
  have hm : ∀ k l, In_ (ra * rb) (fun t n => a (n + t / rb) * b (n + t % rb)) (fun n => a (n + k) * b (n + l)) := by
    intro k l
    obtain ⟨x, hx⟩ := In_.shifts ha k
    obtain ⟨y, hy⟩ := In_.shifts hb l
    refine ⟨fun t => x (t / rb) * y (t % rb), fun n => ?_⟩
    rw [sm_prod]
    have hx' : a (n + k) = sm ra (fun i => x i * a (n + i)) := hx n
    have hy' : b (n + l) = sm rb (fun i => y i * b (n + i)) := hy n
    show a (n + k) * b (n + l) = _
    rw [hx', hy', ← sm_mulr]
    refine sm_congr (fun i hi => ?_)
    rw [← sm_mul]
    refine sm_congr (fun j hj => ?_)
    have h1 : (i * rb + j) / rb = i := by
      rw [Nat.mul_comm, Nat.mul_add_div (by omega), Nat.div_eq_of_lt hj, Nat.add_zero]
    have h2 : (i * rb + j) % rb = j := by
      rw [Nat.mul_comm, Nat.mul_add_mod, Nat.mod_eq_of_lt hj]
    dsimp only
    rw [h1, h2]
    grind
  refine In_.obeys hI (v := fun t n => a (n + t / rb) * b (n + t % rb)) (fun i hi => ?_) (hm 0 0)
  exact (hm (i / rb + 1) (i % rb + 1)).congr (fun n => by rw [show n + 1 + i / rb = n + (i / rb + 1) by omega, show n + 1 + i % rb = n + (i % rb + 1) by omega])
theorem bd_derivative {K : Type} [Lean.Grind.CommRing K] (hI : ∀ x : K, x ≠ 0 → ∃ y, x * y = 1) (ι : Nat → K) (hι : ∀ n, ι (n + 1) = ι n + 1) {r : Nat} {c a : Nat → K} (ha : ob r c a) : ∃ r', r' ≤ r + r ∧ ∃ c : Nat → K, ob r' c (fun n => ι (n + 1) * a (n + 1)) := by
  have hm : ∀ k, In_ r (fun i n => ι n * a (n + i)) (fun n => ι n * a (n + k)) := fun k => by
    obtain ⟨x, hx⟩ := In_.shifts ha k
    refine ⟨x, fun n => ?_⟩
    have hx' : a (n + k) = sm r (fun i => x i * a (n + i)) := hx n
    show ι n * a (n + k) = _
    rw [hx', ← sm_mul]
    exact sm_congr (fun i hi => by grind)
  have hs : ∀ k, In_ (r + r) (un_ r (fun i n => a (n + i)) (fun i n => ι n * a (n + i))) (fun n => ι (n + 1) * a (n + 1 + k)) := fun k => by
    refine (In_.add (In_.left (In_.shifts ha (k + 1))) (In_.right (hm (k + 1)))).congr (fun n => ?_)
    rw [hι n, show n + 1 + k = n + (k + 1) by omega]
    grind
  refine In_.obeys hI (v := un_ r (fun i n => a (n + i)) (fun i n => ι n * a (n + i))) ?_ (hs 0)
  refine un_shift (fun i hi => In_.left ?_) (fun i hi => hs i)
  exact (In_.shifts ha (i + 1)).congr (fun n => by rw [show n + 1 + i = n + (i + 1) by omega])
theorem bd_section {K : Type} [Lean.Grind.CommRing K] (hI : ∀ x : K, x ≠ 0 → ∃ y, x * y = 1) {r : Nat} {c a : Nat → K} (ha : ob r c a) (m i : Nat) : ∃ r', r' ≤ r ∧ ∃ c : Nat → K, ob r' c (fun n => a (m * n + i)) := by
  have hm : ∀ k, In_ r (fun j n => a (m * n + j)) (fun n => a (m * n + k)) := fun k => by
    obtain ⟨x, hx⟩ := In_.shifts ha k
    exact ⟨x, fun n => hx (m * n)⟩
  refine In_.obeys hI (v := fun j n => a (m * n + j)) (fun j hj => ?_) (hm i)
  exact (hm (m + j)).congr (fun n => by rw [show m * (n + 1) + j = m * n + (m + j) by rw [Nat.mul_succ]; omega])
theorem bd_delay {K : Type} [Lean.Grind.CommRing K] (hI : ∀ x : K, x ≠ 0 → ∃ y, x * y = 1) {r : Nat} {c a s : Nat → K} (ha : ob r c a) (hs : ∀ n, s (n + 1) = a n) : ∃ r', r' ≤ r + 1 ∧ ∃ c : Nat → K, ob r' c s := by
  refine In_.obeys hI (v := un_ r (fun i n => a (n + i)) (fun _ n => s n)) ?_ (In_.right ⟨fun _ => 1, fun n => ?_⟩)
  · refine un_shift (fun i hi => In_.left ?_) (fun i hi => In_.left ?_)
    · exact (In_.shifts ha (i + 1)).congr (fun n => by rw [show n + 1 + i = n + (i + 1) by omega])
    · exact (In_.shifts ha 0).congr (fun n => hs n)
  · rw [show (1 : Nat) = 0 + 1 from rfl, sm_s, sm_0]
    grind
theorem bd_sums {K : Type} [Lean.Grind.CommRing K] (hI : ∀ x : K, x ≠ 0 → ∃ y, x * y = 1) {r : Nat} {c a : Nat → K} (ha : ob r c a) : ∃ r', r' ≤ r + 1 ∧ ∃ c : Nat → K, ob r' c (fun n => sm (n + 1) a) := by
  have h1 : In_ (r + 1) (un_ r (fun i n => a (n + i)) (fun _ n => sm (n + 1) a)) (fun n => sm (n + 1) a) := In_.right ⟨fun _ => 1, fun n => by
    rw [show (1 : Nat) = 0 + 1 from rfl, sm_s (n := 0), sm_0]
    grind⟩
  refine In_.obeys hI (v := un_ r (fun i n => a (n + i)) (fun _ n => sm (n + 1) a)) ?_ h1
  refine un_shift (fun i hi => In_.left ?_) (fun i hi => ?_)
  · exact (In_.shifts ha (i + 1)).congr (fun n => by rw [show n + 1 + i = n + (i + 1) by omega])
  · exact (In_.add h1 (In_.left (In_.shifts ha 1))).congr (fun n => sm_s (n + 1) a)
theorem bd_spread {K : Type} [Lean.Grind.CommRing K] {r : Nat} {c a : Nat → K} (ha : ob r c a) (m : Nat) (hm : 0 < m) : ∃ c' : Nat → K, ob (r * m) c' (fun n => if n % m = 0 then a (n / m) else 0) := by
  refine ⟨fun j => if (j + 1) % m = 0 then c ((j + 1) / m - 1) else 0, fun n => ?_⟩
  show (if (n + r * m) % m = 0 then a ((n + r * m) / m) else 0) = _
  rw [Nat.add_mul_mod_self_right, Nat.add_mul_div_right _ _ hm, sm_prod]
  by_cases hn : n % m = 0
  · rw [if_pos hn, ha (n / m)]
    refine sm_congr (fun i hi => ?_)
    rw [sm_one (p := m - 1) (by omega)]
    · have e1 : i * m + (m - 1) + 1 = (i + 1) * m := by rw [Nat.succ_mul]; omega
      have hle : (i + 1) * m ≤ r * m := Nat.mul_le_mul_right m hi
      have e2 : n + r * m - 1 - (i * m + (m - 1)) = n + (r - 1 - i) * m := by
        have e3 : r * m = (r - 1 - i) * m + (i + 1) * m := by rw [← Nat.add_mul]; congr 1; omega
        omega
      dsimp only
      rw [e1, Nat.mul_mod_left, if_pos rfl, Nat.mul_div_cancel _ hm, e2, Nat.add_mul_mod_self_right, if_pos hn, Nat.add_mul_div_right _ _ hm]
      have e5 : ∀ z : Nat, z + r - 1 - i = z + (r - 1 - i) := fun z => by omega
      rw [show i + 1 - 1 = i by omega, e5]
    · intro j hj hne
      dsimp only
      rw [show i * m + j + 1 = j + 1 + i * m by omega, Nat.add_mul_mod_self_right, Nat.mod_eq_of_lt (show j + 1 < m by omega), if_neg (by omega)]
      grind
  · rw [if_neg hn]
    refine (sm_zero (fun i hi => sm_zero (fun j hj => ?_))).symm
    by_cases hjm : j = m - 1
    · subst hjm
      have e1 : i * m + (m - 1) + 1 = (i + 1) * m := by rw [Nat.succ_mul]; omega
      have hle : (i + 1) * m ≤ r * m := Nat.mul_le_mul_right m hi
      have e2 : n + r * m - 1 - (i * m + (m - 1)) = n + (r - 1 - i) * m := by
        have e3 : r * m = (r - 1 - i) * m + (i + 1) * m := by rw [← Nat.add_mul]; congr 1; omega
        omega
      dsimp only
      rw [e2, Nat.add_mul_mod_self_right, if_neg hn]
      grind
    · dsimp only
      rw [show i * m + j + 1 = j + 1 + i * m by omega, Nat.add_mul_mod_self_right, Nat.mod_eq_of_lt (show j + 1 < m by omega), if_neg (by omega)]
      grind
end bd
