/-! Polynomials: rows that end; what they do to series -/
def sz_ {K : Type} [Lean.Grind.CommRing K] (f : Nat → K) (k : Nat) : Prop := ∀ i, k ≤ i → f i = 0
theorem sz_mono {K : Type} [Lean.Grind.CommRing K] {f : Nat → K} {k l : Nat} (h : sz_ f k) (hl : k ≤ l) : sz_ f l := fun i hi => h i (by omega)
theorem sz_cv {K : Type} [Lean.Grind.CommRing K] {f g : Nat → K} {a b : Nat} (hf : sz_ f (a + 1)) (hg : sz_ g (b + 1)) : sz_ (cv_ f g) (a + b + 1) ∧ cv_ f g (a + b) = f a * g b := by
  refine ⟨fun n hn => sm_zero (fun i hi => ?_), ?_⟩
  · by_cases hia : a + 1 ≤ i
    · rw [hf i hia]; grind
    · rw [hg (n - i) (by omega)]; grind
  · unfold cv_
    rw [sm_one (p := a) (by omega)]
    · rw [show a + b - a = b by omega]
    · intro i hi hne
      by_cases hia : a + 1 ≤ i
      · rw [hf i hia]; grind
      · rw [hg (a + b - i) (by omega)]; grind
theorem sz_cv0 {K : Type} [Lean.Grind.CommRing K] {f g : Nat → K} {a b : Nat} (hf : sz_ f a) (hg : sz_ g b) : sz_ (cv_ f g) (a + b) := fun n hn => sm_zero (fun i hi => by
  by_cases hia : a ≤ i
  · rw [hf i hia]; grind
  · rw [hg (n - i) (by omega)]; grind)
theorem sz_top {K : Type} [Lean.Grind.CommRing K] {f : Nat → K} {k : Nat} (h : sz_ f k) : (∀ i, f i = 0) ∨ ∃ t, t < k ∧ f t ≠ 0 ∧ sz_ f (t + 1) := by
  induction k with
  | zero => exact Or.inl (fun i => h i (Nat.zero_le i))
  | succ k ih =>
    by_cases h0 : f k = 0
    · rcases ih (fun i hi => by
        by_cases hik : i = k
        · rw [hik]; exact h0
        · exact h i (by omega)) with h1 | ⟨t, h1, h2, h3⟩
      · exact Or.inl h1
      · exact Or.inr ⟨t, by omega, h2, h3⟩
    · exact Or.inr ⟨k, by omega, h0, h⟩
/-- a polynomial moves a series -/
def ac_ {K : Type} [Lean.Grind.CommRing K] (f : Nat → K) (k : Nat) (s : Nat → K) : Nat → K := fun n => sm k (fun i => f i * s (n + i))
theorem ac_any {K : Type} [Lean.Grind.CommRing K] {f : Nat → K} {k l : Nat} (h : sz_ f k) (hl : k ≤ l) (s : Nat → K) (n : Nat) : ac_ f l s n = ac_ f k s n := sm_cut hl (fun i h1 _ => by rw [h i h1]; grind)
theorem ac_cv {K : Type} [Lean.Grind.CommRing K] {f g : Nat → K} {a b : Nat} (hf : sz_ f a) (hg : sz_ g b) (s : Nat → K) (n : Nat) : ac_ (cv_ f g) (a + b) s n = ac_ f a (ac_ g b s) n := by
  have h1 : ac_ (cv_ f g) (a + b) s n = sm (a + b) (fun k => sm (k + 1) (fun i => (fun i j => f i * (g j * s (n + i + j))) i (k - i))) := by
    refine sm_congr (fun k hk => ?_)
    show cv_ f g k * s (n + k) = _
    unfold cv_
    rw [← sm_mulr]
    refine sm_congr (fun i hi => ?_)
    show f i * g (k - i) * s (n + k) = f i * (g (k - i) * s (n + i + (k - i)))
    rw [show n + i + (k - i) = n + k by omega]
    grind
  rw [h1, sm_tri (a + b) (fun i j => f i * (g j * s (n + i + j)))]
  have h2 : sm (a + b) (fun i => sm (a + b - i) (fun j => f i * (g j * s (n + i + j)))) = sm a (fun i => sm (a + b - i) (fun j => f i * (g j * s (n + i + j)))) := sm_cut (by omega) (fun i h1 _ => sm_zero (fun j hj => by rw [hf i h1]; grind))
  show sm (a + b) (fun i => sm (a + b - i) (fun j => f i * (g j * s (n + i + j)))) = _
  rw [h2]
  refine sm_congr (fun i hi => ?_)
  rw [sm_cut (m := b) (by omega) (fun j h1 _ => by rw [hg j h1]; grind), sm_mul]
  rfl
theorem ac_lin {K : Type} [Lean.Grind.CommRing K] {f g h : Nat → K} (k : Nat) (e : ∀ i, f i = g i + h i) (s : Nat → K) (n : Nat) : ac_ f k s n = ac_ g k s n + ac_ h k s n := by
  unfold ac_
  rw [← sm_add]
  exact sm_congr (fun i hi => by rw [e i]; grind)
theorem ac_zero {K : Type} [Lean.Grind.CommRing K] {f : Nat → K} {k : Nat} {s : Nat → K} (h : ∀ n, s n = 0) (n : Nat) : ac_ f k s n = 0 := sm_zero (fun i hi => by rw [h]; grind)
/-- the polynomial of a recurrence -/
def pl_ {K : Type} [Lean.Grind.CommRing K] (r : Nat) (c : Nat → K) : Nat → K := fun i => if i < r then - c (r - 1 - i) else if i = r then 1 else 0
theorem pl_sz {K : Type} [Lean.Grind.CommRing K] (r : Nat) (c : Nat → K) : sz_ (pl_ r c) (r + 1) := fun i hi => by
  unfold pl_
  rw [if_neg (by omega), if_neg (by omega)]
theorem pl_top {K : Type} [Lean.Grind.CommRing K] (r : Nat) (c : Nat → K) : pl_ r c r = 1 := by
  unfold pl_
  rw [if_neg (by omega), if_pos rfl]
theorem pl_ac {K : Type} [Lean.Grind.CommRing K] (r : Nat) (c s : Nat → K) (n : Nat) : ac_ (pl_ r c) (r + 1) s n = ms_ r c s n := by
  unfold ac_ ms_
  rw [sm_s, pl_top, sm_rev r (fun i => c i * s (n + r - 1 - i))]
  have e : sm r (fun i => pl_ r c i * s (n + i)) = - sm r (fun i => c (r - 1 - i) * s (n + r - 1 - (r - 1 - i))) := by
    rw [← sm_neg]
    refine sm_congr (fun i hi => ?_)
    unfold pl_
    rw [if_pos hi, show n + r - 1 - (r - 1 - i) = n + i by omega]
    grind
  rw [e]
  grind
theorem pl_ob {K : Type} [Lean.Grind.CommRing K] {f s : Nat → K} {r : Nat} {w : K} (hf : sz_ f (r + 1)) (hw : f r * w = 1) (h : ∀ n, ac_ f (r + 1) s n = 0) : ob r (fun i => - (w * f (r - 1 - i))) s := by
  intro n
  have h1 := h n
  unfold ac_ at h1
  rw [sm_s] at h1
  rw [sm_rev]
  have e : sm r (fun i => (fun i => - (w * f (r - 1 - i)) * s (n + r - 1 - i)) (r - 1 - i)) = - (w * sm r (fun i => f i * s (n + i))) := by
    rw [← sm_mul, ← sm_neg]
    refine sm_congr (fun i hi => ?_)
    show - (w * f (r - 1 - (r - 1 - i))) * s (n + r - 1 - (r - 1 - i)) = _
    rw [show r - 1 - (r - 1 - i) = i by omega, show n + r - 1 - (r - 1 - i) = n + i by omega]
    grind
  show s (n + r) = sm r (fun i => (fun i => - (w * f (r - 1 - i)) * s (n + r - 1 - i)) (r - 1 - i))
  rw [e]
  grind
/-- one power alone -/
def mo_ {K : Type} [Lean.Grind.CommRing K] (m : Nat) (a : K) : Nat → K := fun i => if i = m then a else 0
theorem mo_cv {K : Type} [Lean.Grind.CommRing K] (m : Nat) (a : K) (g : Nat → K) (n : Nat) : cv_ (mo_ m a) g n = if m ≤ n then a * g (n - m) else 0 := by
  unfold cv_
  by_cases h : m ≤ n
  · rw [if_pos h, sm_one (p := m) (by omega) (fun i hi hne => by unfold mo_; rw [if_neg hne]; grind)]
    unfold mo_
    rw [if_pos rfl]
  · rw [if_neg h]
    exact sm_zero (fun i hi => by unfold mo_; rw [if_neg (by omega)]; grind)
theorem dv_ {K : Type} [Lean.Grind.CommRing K] {g : Nat → K} {e : Nat} {w : K} (hg : sz_ g (e + 1)) (hw : g e * w = 1) (d : Nat) : ∀ f : Nat → K, sz_ f d → ∃ q rm : Nat → K, sz_ q d ∧ sz_ rm e ∧ ∀ n, f n = cv_ q g n + rm n := by
  induction d with
  | zero =>
    intro f hf
    refine ⟨fun _ => 0, fun _ => 0, fun _ _ => rfl, fun _ _ => rfl, fun n => ?_⟩
    rw [hf n (Nat.zero_le n)]
    have : cv_ (fun _ => (0 : K)) g n = 0 := sm_zero (fun i hi => by grind)
    rw [this]
    grind
  | succ d ih =>
    intro f hf
    by_cases hd : d < e
    · refine ⟨fun _ => 0, f, fun _ _ => rfl, fun i hi => hf i (by omega), fun n => ?_⟩
      have : cv_ (fun _ => (0 : K)) g n = 0 := sm_zero (fun i hi => by grind)
      rw [this]
      grind
    · obtain ⟨q, rm, h1, h2, h3⟩ := ih (fun n => f n - cv_ (mo_ (d - e) (f d * w)) g n) (fun i hi => by
        show f i - cv_ (mo_ (d - e) (f d * w)) g i = 0
        rw [mo_cv, if_pos (by omega)]
        by_cases hid : i = d
        · subst hid
          rw [show i - (i - e) = e by omega]
          grind
        · rw [hf i (by omega), hg (i - (d - e)) (by omega)]
          grind)
      refine ⟨fun i => q i + mo_ (d - e) (f d * w) i, rm, fun i hi => ?_, h2, fun n => ?_⟩
      · show q i + mo_ (d - e) (f d * w) i = 0
        rw [h1 i (by omega)]
        unfold mo_
        rw [if_neg (by omega)]
        grind
      · have := h3 n
        rw [cv_add]
        grind
/-- the least recurrence's polynomial divides all that bring the series to 0 -/
theorem lo_dvd {K : Type} [Lean.Grind.CommRing K] (hI : ∀ x : K, x ≠ 0 → ∃ y, x * y = 1) {s c f : Nat → K} {r d : Nat} (h : lo_ s r c) (hf : sz_ f d) (ha : ∀ n, ac_ f d s n = 0) : ∃ q, sz_ q d ∧ ∀ n, f n = cv_ q (pl_ r c) n := by
  obtain ⟨q, rm, h1, h2, h3⟩ := dv_ (w := 1) (pl_sz r c) (by rw [pl_top]; grind) d f hf
  have hrm : ∀ n, ac_ rm (d + (r + 1)) s n = 0 := by
    intro n
    have e1 := ac_lin (d + (r + 1)) h3 s n
    rw [ac_any hf (by omega), ha n, ac_cv h1 (pl_sz r c)] at e1
    rw [ac_zero (f := q) (k := d) (s := ac_ (pl_ r c) (r + 1) s) (fun n => by rw [pl_ac]; exact ob_iff.mp h.1 n)] at e1
    grind
  rcases sz_top h2 with h4 | ⟨t, h4, h5, h6⟩
  · exact ⟨q, h1, fun n => by rw [h3 n, h4 n]; grind⟩
  · obtain ⟨w, hw⟩ := hI _ h5
    exact absurd (pl_ob h6 hw (fun n => by rw [← ac_any h6 (show t + 1 ≤ d + (r + 1) by omega)]; exact hrm n)) (h.2 t _ h4)
/-- what two series share: G is a common divisor of their polynomials, and made of them -/
theorem sh_ {K : Type} [Lean.Grind.CommRing K] (hI : ∀ x : K, x ≠ 0 → ∃ y, x * y = 1) {a b ca cb G u v al be : Nat → K} {ra rb d N : Nat} (ha : lo_ a ra ca) (hb : lo_ b rb cb) (hG : sz_ G (d + 1)) (hG0 : G d ≠ 0)
    (hu : sz_ u N) (hv : sz_ v N) (hal : sz_ al N) (hbe : sz_ be N) (e1 : ∀ n, G n = cv_ u (pl_ ra ca) n + cv_ v (pl_ rb cb) n) (e2 : ∀ n, pl_ ra ca n = cv_ al G n) (e3 : ∀ n, pl_ rb cb n = cv_ be G n) :
    d ≤ ra ∧ (∃ c : Nat → K, ob (ra + rb - d) c a ∧ ob (ra + rb - d) c b) ∧ ∀ (r : Nat) (c : Nat → K), ob r c a → ob r c b → ra + rb - d ≤ r := by
  have hnz : ∀ x y : K, x ≠ 0 → y ≠ 0 → x * y ≠ 0 := by
    intro x y hx hy h
    obtain ⟨z, hz⟩ := hI x hx
    exact hy (by grind)
  have h10 : (1 : K) ≠ 0 := by
    intro h
    exact hG0 (by grind)
  -- al has the degree ra - d
  obtain ⟨t, ht, ht0, hts⟩ : ∃ t, t + d = ra ∧ al t ≠ 0 ∧ sz_ al (t + 1) := by
    rcases sz_top hal with h | ⟨t, h1, h2, h3⟩
    · have := e2 ra
      rw [pl_top] at this
      have h0 : cv_ al G ra = 0 := sm_zero (fun i hi => by rw [h i]; grind)
      exact absurd (this.trans h0) h10
    · obtain ⟨g1, g2⟩ := sz_cv h3 hG
      refine ⟨t, ?_, h2, h3⟩
      have g3 : pl_ ra ca (t + d) ≠ 0 := by rw [e2, g2]; exact hnz _ _ h2 hG0
      have g4 : t + d ≤ ra := Nat.le_of_not_lt (fun h => g3 (pl_sz ra ca _ (by omega)))
      have g5 : ra ≤ t + d := Nat.le_of_not_lt (fun h => h10 (by rw [← pl_top ra ca, e2 ra]; exact g1 ra (by omega)))
      omega
  refine ⟨by omega, ?_, fun r c hca hcb => ?_⟩
  · obtain ⟨g1, g2⟩ := sz_cv hts (pl_sz rb cb)
    rw [pl_top] at g2
    obtain ⟨w, hw⟩ := hI (cv_ al (pl_ rb cb) (t + rb)) (by rw [g2]; exact hnz _ _ ht0 h10)
    rw [show ra + rb - d = t + rb by omega]
    refine ⟨_, pl_ob g1 hw (fun n => ?_), pl_ob g1 hw (fun n => ?_)⟩
    · have e4 : cv_ al (pl_ rb cb) = cv_ be (pl_ ra ca) := by
        have x1 : pl_ rb cb = cv_ be G := funext e3
        have x2 : pl_ ra ca = cv_ al G := funext e2
        funext m
        rw [x1, x2, ← cv_assoc, ← cv_assoc]
        have x3 : cv_ al be = cv_ be al := funext (cv_comm al be)
        rw [x3]
      have h1 := ac_cv hbe (pl_sz ra ca) a n
      rw [ac_zero (f := be) (k := N) (s := ac_ (pl_ ra ca) (ra + 1) a) (fun n => by rw [pl_ac]; exact ob_iff.mp ha.1 n), ← e4] at h1
      have h2 := ac_any g1 (show t + rb + 1 ≤ (t + rb + 1) + (N + (ra + 1)) by omega) a n
      have h3 : sz_ (cv_ al (pl_ rb cb)) (N + (ra + 1)) := by rw [e4]; exact sz_cv0 hbe (pl_sz ra ca)
      have h4 := ac_any h3 (show N + (ra + 1) ≤ (t + rb + 1) + (N + (ra + 1)) by omega) a n
      rw [← h2, h4, h1]
    · have h1 := ac_cv hts (pl_sz rb cb) b n
      rw [ac_zero (f := al) (k := t + 1) (s := ac_ (pl_ rb cb) (rb + 1) b) (fun n => by rw [pl_ac]; exact ob_iff.mp hb.1 n)] at h1
      have h2 := ac_any g1 (show t + rb + 1 ≤ t + 1 + (rb + 1) by omega) b n
      rw [← h2, h1]
  · obtain ⟨h, hh, eh⟩ := lo_dvd hI ha (pl_sz r c) (fun n => by rw [pl_ac]; exact ob_iff.mp hca n)
    obtain ⟨k, hk, ek⟩ := lo_dvd hI hb (pl_sz r c) (fun n => by rw [pl_ac]; exact ob_iff.mp hcb n)
    -- f G = pa pb (k u + h v)
    have key : ∀ n, cv_ (pl_ r c) G n = cv_ (cv_ (pl_ ra ca) (pl_ rb cb)) (fun i => cv_ k u i + cv_ h v i) n := by
      intro n
      have xG : G = fun n => cv_ u (pl_ ra ca) n + cv_ v (pl_ rb cb) n := funext e1
      have y1 : cv_ (pl_ r c) G n = cv_ (pl_ r c) (cv_ u (pl_ ra ca)) n + cv_ (pl_ r c) (cv_ v (pl_ rb cb)) n := by
        rw [cv_comm, xG]
        show cv_ (fun i => cv_ u (pl_ ra ca) i + cv_ v (pl_ rb cb) i) (pl_ r c) n = _
        rw [cv_add, cv_comm, cv_comm (cv_ v (pl_ rb cb))]
      have f1 : pl_ r c = cv_ k (pl_ rb cb) := funext ek
      have f2 : pl_ r c = cv_ h (pl_ ra ca) := funext eh
      have c1 : cv_ u (pl_ ra ca) = cv_ (pl_ ra ca) u := funext (cv_comm _ _)
      have c2 : cv_ v (pl_ rb cb) = cv_ (pl_ rb cb) v := funext (cv_comm _ _)
      have c3 : cv_ k (pl_ rb cb) = cv_ (pl_ rb cb) k := funext (cv_comm _ _)
      have c4 : cv_ h (pl_ ra ca) = cv_ (pl_ ra ca) h := funext (cv_comm _ _)
      have c5 : cv_ (pl_ rb cb) (pl_ ra ca) = cv_ (pl_ ra ca) (pl_ rb cb) := funext (cv_comm _ _)
      have y2 : cv_ (pl_ r c) (cv_ u (pl_ ra ca)) n = cv_ (cv_ (pl_ ra ca) (pl_ rb cb)) (cv_ k u) n := by
        rw [f1, c1, c3]
        have z1 : cv_ (cv_ (pl_ rb cb) k) (cv_ (pl_ ra ca) u) = cv_ (cv_ (pl_ ra ca) (pl_ rb cb)) (cv_ k u) := by
          funext m
          have w1 : cv_ k (cv_ (pl_ ra ca) u) = cv_ (pl_ ra ca) (cv_ k u) := by
            funext j
            rw [← cv_assoc, ← cv_assoc]
            have : cv_ k (pl_ ra ca) = cv_ (pl_ ra ca) k := funext (cv_comm _ _)
            rw [this]
          rw [cv_assoc, w1, ← cv_assoc, c5]
        exact congrFun z1 n
      have y3 : cv_ (pl_ r c) (cv_ v (pl_ rb cb)) n = cv_ (cv_ (pl_ ra ca) (pl_ rb cb)) (cv_ h v) n := by
        rw [f2, c2, c4]
        have z1 : cv_ (cv_ (pl_ ra ca) h) (cv_ (pl_ rb cb) v) = cv_ (cv_ (pl_ ra ca) (pl_ rb cb)) (cv_ h v) := by
          funext m
          have w1 : cv_ h (cv_ (pl_ rb cb) v) = cv_ (pl_ rb cb) (cv_ h v) := by
            funext j
            rw [← cv_assoc, ← cv_assoc]
            have : cv_ h (pl_ rb cb) = cv_ (pl_ rb cb) h := funext (cv_comm _ _)
            rw [this]
          rw [cv_assoc, w1, ← cv_assoc]
        exact congrFun z1 n
      rw [y1, y2, y3, cv_comm (cv_ (pl_ ra ca) (pl_ rb cb)) (fun i => cv_ k u i + cv_ h v i), cv_add, cv_comm (cv_ k u), cv_comm (cv_ h v)]
    obtain ⟨p1, p2⟩ := sz_cv (pl_sz r c) hG
    rw [pl_top] at p2
    obtain ⟨q1, q2⟩ := sz_cv (pl_sz ra ca) (pl_sz rb cb)
    rw [pl_top, pl_top] at q2
    have hW : sz_ (fun i => cv_ k u i + cv_ h v i) (r + 1 + N) := fun i hi => by
      show cv_ k u i + cv_ h v i = 0
      rw [sz_cv0 hk hu i hi, sz_cv0 hh hv i hi]
      grind
    rcases sz_top hW with h0 | ⟨t2, k1, k2, k3⟩
    · exfalso
      have : cv_ (pl_ r c) G (r + d) = 0 := by
        rw [key]
        exact sm_zero (fun i hi => by dsimp only; rw [h0]; grind)
      rw [p2] at this
      exact hnz _ _ h10 hG0 this
    · obtain ⟨s1, s2⟩ := sz_cv q1 k3
      rw [q2] at s2
      have h5 : cv_ (pl_ r c) G (ra + rb + t2) ≠ 0 := by
        rw [key, s2]
        exact hnz _ _ (hnz _ _ h10 h10) k2
      have h6 : ra + rb + t2 ≤ r + d := Nat.le_of_not_lt (fun hlt => h5 (p1 _ (by omega)))
      omega
