/-! The numbers modulo 2147483647 -/
def td_ : Nat → Nat → Nat → Bool
  | 0, lo, _ => 2147483647 % lo != 0
  | f + 1, lo, len => if len = 0 then true else if len = 1 then 2147483647 % lo != 0 else td_ f lo (len / 2) && td_ f (lo + len / 2) (len - len / 2)
theorem td_ok : ∀ (f lo len : Nat), len ≤ 2 ^ f → td_ f lo len = true → ∀ d, lo ≤ d → d < lo + len → 2147483647 % d ≠ 0
  | 0, lo, len, hl, h, d, h1, h2 => by
    have : d = lo := by simp at hl; omega
    subst this
    simpa [td_] using h
  | f + 1, lo, len, hl, h, d, h1, h2 => by
    unfold td_ at h
    by_cases h0 : len = 0
    · omega
    · rw [if_neg h0] at h
      by_cases h3 : len = 1
      · rw [if_pos h3] at h
        have : d = lo := by omega
        subst this
        simpa using h
      · rw [if_neg h3, Bool.and_eq_true] at h
        rw [Nat.pow_succ] at hl
        by_cases h4 : d < lo + len / 2
        · exact td_ok f lo (len / 2) (by omega) h.1 d h1 h4
        · exact td_ok f (lo + len / 2) (len - len / 2) (by omega) h.2 d (by omega) (by omega)
theorem td_all : td_ 16 2 46339 = true := by decide +kernel
theorem pr_P : ∀ d, d ∣ 2147483647 → d = 1 ∨ d = 2147483647 := by
  intro d hd
  have small : ∀ d, d ∣ 2147483647 → 1 < d → 46341 ≤ d := by
    intro d hd h1
    refine Nat.le_of_not_lt (fun h2 => ?_)
    exact td_ok 16 2 46339 (by decide) td_all d (by omega) (by omega) (Nat.mod_eq_zero_of_dvd hd)
  obtain ⟨e, he⟩ := hd
  have hd0 : d ≠ 0 := fun h => by rw [h, Nat.zero_mul] at he; omega
  have he0 : e ≠ 0 := fun h => by rw [h, Nat.mul_zero] at he; omega
  by_cases h1 : d = 1
  · exact Or.inl h1
  · by_cases h2 : e = 1
    · rw [h2, Nat.mul_one] at he; exact Or.inr he.symm
    · have a1 := small d ⟨e, he⟩ (by omega)
      have a2 := small e ⟨d, by rw [Nat.mul_comm]; exact he⟩ (by omega)
      have a3 : 46341 * 46341 ≤ d * e := Nat.mul_le_mul a1 a2
      omega
theorem pr_cop {k : Nat} (h : ¬ 2147483647 ∣ k) : Nat.Coprime 2147483647 k := by
  rcases pr_P (Nat.gcd 2147483647 k) (Nat.gcd_dvd_left _ _) with h1 | h1
  · exact h1
  · exact absurd (h1 ▸ Nat.gcd_dvd_right 2147483647 k) h
theorem pr_mul {a b : Nat} (h : 2147483647 ∣ a * b) : 2147483647 ∣ a ∨ 2147483647 ∣ b := by
  by_cases ha : 2147483647 ∣ a
  · exact Or.inl ha
  · exact Or.inr ((pr_cop ha).dvd_of_dvd_mul_left h)
def bn_ : Nat → Nat → Nat
  | _, 0 => 1
  | 0, _ + 1 => 0
  | n + 1, k + 1 => bn_ n k + bn_ n (k + 1)
theorem bn_abs : ∀ n k, (k + 1) * bn_ (n + 1) (k + 1) = (n + 1) * bn_ n k := by
  intro n
  induction n with
  | zero =>
    intro k
    cases k with
    | zero => rfl
    | succ k => simp [bn_]
  | succ n ih =>
    intro k
    cases k with
    | zero =>
      have h := ih 0
      simp only [bn_] at h ⊢
      omega
    | succ k =>
      have h1 := ih k
      have h2 := ih (k + 1)
      have e1 : bn_ (n + 1 + 1) (k + 1 + 1) = bn_ (n + 1) (k + 1) + bn_ (n + 1) (k + 1 + 1) := rfl
      have e2 : bn_ (n + 1) (k + 1) = bn_ n k + bn_ n (k + 1) := rfl
      rw [e1, Nat.mul_add, h2]
      have e3 : (k + 1 + 1) * bn_ (n + 1) (k + 1) = (n + 1) * bn_ n k + bn_ (n + 1) (k + 1) := by
        rw [Nat.succ_mul, h1]
      rw [e3, Nat.succ_mul (n + 1), e2, Nat.mul_add]
      omega
theorem bn_big : ∀ n k, n < k → bn_ n k = 0 := by
  intro n
  induction n with
  | zero => intro k hk; cases k with
    | zero => omega
    | succ k => rfl
  | succ n ih => intro k hk; cases k with
    | zero => omega
    | succ k => show bn_ n k + bn_ n (k + 1) = 0; rw [ih k (by omega), ih (k + 1) (by omega)]
theorem bn_self : ∀ n, bn_ n n = 1 := by
  intro n
  induction n with
  | zero => rfl
  | succ n ih => show bn_ n n + bn_ n (n + 1) = 1; rw [ih, bn_big n (n + 1) (by omega)]
theorem bn_P {n k : Nat} (hn : n + 1 = 2147483647) (h1 : k + 1 < n + 1) : 2147483647 ∣ bn_ (n + 1) (k + 1) := by
  have h := bn_abs n k
  have hd : 2147483647 ∣ (k + 1) * bn_ (n + 1) (k + 1) := by rw [h, hn]; exact Nat.dvd_mul_right _ _
  rcases pr_mul hd with h2 | h2
  · exact absurd (Nat.le_of_dvd (by omega) h2) (by omega)
  · exact h2
abbrev FP : Type := Fin 2147483647
def ph (n : Nat) : FP := Fin.ofNat 2147483647 n
theorem ph_val (n : Nat) : (ph n).val = n % 2147483647 := rfl
theorem ph_add (a b : Nat) : ph (a + b) = ph a + ph b := Fin.ext (by rw [Fin.val_add, ph_val, ph_val, ph_val, Nat.add_mod])
theorem ph_mul (a b : Nat) : ph (a * b) = ph a * ph b := Fin.ext (by rw [Fin.val_mul, ph_val, ph_val, ph_val, Nat.mul_mod])
theorem ph_mod (a : Nat) : ph (a % 2147483647) = ph a := Fin.ext (by rw [ph_val, ph_val, Nat.mod_mod])
theorem ph_0 : ph 0 = 0 := rfl
theorem ph_1 : ph 1 = 1 := rfl
theorem ph_eq {a b : Nat} (ha : a < 2147483647) (hb : b < 2147483647) : ph a = ph b ↔ a = b := by
  constructor
  · intro h
    have := congrArg Fin.val h
    rw [ph_val, ph_val, Nat.mod_eq_of_lt ha, Nat.mod_eq_of_lt hb] at this
    exact this
  · intro h; rw [h]
theorem ph_of (x : FP) : ph x.val = x := Fin.ext (by rw [ph_val, Nat.mod_eq_of_lt x.isLt])
theorem ph_sub {a b : Nat} (h : b ≤ a) : ph (a - b) = ph a - ph b := by
  have h1 : ph (a - b) + ph b = ph a := by rw [← ph_add, Nat.sub_add_cancel h]
  grind
theorem ph_P : ph 2147483647 = 0 := rfl
theorem fp_mul {x y : FP} (h : x * y = 0) : x = 0 ∨ y = 0 := by
  have h1 := congrArg Fin.val h
  rw [Fin.val_mul] at h1
  have h2 : 2147483647 ∣ x.val * y.val := Nat.dvd_of_mod_eq_zero h1
  have hx := x.isLt
  have hy := y.isLt
  rcases pr_mul h2 with h3 | h3
  · left
    refine Fin.ext ?_
    rcases Nat.eq_zero_or_pos x.val with h4 | h4
    · exact h4
    · exact absurd (Nat.le_of_dvd h4 h3) (by omega)
  · right
    refine Fin.ext ?_
    rcases Nat.eq_zero_or_pos y.val with h4 | h4
    · exact h4
    · exact absurd (Nat.le_of_dvd h4 h3) (by omega)
def pw_ {K : Type} [Lean.Grind.CommRing K] (x : K) : Nat → K
  | 0 => 1
  | n + 1 => pw_ x n * x
theorem pw_add {K : Type} [Lean.Grind.CommRing K] (x : K) (a b : Nat) : pw_ x (a + b) = pw_ x a * pw_ x b := by
  induction b with
  | zero => show pw_ x a = pw_ x a * 1; grind
  | succ b ih => show pw_ x (a + b) * x = pw_ x a * (pw_ x b * x); rw [ih]; grind
theorem pw_sq {K : Type} [Lean.Grind.CommRing K] (x : K) (a : Nat) : pw_ (x * x) a = pw_ x (2 * a) := by
  induction a with
  | zero => rfl
  | succ a ih => show pw_ (x * x) a * (x * x) = pw_ x (2 * a + 1 + 1); rw [ih]; show _ = pw_ x (2 * a) * x * x; grind
theorem pw_bin (x : FP) (n : Nat) : pw_ (x + 1) n = sm (n + 1) (fun k => ph (bn_ n k) * pw_ x k) := by
  induction n with
  | zero =>
    show (1 : FP) = 0 + ph 1 * 1
    rw [ph_1]; grind
  | succ n ih =>
    show pw_ (x + 1) n * (x + 1) = _
    rw [ih, sm_head (n + 1) (fun k => ph (bn_ (n + 1) k) * pw_ x k)]
    have e1 : sm (n + 1) (fun k => ph (bn_ (n + 1) (k + 1)) * pw_ x (k + 1)) = sm (n + 1) (fun k => ph (bn_ n k) * pw_ x k) * x + sm (n + 1) (fun k => ph (bn_ n (k + 1)) * pw_ x (k + 1)) := by
      rw [← sm_mulr, ← sm_add]
      refine sm_congr (fun k hk => ?_)
      show ph (bn_ n k + bn_ n (k + 1)) * (pw_ x k * x) = ph (bn_ n k) * pw_ x k * x + ph (bn_ n (k + 1)) * (pw_ x k * x)
      rw [ph_add]
      grind
    have e2 : sm (n + 1) (fun k => ph (bn_ n k) * pw_ x k) = ph (bn_ (n + 1) 0) * pw_ x 0 + sm (n + 1) (fun k => ph (bn_ n (k + 1)) * pw_ x (k + 1)) := by
      have h1 := sm_s (n + 1) (fun k => ph (bn_ n k) * pw_ x k)
      rw [sm_head, bn_big n (n + 1) (by omega), ph_0] at h1
      have h2 : ph (bn_ (n + 1) 0) * pw_ x 0 = ph (bn_ n 0) * pw_ x 0 := by cases n <;> rfl
      rw [h2]
      grind
    rw [e1]
    grind
theorem pw_P (n : Nat) (hn : n + 1 = 2147483647) (x : FP) : pw_ (x + 1) (n + 1) = pw_ x (n + 1) + 1 := by
  rw [pw_bin, sm_s, sm_head, bn_self]
  have e1 : sm n (fun k => ph (bn_ (n + 1) (k + 1)) * pw_ x (k + 1)) = 0 := by
    refine sm_zero (fun k hk => ?_)
    have h1 : ph (bn_ (n + 1) (k + 1)) = 0 := Fin.ext (by rw [ph_val]; exact Nat.mod_eq_zero_of_dvd (bn_P hn (by omega)))
    rw [h1]
    grind
  rw [e1, ph_1]
  show ph 1 * 1 + 0 + 1 * pw_ x (n + 1) = pw_ x (n + 1) + 1
  rw [ph_1]
  grind
theorem pw_fermat (n : Nat) (hn : n + 1 = 2147483647) (a : Nat) : pw_ (ph a) (n + 1) = ph a := by
  induction a with
  | zero =>
    rw [ph_0]
    show pw_ (0 : FP) n * 0 = 0
    grind
  | succ a ih => rw [ph_add, ph_1, pw_P n hn, ih]
theorem pw_inv (m : Nat) (hm : m + 2 = 2147483647) {x : FP} (hx : x ≠ 0) : x * pw_ x m = 1 := by
  have h := pw_fermat (m + 1) (by omega) x.val
  rw [ph_of] at h
  have h1 : x * (x * pw_ x m - 1) = 0 := by
    have : pw_ x (m + 1 + 1) = pw_ x m * x * x := rfl
    rw [this] at h
    grind
  rcases fp_mul h1 with h2 | h2
  · exact absurd h2 hx
  · grind
theorem fp_inv : ∀ x : FP, x ≠ 0 → ∃ y, x * y = 1 := fun x hx => ⟨_, pw_inv 2147483645 (by omega) hx⟩
theorem fp_two : ∀ x : FP, x + x = 0 → x = 0 := by
  intro x h
  have e : ph 2 = 1 + 1 := by rw [← ph_1, ← ph_add]
  have h2 : ph 2 * x = 0 := by
    rw [e]
    have : (1 + 1) * x = x + x := by grind
    rw [this, h]
  rcases fp_mul h2 with h3 | h3
  · exact absurd ((ph_eq (a := 2) (b := 0) (by omega) (by omega)).mp (h3.trans ph_0.symm)) (by omega)
  · exact h3
