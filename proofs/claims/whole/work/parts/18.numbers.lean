/-! The programs' own sums, in numbers below 2147483647 -/
def fo_ (c v : Nat → Nat) (n : Nat) : Nat → Nat
  | 0 => 0
  | i + 1 => (fo_ c v n i + c i * v (n - 1 - i)) % 2147483647
theorem fo_lt (c v : Nat → Nat) (n r : Nat) : fo_ c v n r < 2147483647 := by
  cases r with
  | zero => show 0 < 2147483647; omega
  | succ r => exact Nat.mod_lt _ (by omega)
theorem fo_ph (c v : Nat → Nat) (n r : Nat) : ph (fo_ c v n r) = sm r (fun i => ph (c i) * ph (v (n - 1 - i))) := by
  induction r with
  | zero => rfl
  | succ r ih => show ph ((fo_ c v n r + c r * v (n - 1 - r)) % 2147483647) = _; rw [ph_mod, ph_add, ph_mul, ih, sm_s]
theorem fo_congr {c c' v v' : Nat → Nat} {n r : Nat} (hc : ∀ i, i < r → c i = c' i) (hv : ∀ i, i < r → v (n - 1 - i) = v' (n - 1 - i)) : fo_ c v n r = fo_ c' v' n r := by
  induction r with
  | zero => rfl
  | succ r ih =>
    show (fo_ c v n r + c r * v (n - 1 - r)) % 2147483647 = (fo_ c' v' n r + c' r * v' (n - 1 - r)) % 2147483647
    rw [ih (fun i hi => hc i (by omega)) (fun i hi => hv i (by omega)), hc r (by omega), hv r (by omega)]
/-- a series of numbers: its first o terms f, and the coefficients c -/
def wt_ (o : Nat) (c f : Nat → Nat) : Nat → Nat → Nat
  | 0 => fun _ => 0
  | n + 1 => va_up (wt_ o c f n) n (if n < o then f n else fo_ c (wt_ o c f n) n o)
def se_ (o : Nat) (c f : Nat → Nat) (n : Nat) : Nat := wt_ o c f (n + 1) n
theorem wt_se (o : Nat) (c f : Nat → Nat) : ∀ m j, j < m → wt_ o c f m j = se_ o c f j := by
  intro m
  induction m with
  | zero => intro j hj; omega
  | succ m ih =>
    intro j hj
    by_cases hjm : j = m
    · subst hjm; rfl
    · show va_up (wt_ o c f m) m _ j = _
      rw [va_up, if_neg hjm]
      exact ih j (by omega)
theorem se_lo {o : Nat} {c f : Nat → Nat} {n : Nat} (h : n < o) : se_ o c f n = f n := by
  show va_up (wt_ o c f n) n _ n = _
  rw [va_up, if_pos rfl, if_pos h]
theorem se_hi {o : Nat} {c f : Nat → Nat} {n : Nat} (h : o ≤ n) : se_ o c f n = fo_ c (se_ o c f) n o := by
  show va_up (wt_ o c f n) n _ n = _
  rw [va_up, if_pos rfl, if_neg (by omega)]
  exact fo_congr (fun _ _ => rfl) (fun i hi => wt_se o c f n _ (by omega))
theorem se_ob (o : Nat) (c f : Nat → Nat) : ob o (fun i => ph (c i)) (fun n => ph (se_ o c f n)) := by
  intro n
  show ph (se_ o c f (n + o)) = _
  rw [se_hi (by omega), fo_ph]
