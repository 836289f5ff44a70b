/-! RecurrentSeries.Seeker -/
theorem zu_2 {α : Type} {f : Nat → α} {p q : Nat} {a b a' b' : α} (h : p ≠ q) : va_up (va_up (va_up (va_up f p a) q b) p a') q b' = va_up (va_up f p a') q b' := by
  funext j
  by_cases h1 : j = q
  · subst h1; simp [va_up]
  · by_cases h2 : j = p
    · subst h2; simp [va_up, h1]
    · simp [va_up, h1, h2]
theorem mx_1 : Cond.methodLink "RecurrentSeries$Seeker" 61 Lib.Math.max.name ∈ TB := tb_t 274 (by decide +kernel) rfl
theorem mx_2 : Cond.static Lib.Math.max.name ∈ TB := tb_t 275 (by decide +kernel) rfl
theorem mx_3 : Cond.initialized "java/lang/Math" ∈ TB := tb_t 8 (by decide +kernel) rfl
theorem mx_4 : Cond.code Lib.Math.max.name Lib.Math.max.code 2 (some .int) ∈ TB := tb_t 276 (by decide +kernel) rfl
theorem z_max {M : zMI} {Po : Option Value → Nat → zWd → Prop} {kc ks n pc q idx : Nat} {σ : zWd} {lv : List (Option Value)} {rest : List Value} {x y : Int32} (hd : decode (mB M) pc = .ok (.invokestatic idx, 3)) (hq : pc + 3 = q) (h1 : Cond.methodLink (mY M).cls idx Lib.Math.max.name ∈ TB) (hf : 1 ≤ (mR M).frames) (hlo : 21 ≤ (mR M).locals) (hcat : (rest.map fun v => v.category).sum ≤ 8) (hc : kc ≤ (mR M).cells) (hs : ks ≤ (mR M).slots) (k : Z M Po kc ks n σ q lv (.int (if x < y then y else x) :: rest)) : Z M Po kc ks n σ pc lv (.int y :: .int x :: rest) := by
  subst hq; intro p l e s m args below meth c b G D hC H locs ls hz hP hS hl
  refine va_mmax hC.1 hC.2.1 (hC.2.2.1.trans hl.1.symm) hC.2.2.2.1 (hC.tb h1) (hC.tb mx_2) (hC.tb mx_3) (hC.tb mx_4) hf ?_ hc hs hd (k p l e s m args below meth c b G D hC H locs ls hz hP hS hl)
  have := z_cat (b := b) (m := m) (pc := pc) (ls := ls) (r := rest) hcat
  omega
theorem zr_max {a o : Nat} (ha : a < 2 ^ 30) (ho : o < 2 ^ 30) : (if nI 0 < nI a - nI o then nI a - nI o else nI 0) = nI (a - o) := by
  by_cases h : o ≤ a
  · rw [pk_sub h]
    by_cases h2 : a - o = 0
    · rw [h2]; decide
    · rw [if_pos (nI_lt (by omega) (by omega))]
  · have h1 := pk_sneg ho (show a < o by omega)
    rw [show a - o = 0 by omega, if_neg (fun h2 => by
      rw [Int32.lt_iff_toInt_lt] at h1 h2
      have e0 : (nI 0).toInt = 0 := nI_toInt (by decide)
      have e1 : (0 : Int32).toInt = 0 := by decide
      omega)]
def tm_ (f m : Nat → Nat) (at' i0 : Nat) : Nat → Nat
  | 0 => 0
  | t + 1 => (tm_ f m at' i0 t + f (i0 + t) * m (at' - (i0 + t))) % 2147483647
def tM (f m : Nat → Nat) (o at' : Nat) : Nat := tm_ f m at' (at' - o) (min o at' + 1 - (at' - o))
theorem tm_lt (f m : Nat → Nat) (at' i0 t : Nat) : tm_ f m at' i0 t < 2147483647 := by
  cases t with
  | zero => show 0 < 2147483647; omega
  | succ t => exact Nat.mod_lt _ (by omega)
theorem tm_ph (f m : Nat → Nat) (at' i0 t : Nat) : ph (tm_ f m at' i0 t) = sm t (fun i => ph (f (i0 + i)) * ph (m (at' - (i0 + i)))) := by
  induction t with
  | zero => rfl
  | succ t ih => show ph ((tm_ f m at' i0 t + f (i0 + t) * m (at' - (i0 + t))) % 2147483647) = _; rw [ph_mod, ph_add, ph_mul, ih, sm_s]
theorem tM_cv {f m : Nat → Nat} {o at' : Nat} {fK mK : Nat → FP} (hf : ∀ i, i ≤ o → ph (f i) = fK i) (hm : ∀ i, i ≤ o → ph (m i) = mK i) (hf0 : ∀ i, o < i → fK i = 0) (hm0 : ∀ i, o < i → mK i = 0) : ph (tM f m o at') = cv_ fK mK at' := by
  unfold tM
  rw [tm_ph, cv_range hf0 hm0]
  refine sm_congr (fun i hi => ?_)
  rw [hf _ (by omega), hm _ (by omega)]
theorem ct_timesMirrored {n : Nat} {σ : zWd} {q1 q2 q3 q4 p o at' : Nat} {f m : Nat → Nat} (h9 : σ 9 = zO 3 [.ref q1, .ref q2, .ref q3, .ref q4, .ref 14]) (h14 : σ 14 = zN 49 m) (hp : σ p = zN 49 f) (hn : 14 < n) (hpn : p < n) (ho : o ≤ 48) (hat : at' ≤ 2 * o + 1) (hf : ∀ i, f i < 2147483647) (hm : ∀ i, m i < 2147483647) : Ct m_sk_timesMirrored [.ref 9, .ref p, .int (nI o), .int (nI at')] n σ (zEq (some (.long (lN (tM f m o at')))) n σ) := by
  refine Ct.of (lv := [some (.ref 9), some (.ref p), some (.int (nI o)), some (.int (nI at')), none, none, none]) 3 (by decide) rfl (Nat.le_of_ble_eq_true rfl) ?_
  have loop : ∀ e t, t + e = min o at' + 1 - (at' - o) → Z m_sk_timesMirrored (zEq (some (.long (lN (tM f m o at')))) n σ) 0 0 n σ 12 [some (.ref 9), some (.ref p), some (.int (nI o)), some (.int (nI at')), some (.long (lN (tm_ f m at' (at' - o) t))), none, some (.int (nI (at' - o + t)))] [] := by
    intro e
    induction e with
    | zero =>
      intro t ht
      have fin : Z m_sk_timesMirrored (zEq (some (.long (lN (tM f m o at')))) n σ) 0 0 n σ 50 [some (.ref 9), some (.ref p), some (.int (nI o)), some (.int (nI at')), some (.long (lN (tm_ f m at' (at' - o) t))), none, some (.int (nI (at' - o + t)))] [] := by
        refine z_lld4 (q := 52) d_sk_timesMirrored_50 rfl ?_
        exact z_lret d_sk_timesMirrored_52 rfl (Nat.le_refl _) (Nat.le_refl _) ⟨by unfold tM; rw [← ht, Nat.add_zero], rfl, rfl⟩
      refine z_ild6 (q := 14) d_sk_timesMirrored_12 rfl ?_
      refine z_ild2 (q := 15) d_sk_timesMirrored_14 rfl ?_
      refine zn_icmp_gt (q := 18) (tgt := 50) d_sk_timesMirrored_15 rfl (by decide) (by omega) (by omega) (fun hb => ?_) (fun hb => ?_)
      · exact fin
      · refine z_ild6 (q := 20) d_sk_timesMirrored_18 rfl ?_
        refine z_ild3 (q := 21) d_sk_timesMirrored_20 rfl ?_
        refine zn_icmp_gt (q := 24) (tgt := 50) d_sk_timesMirrored_21 rfl (by decide) (by omega) (by omega) (fun _ => fin) (fun hb2 => absurd hb2 (by omega))
    | succ e ih =>
      intro t ht
      refine z_ild6 (q := 14) d_sk_timesMirrored_12 rfl ?_
      refine z_ild2 (q := 15) d_sk_timesMirrored_14 rfl ?_
      refine zn_icmp_gt (q := 18) (tgt := 50) d_sk_timesMirrored_15 rfl (by decide) (by omega) (by omega) (fun hb => ?_) (fun hb => ?_)
      · exact absurd hb (by omega)
      · refine z_ild6 (q := 20) d_sk_timesMirrored_18 rfl ?_
        refine z_ild3 (q := 21) d_sk_timesMirrored_20 rfl ?_
        refine zn_icmp_gt (q := 24) (tgt := 50) d_sk_timesMirrored_21 rfl (by decide) (by omega) (by omega) (fun hb2 => absurd hb2 (by omega)) (fun _ => ?_)
        refine z_lld4 (q := 26) d_sk_timesMirrored_24 rfl ?_
        refine z_ald1 (q := 27) d_sk_timesMirrored_26 rfl ?_
        refine z_ild6 (q := 29) d_sk_timesMirrored_27 rfl ?_
        refine z_laload (q := 30) d_sk_timesMirrored_29 rfl (by first | assumption | omega) (by first | assumption | omega) (by omega) (by omega) ?_
        refine z_ald0 (q := 31) d_sk_timesMirrored_30 rfl ?_
        refine z_get 4 (q := 34) d_sk_timesMirrored_31 rfl fg_sk_24 (by first | assumption | omega) (by first | assumption | omega) (by rfl) ?_
        refine z_ild3 (q := 35) d_sk_timesMirrored_34 rfl ?_
        refine z_ild6 (q := 37) d_sk_timesMirrored_35 rfl ?_
        first | refine zn_isub (q := 38) d_sk_timesMirrored_37 rfl (by omega) ?_ | refine z_isub (q := 38) d_sk_timesMirrored_37 rfl ?_
        refine z_laload (q := 39) d_sk_timesMirrored_38 rfl (by first | assumption | omega) (by first | assumption | omega) (by omega) (by omega) ?_
        refine z_cS3 (q := 42) d_sk_timesMirrored_39 rfl (ct_plusTimes n σ (tm_lt f m at' (at' - o) t) (hf _) (hm _)) ck_nu_plusTimes lk_sk_67 st_nu_plusTimes ⟨by decide, by decide⟩ (Nat.le_of_ble_eq_true rfl) rfl rfl ?_
        refine z_lst4 (q := 44) d_sk_timesMirrored_42 rfl rfl ?_
        refine zn_iinc6 (d := 1) (q := 47) d_sk_timesMirrored_44 rfl rfl ?_
        refine z_goto (tgt := 12) d_sk_timesMirrored_47 (by decide) ?_
        exact ih (t + 1) (by omega)
  refine z_lconst (v := lN 0) (q := 1) d_sk_timesMirrored_0 rfl rfl ?_
  refine z_lst4 (q := 3) d_sk_timesMirrored_1 rfl rfl ?_
  refine z_iconst (v := nI 0) (q := 4) d_sk_timesMirrored_3 rfl (by decide) ?_
  refine z_ild3 (q := 5) d_sk_timesMirrored_4 rfl ?_
  refine z_ild2 (q := 6) d_sk_timesMirrored_5 rfl ?_
  refine z_isub (q := 7) d_sk_timesMirrored_6 rfl ?_
  refine z_max (q := 10) d_sk_timesMirrored_7 rfl mx_1 (by decide) (by decide) (Nat.le_of_ble_eq_true rfl) (Nat.le_refl _) (Nat.le_refl _) ?_
  rw [zr_max (by omega) (by omega)]
  refine z_ist6 (q := 12) d_sk_timesMirrored_10 rfl rfl ?_
  exact loop (min o at' + 1 - (at' - o)) 0 (Nat.zero_add _)
/-- load -/
def lB (c : Nat → Nat) : Nat → Nat := fun i => if i = 0 then 1 else (0 + 2147483647 - c (i - 1)) % 2147483647
def lT (c f : Nat → Nat) : Nat → Nat := fun i => (f i + 2147483647 - fo_ c f i i) % 2147483647
theorem lB_lt (c : Nat → Nat) : ∀ i, lB c i < 2147483647 := by
  intro i
  unfold lB
  split
  · omega
  · exact Nat.mod_lt _ (by omega)
theorem lT_lt (c f : Nat → Nat) : ∀ i, lT c f i < 2147483647 := fun i => Nat.mod_lt _ (by omega)
theorem ct_skload {n : Nat} {σ : zWd} {q1 q2 q3 q4 se ci ti o : Nat} {T0 B0 c f : Nat → Nat} (h9 : σ 9 = zO 3 [.ref q1, .ref q2, .ref q3, .ref q4, .ref 14]) (h1 : σ q1 = zN 49 T0) (h2 : σ q2 = zN 49 B0) (hse : σ se = zO 1 [.int (nI o), .ref ci, .ref ti]) (hci : σ ci = zN 48 c) (hti : σ ti = zN 88 f) (g1 : 10 ≤ q1 ∧ q1 ≤ 13) (g2 : 10 ≤ q2 ∧ q2 ≤ 13) (e12 : q1 ≠ q2) (gse : 18 ≤ se) (gci : 18 ≤ ci) (gti : 18 ≤ ti) (bse : se < n) (bci : ci < n) (bti : ti < n) (ho : o ≤ 48) (hc : ∀ i, c i < 2147483647) (hf : ∀ i, f i < 2147483647) :
    Ct m_sk_load [.ref 9, .ref se] n σ (zEq none n (va_up (va_up σ q2 (zN 49 (fl_ (lB c) B0 (o + 1)))) q1 (zN 49 (va_up (fl_ (lT c f) T0 o) o 0)))) := by
  refine Ct.of (lv := [some (.ref 9), some (.ref se), none, none, none]) 3 (by decide) rfl (Nat.le_of_ble_eq_true rfl) ?_
  generalize hPo : zEq none n (va_up (va_up σ q2 (zN 49 (fl_ (lB c) B0 (o + 1)))) q1 (zN 49 (va_up (fl_ (lT c f) T0 o) o 0))) = Po
  have loop : ∀ e x (t3 t4 : Option Value), x + e = o → Z m_sk_load Po 0 0 n (va_up (va_up σ q2 (zN 49 (fl_ (lB c) B0 (x + 1)))) q1 (zN 49 (fl_ (lT c f) T0 x))) 9 [some (.ref 9), some (.ref se), some (.int (nI x)), t3, t4] [] := by
    intro e
    induction e with
    | zero =>
      intro x t3 t4 hx
      obtain rfl : x = o := by omega
      have y9 : va_up (va_up σ q2 (zN 49 (fl_ (lB c) B0 (x + 1)))) q1 (zN 49 (fl_ (lT c f) T0 x)) 9 = zO 3 [.ref q1, .ref q2, .ref q3, .ref q4, .ref 14] := by rw [zu_ne (by omega), zu_ne (by omega)]; exact h9
      have y1 : va_up (va_up σ q2 (zN 49 (fl_ (lB c) B0 (x + 1)))) q1 (zN 49 (fl_ (lT c f) T0 x)) q1 = zN 49 (fl_ (lT c f) T0 x) := zu_same
      have yse : va_up (va_up σ q2 (zN 49 (fl_ (lB c) B0 (x + 1)))) q1 (zN 49 (fl_ (lT c f) T0 x)) se = zO 1 [.int (nI x), .ref ci, .ref ti] := by rw [zu_ne (by omega), zu_ne (by omega)]; exact hse
      refine z_ild2 (q := 10) d_sk_load_9 rfl ?_
      refine z_ald1 (q := 11) d_sk_load_10 rfl ?_
      refine z_get 0 (q := 14) d_sk_load_11 rfl fg_sk_31 (by first | assumption | omega) (by first | assumption | omega) (by rfl) ?_
      refine zn_icmp_ge (q := 17) (tgt := 71) d_sk_load_14 rfl (by decide) (by omega) (by omega) (fun hb => ?_) (fun hb => ?_)
      · refine z_ald0 (q := 72) d_sk_load_71 rfl ?_
        refine z_get 0 (q := 75) d_sk_load_72 rfl fg_sk_9 (by first | assumption | omega) (by first | assumption | omega) (by rfl) ?_
        refine z_ald1 (q := 76) d_sk_load_75 rfl ?_
        refine z_get 0 (q := 79) d_sk_load_76 rfl fg_sk_31 (by first | assumption | omega) (by first | assumption | omega) (by rfl) ?_
        refine z_lconst (v := lN 0) (q := 80) d_sk_load_79 rfl rfl ?_
        refine z_lastore (q := 81) d_sk_load_80 rfl (by first | assumption | omega) (by first | assumption | omega) (by omega) (by omega) ?_
        refine z_vret d_sk_load_81 rfl (Nat.le_refl _) (Nat.le_refl _) ?_
        rw [← hPo, zu_up]
        exact ⟨rfl, rfl, rfl⟩
      · exact absurd hb (by omega)
    | succ e ih =>
      intro x t3 t4 hx
      have y9 : va_up (va_up σ q2 (zN 49 (fl_ (lB c) B0 (x + 1)))) q1 (zN 49 (fl_ (lT c f) T0 x)) 9 = zO 3 [.ref q1, .ref q2, .ref q3, .ref q4, .ref 14] := by rw [zu_ne (by omega), zu_ne (by omega)]; exact h9
      have y2 : va_up (va_up σ q2 (zN 49 (fl_ (lB c) B0 (x + 1)))) q1 (zN 49 (fl_ (lT c f) T0 x)) q2 = zN 49 (fl_ (lB c) B0 (x + 1)) := by rw [zu_ne (by omega), zu_same]
      have yse : va_up (va_up σ q2 (zN 49 (fl_ (lB c) B0 (x + 1)))) q1 (zN 49 (fl_ (lT c f) T0 x)) se = zO 1 [.int (nI o), .ref ci, .ref ti] := by rw [zu_ne (by omega), zu_ne (by omega)]; exact hse
      have yci : va_up (va_up σ q2 (zN 49 (fl_ (lB c) B0 (x + 1)))) q1 (zN 49 (fl_ (lT c f) T0 x)) ci = zN 48 c := by rw [zu_ne (by omega), zu_ne (by omega)]; exact hci
      refine z_ild2 (q := 10) d_sk_load_9 rfl ?_
      refine z_ald1 (q := 11) d_sk_load_10 rfl ?_
      refine z_get 0 (q := 14) d_sk_load_11 rfl fg_sk_31 (by first | assumption | omega) (by first | assumption | omega) (by rfl) ?_
      refine zn_icmp_ge (q := 17) (tgt := 71) d_sk_load_14 rfl (by decide) (by omega) (by omega) (fun hb => ?_) (fun hb => ?_)
      · exact absurd hb (by omega)
      · refine z_ald0 (q := 18) d_sk_load_17 rfl ?_
        refine z_get 1 (q := 21) d_sk_load_18 rfl fg_sk_15 (by first | assumption | omega) (by first | assumption | omega) (by rfl) ?_
        refine z_ild2 (q := 22) d_sk_load_21 rfl ?_
        refine z_iconst (v := nI 1) (q := 23) d_sk_load_22 rfl (by decide) ?_
        first | refine zn_iadd (q := 24) d_sk_load_23 rfl ?_ | refine z_iadd (q := 24) d_sk_load_23 rfl ?_
        refine z_lconst (v := lN 0) (q := 25) d_sk_load_24 rfl rfl ?_
        refine z_ald1 (q := 26) d_sk_load_25 rfl ?_
        refine z_get 1 (q := 29) d_sk_load_26 rfl fg_sk_41 (by first | assumption | omega) (by first | assumption | omega) (by rfl) ?_
        refine z_ild2 (q := 30) d_sk_load_29 rfl ?_
        refine z_laload (q := 31) d_sk_load_30 rfl (by first | assumption | omega) (by first | assumption | omega) (by omega) (by omega) ?_
        refine z_cS2 (q := 34) d_sk_load_31 rfl (ct_minus n _ (by omega) (hc x)) ck_nu_minus lk_sk_44 st_nu_minus ⟨by decide, by decide⟩ (Nat.le_of_ble_eq_true rfl) rfl rfl ?_
        refine z_lastore (q := 35) d_sk_load_34 rfl (by first | assumption | omega) (by first | assumption | omega) (by omega) (by omega) ?_
        generalize hW : va_up (va_up (va_up σ q2 (zN 49 (fl_ (lB c) B0 (x + 1)))) q1 (zN 49 (fl_ (lT c f) T0 x))) q2 (zN 49 (va_up (fl_ (lB c) B0 (x + 1)) (x + 1) ((0 + 2147483647 - c x) % 2147483647))) = W
        have z9 : W 9 = zO 3 [.ref q1, .ref q2, .ref q3, .ref q4, .ref 14] := by rw [← hW, zu_ne (by omega), zu_ne (by omega), zu_ne (by omega)]; exact h9
        have z1 : W q1 = zN 49 (fl_ (lT c f) T0 x) := by rw [← hW, zu_ne (by omega), zu_same]
        have zse : W se = zO 1 [.int (nI o), .ref ci, .ref ti] := by rw [← hW, zu_ne (by omega), zu_ne (by omega), zu_ne (by omega)]; exact hse
        have zci : W ci = zN 48 c := by rw [← hW, zu_ne (by omega), zu_ne (by omega), zu_ne (by omega)]; exact hci
        have zti : W ti = zN 88 f := by rw [← hW, zu_ne (by omega), zu_ne (by omega), zu_ne (by omega)]; exact hti
        refine z_ald1 (q := 36) d_sk_load_35 rfl ?_
        refine z_get 1 (q := 39) d_sk_load_36 rfl fg_sk_41 (by first | assumption | omega) (by first | assumption | omega) (by rfl) ?_
        refine z_ild2 (q := 40) d_sk_load_39 rfl ?_
        refine z_ald1 (q := 41) d_sk_load_40 rfl ?_
        refine z_get 2 (q := 44) d_sk_load_41 rfl fg_sk_50 (by first | assumption | omega) (by first | assumption | omega) (by rfl) ?_
        refine z_ild2 (q := 45) d_sk_load_44 rfl ?_
        refine z_cS4 (q := 48) d_sk_load_45 rfl (ct_foretold zci zti (by omega) (by omega) (by omega) (by omega) (by omega) (by omega) (by omega) hc hf) ck_nu_foretold lk_sk_53 st_nu_foretold ⟨by decide, by decide⟩ (Nat.le_of_ble_eq_true rfl) rfl rfl ?_
        refine z_lst3 (q := 49) d_sk_load_48 rfl rfl ?_
        refine z_ald0 (q := 50) d_sk_load_49 rfl ?_
        refine z_get 0 (q := 53) d_sk_load_50 rfl fg_sk_9 (by first | assumption | omega) (by first | assumption | omega) (by rfl) ?_
        refine z_ild2 (q := 54) d_sk_load_53 rfl ?_
        refine z_ald1 (q := 55) d_sk_load_54 rfl ?_
        refine z_get 2 (q := 58) d_sk_load_55 rfl fg_sk_50 (by first | assumption | omega) (by first | assumption | omega) (by rfl) ?_
        refine z_ild2 (q := 59) d_sk_load_58 rfl ?_
        refine z_laload (q := 60) d_sk_load_59 rfl (by first | assumption | omega) (by first | assumption | omega) (by omega) (by omega) ?_
        refine z_lld3 (q := 61) d_sk_load_60 rfl ?_
        refine z_cS2 (q := 64) d_sk_load_61 rfl (ct_minus n _ (hf x) (fo_lt c f x x)) ck_nu_minus lk_sk_44 st_nu_minus ⟨by decide, by decide⟩ (Nat.le_of_ble_eq_true rfl) rfl rfl ?_
        refine z_lastore (q := 65) d_sk_load_64 rfl (by first | assumption | omega) (by first | assumption | omega) (by omega) (by omega) ?_
        refine zn_iinc2 (d := 1) (q := 68) d_sk_load_65 rfl rfl ?_
        refine z_goto (tgt := 9) d_sk_load_68 (by decide) ?_
        refine Z.eqw ?_ (ih (x + 1) _ _ (by omega))
        rw [← hW, zu_2 (Ne.symm e12), ← fl_s (lT c f), ← fl_s (lB c) B0 (x + 1)]
        rfl
  refine z_ald0 (q := 1) d_sk_load_0 rfl ?_
  refine z_get 1 (q := 4) d_sk_load_1 rfl fg_sk_15 (by first | assumption | omega) (by first | assumption | omega) (by rfl) ?_
  refine z_iconst (v := nI 0) (q := 5) d_sk_load_4 rfl (by decide) ?_
  refine z_lconst (v := lN 1) (q := 6) d_sk_load_5 rfl rfl ?_
  refine z_lastore (q := 7) d_sk_load_6 rfl (by first | assumption | omega) (by first | assumption | omega) (by omega) (by omega) ?_
  refine z_iconst (v := nI 0) (q := 8) d_sk_load_7 rfl (by decide) ?_
  refine z_ist2 (q := 9) d_sk_load_8 rfl rfl ?_
  refine Z.eqw ?_ (loop o 0 none none (by omega))
  rw [fl_0, ← fl_s, fl_0]
  refine zu_id ?_
  rw [zu_ne (by omega)]
  exact h1
/-- halve -/
def hM (B : Nat → Nat) : Nat → Nat := fun i => if i % 2 = 0 then B i else (0 + 2147483647 - B i) % 2147483647
theorem hM_lt {B : Nat → Nat} (hB : ∀ i, B i < 2147483647) : ∀ i, hM B i < 2147483647 := by
  intro i
  unfold hM
  split
  · exact hB i
  · exact Nat.mod_lt _ (by omega)
theorem ct_halve {n : Nat} {σ : zWd} {q1 q2 q3 q4 o par : Nat} {T B N1 N2 M0 : Nat → Nat} (h9 : σ 9 = zO 3 [.ref q1, .ref q2, .ref q3, .ref q4, .ref 14]) (h1 : σ q1 = zN 49 T) (h2 : σ q2 = zN 49 B) (h3 : σ q3 = zN 49 N1) (h4 : σ q4 = zN 49 N2) (h14 : σ 14 = zN 49 M0) (g1 : 10 ≤ q1 ∧ q1 ≤ 13) (g2 : 10 ≤ q2 ∧ q2 ≤ 13) (g3 : 10 ≤ q3 ∧ q3 ≤ 13) (g4 : 10 ≤ q4 ∧ q4 ≤ 13) (e12 : q1 ≠ q2) (e13 : q1 ≠ q3) (e14 : q1 ≠ q4) (e23 : q2 ≠ q3) (e24 : q2 ≠ q4) (e34 : q3 ≠ q4) (hn : 14 < n) (ho : o ≤ 48) (hpar : par < 2) (hT : ∀ i, T i < 2147483647) (hB : ∀ i, B i < 2147483647) (hM0 : ∀ i, M0 i < 2147483647) :
    Ct m_sk_halve [.ref 9, .int (nI o), .int (nI par)] n σ (zEq none n (va_up (va_up (va_up (va_up σ 14 (zN 49 (fl_ (hM B) M0 (o + 1)))) q3 (zN 49 (fl_ (fun i => tM T (fl_ (hM B) M0 (o + 1)) o (2 * i + par)) N1 (o + 1)))) q4 (zN 49 (fl_ (fun i => tM B (fl_ (hM B) M0 (o + 1)) o (2 * i)) N2 (o + 1)))) 9 (zO 3 [.ref q3, .ref q4, .ref q1, .ref q2, .ref 14]))) := by
  refine Ct.of (lv := [some (.ref 9), some (.int (nI o)), some (.int (nI par)), none]) 1 (by decide) rfl (Nat.le_of_ble_eq_true rfl) ?_
  generalize hPo : zEq none n (va_up (va_up (va_up (va_up σ 14 (zN 49 (fl_ (hM B) M0 (o + 1)))) q3 (zN 49 (fl_ (fun i => tM T (fl_ (hM B) M0 (o + 1)) o (2 * i + par)) N1 (o + 1)))) q4 (zN 49 (fl_ (fun i => tM B (fl_ (hM B) M0 (o + 1)) o (2 * i)) N2 (o + 1)))) 9 (zO 3 [.ref q3, .ref q4, .ref q1, .ref q2, .ref 14])) = Po
  have hMm := fl_lt (x := o + 1) (hM_lt hB) hM0
  generalize hmm : fl_ (hM B) M0 (o + 1) = Mm at hPo hMm
  generalize hft : (fun i => tM T Mm o (2 * i + par)) = FT at hPo
  generalize hfb : (fun i => tM B Mm o (2 * i)) = FB at hPo
  -- the end: the fields change places
  have fin : ∀ t3 : Option Value, Z m_sk_halve Po 0 0 n (va_up (va_up (va_up σ 14 (zN 49 Mm)) q3 (zN 49 (fl_ FT N1 (o + 1)))) q4 (zN 49 (fl_ FB N2 (o + 1)))) 95 [some (.ref 9), some (.int (nI o)), some (.int (nI par)), t3] [] := by
    intro t3
    generalize hW : va_up (va_up (va_up σ 14 (zN 49 Mm)) q3 (zN 49 (fl_ FT N1 (o + 1)))) q4 (zN 49 (fl_ FB N2 (o + 1))) = W at hPo ⊢
    have z9 : W 9 = zO 3 [.ref q1, .ref q2, .ref q3, .ref q4, .ref 14] := by rw [← hW, zu_ne (by omega), zu_ne (by omega), zu_ne (by omega)]; exact h9
    refine z_ald0 (q := 96) d_sk_halve_95 rfl ?_
    refine z_get 0 (q := 99) d_sk_halve_96 rfl fg_sk_9 (by first | assumption | omega) (by first | assumption | omega) (by rfl) ?_
    refine z_ast3 (q := 100) d_sk_halve_99 rfl rfl ?_
    refine z_ald0 (q := 101) d_sk_halve_100 rfl ?_
    refine z_ald0 (q := 102) d_sk_halve_101 rfl ?_
    refine z_get 2 (q := 105) d_sk_halve_102 rfl fg_sk_18 (by first | assumption | omega) (by first | assumption | omega) (by rfl) ?_
    refine z_put 0 (q := 108) d_sk_halve_105 rfl fg_sk_9 ft_sk fk_sk_9 (by first | assumption | omega) (by first | assumption | omega) (fun _ => rfl) (fun _ => rfl) (by simp) ?_
    refine Z.eqw (σ' := va_up W 9 (zO 3 [.ref q3, .ref q2, .ref q3, .ref q4, .ref 14])) rfl ?_
    have z9a : va_up W 9 (zO 3 [.ref q3, .ref q2, .ref q3, .ref q4, .ref 14]) 9 = zO 3 [.ref q3, .ref q2, .ref q3, .ref q4, .ref 14] := zu_same
    refine z_ald0 (q := 109) d_sk_halve_108 rfl ?_
    refine z_ald3 (q := 110) d_sk_halve_109 rfl ?_
    refine z_put 2 (q := 113) d_sk_halve_110 rfl fg_sk_18 ft_sk fk_sk_18 (by first | assumption | omega) (by first | assumption | omega) (fun _ => rfl) (fun _ => rfl) (by simp) ?_
    refine Z.eqw (σ' := va_up W 9 (zO 3 [.ref q3, .ref q2, .ref q1, .ref q4, .ref 14])) (by rw [zu_up]; rfl) ?_
    have z9b : va_up W 9 (zO 3 [.ref q3, .ref q2, .ref q1, .ref q4, .ref 14]) 9 = zO 3 [.ref q3, .ref q2, .ref q1, .ref q4, .ref 14] := zu_same
    refine z_ald0 (q := 114) d_sk_halve_113 rfl ?_
    refine z_get 1 (q := 117) d_sk_halve_114 rfl fg_sk_15 (by first | assumption | omega) (by first | assumption | omega) (by rfl) ?_
    refine z_ast3 (q := 118) d_sk_halve_117 rfl rfl ?_
    refine z_ald0 (q := 119) d_sk_halve_118 rfl ?_
    refine z_ald0 (q := 120) d_sk_halve_119 rfl ?_
    refine z_get 3 (q := 123) d_sk_halve_120 rfl fg_sk_21 (by first | assumption | omega) (by first | assumption | omega) (by rfl) ?_
    refine z_put 1 (q := 126) d_sk_halve_123 rfl fg_sk_15 ft_sk fk_sk_15 (by first | assumption | omega) (by first | assumption | omega) (fun _ => rfl) (fun _ => rfl) (by simp) ?_
    refine Z.eqw (σ' := va_up W 9 (zO 3 [.ref q3, .ref q4, .ref q1, .ref q4, .ref 14])) (by rw [zu_up]; rfl) ?_
    have z9c : va_up W 9 (zO 3 [.ref q3, .ref q4, .ref q1, .ref q4, .ref 14]) 9 = zO 3 [.ref q3, .ref q4, .ref q1, .ref q4, .ref 14] := zu_same
    refine z_ald0 (q := 127) d_sk_halve_126 rfl ?_
    refine z_ald3 (q := 128) d_sk_halve_127 rfl ?_
    refine z_put 3 (q := 131) d_sk_halve_128 rfl fg_sk_21 ft_sk fk_sk_21 (by first | assumption | omega) (by first | assumption | omega) (fun _ => rfl) (fun _ => rfl) (by simp) ?_
    refine z_vret d_sk_halve_131 rfl (Nat.le_refl _) (Nat.le_refl _) ?_
    rw [← hPo, zu_up]
    exact ⟨rfl, rfl, rfl⟩
  have loop2 : ∀ e x, x + e = o + 1 → Z m_sk_halve Po 0 0 n (va_up (va_up (va_up σ 14 (zN 49 Mm)) q3 (zN 49 (fl_ FT N1 x))) q4 (zN 49 (fl_ FB N2 x))) 46 [some (.ref 9), some (.int (nI o)), some (.int (nI par)), some (.int (nI x))] [] := by
    intro e
    induction e with
    | zero =>
      intro x hx
      obtain rfl : x = o + 1 := by omega
      refine z_ild3 (q := 47) d_sk_halve_46 rfl ?_
      refine z_ild1 (q := 48) d_sk_halve_47 rfl ?_
      refine zn_icmp_gt (q := 51) (tgt := 95) d_sk_halve_48 rfl (by decide) (by omega) (by omega) (fun hb => ?_) (fun hb => ?_)
      · exact fin _
      · exact absurd hb (by omega)
    | succ e ih =>
      intro x hx
      generalize hW : va_up (va_up (va_up σ 14 (zN 49 Mm)) q3 (zN 49 (fl_ FT N1 x))) q4 (zN 49 (fl_ FB N2 x)) = W
      have z9 : W 9 = zO 3 [.ref q1, .ref q2, .ref q3, .ref q4, .ref 14] := by rw [← hW, zu_ne (by omega), zu_ne (by omega), zu_ne (by omega)]; exact h9
      have z14 : W 14 = zN 49 Mm := by rw [← hW, zu_ne (by omega), zu_ne (by omega), zu_same]
      have z1 : W q1 = zN 49 T := by rw [← hW, zu_ne (by omega), zu_ne (by omega), zu_ne (by omega)]; exact h1
      have z3 : W q3 = zN 49 (fl_ FT N1 x) := by rw [← hW, zu_ne (by omega), zu_same]
      refine z_ild3 (q := 47) d_sk_halve_46 rfl ?_
      refine z_ild1 (q := 48) d_sk_halve_47 rfl ?_
      refine zn_icmp_gt (q := 51) (tgt := 95) d_sk_halve_48 rfl (by decide) (by omega) (by omega) (fun hb => ?_) (fun hb => ?_)
      · exact absurd hb (by omega)
      · refine z_ald0 (q := 52) d_sk_halve_51 rfl ?_
        refine z_get 2 (q := 55) d_sk_halve_52 rfl fg_sk_18 (by first | assumption | omega) (by first | assumption | omega) (by rfl) ?_
        refine z_ild3 (q := 56) d_sk_halve_55 rfl ?_
        refine z_ald0 (q := 57) d_sk_halve_56 rfl ?_
        refine z_ald0 (q := 58) d_sk_halve_57 rfl ?_
        refine z_get 0 (q := 61) d_sk_halve_58 rfl fg_sk_9 (by first | assumption | omega) (by first | assumption | omega) (by rfl) ?_
        refine z_ild1 (q := 62) d_sk_halve_61 rfl ?_
        refine z_iconst (v := nI 2) (q := 63) d_sk_halve_62 rfl (by decide) ?_
        refine z_ild3 (q := 64) d_sk_halve_63 rfl ?_
        first | refine zn_imul (q := 65) d_sk_halve_64 rfl ?_ | refine z_imul (q := 65) d_sk_halve_64 rfl ?_
        refine z_ild2 (q := 66) d_sk_halve_65 rfl ?_
        first | refine zn_iadd (q := 67) d_sk_halve_66 rfl ?_ | refine z_iadd (q := 67) d_sk_halve_66 rfl ?_
        refine z_cV3 (q := 70) d_sk_halve_67 rfl (ct_timesMirrored z9 z14 z1 hn (by omega) ho (by omega) hT hMm) (by first | assumption | omega) (by first | assumption | omega) rfl ck_sk_timesMirrored lk_sk_57 im_sk_timesMirrored sl_sk_timesMirrored ⟨by decide, by decide⟩ (Nat.le_of_ble_eq_true rfl) rfl rfl ?_
        refine z_lastore (q := 71) d_sk_halve_70 rfl (by first | assumption | omega) (by first | assumption | omega) (by omega) (by omega) ?_
        generalize hW2 : va_up W q3 (zN 49 (va_up (fl_ FT N1 x) x (tM T Mm o (2 * x + par)))) = W2
        have y9 : W2 9 = zO 3 [.ref q1, .ref q2, .ref q3, .ref q4, .ref 14] := by rw [← hW2, zu_ne (by omega)]; exact z9
        have y14 : W2 14 = zN 49 Mm := by rw [← hW2, zu_ne (by omega)]; exact z14
        have y2 : W2 q2 = zN 49 B := by rw [← hW2, zu_ne (by omega), ← hW, zu_ne (by omega), zu_ne (by omega), zu_ne (by omega)]; exact h2
        have y4 : W2 q4 = zN 49 (fl_ FB N2 x) := by rw [← hW2, zu_ne (by omega), ← hW, zu_same]
        refine z_ald0 (q := 72) d_sk_halve_71 rfl ?_
        refine z_get 3 (q := 75) d_sk_halve_72 rfl fg_sk_21 (by first | assumption | omega) (by first | assumption | omega) (by rfl) ?_
        refine z_ild3 (q := 76) d_sk_halve_75 rfl ?_
        refine z_ald0 (q := 77) d_sk_halve_76 rfl ?_
        refine z_ald0 (q := 78) d_sk_halve_77 rfl ?_
        refine z_get 1 (q := 81) d_sk_halve_78 rfl fg_sk_15 (by first | assumption | omega) (by first | assumption | omega) (by rfl) ?_
        refine z_ild1 (q := 82) d_sk_halve_81 rfl ?_
        refine z_iconst (v := nI 2) (q := 83) d_sk_halve_82 rfl (by decide) ?_
        refine z_ild3 (q := 84) d_sk_halve_83 rfl ?_
        first | refine zn_imul (q := 85) d_sk_halve_84 rfl ?_ | refine z_imul (q := 85) d_sk_halve_84 rfl ?_
        refine z_cV3 (q := 88) d_sk_halve_85 rfl (ct_timesMirrored y9 y14 y2 hn (by omega) ho (by omega) hB hMm) (by first | assumption | omega) (by first | assumption | omega) rfl ck_sk_timesMirrored lk_sk_57 im_sk_timesMirrored sl_sk_timesMirrored ⟨by decide, by decide⟩ (Nat.le_of_ble_eq_true rfl) rfl rfl ?_
        refine z_lastore (q := 89) d_sk_halve_88 rfl (by first | assumption | omega) (by first | assumption | omega) (by omega) (by omega) ?_
        refine zn_iinc3 (d := 1) (q := 92) d_sk_halve_89 rfl rfl ?_
        refine z_goto (tgt := 46) d_sk_halve_92 (by decide) ?_
        refine Z.eqw ?_ (ih (x + 1) (by omega))
        rw [← hW2, ← hW, zu_2 e34, ← fl_s FT, ← fl_s FB, ← hft, ← hfb]
  have loop1 : ∀ e x, x + e = o + 1 → Z m_sk_halve Po 0 0 n (va_up σ 14 (zN 49 (fl_ (hM B) M0 x))) 2 [some (.ref 9), some (.int (nI o)), some (.int (nI par)), some (.int (nI x))] [] := by
    intro e
    induction e with
    | zero =>
      intro x hx
      obtain rfl : x = o + 1 := by omega
      refine z_ild3 (q := 3) d_sk_halve_2 rfl ?_
      refine z_ild1 (q := 4) d_sk_halve_3 rfl ?_
      refine zn_icmp_gt (q := 7) (tgt := 44) d_sk_halve_4 rfl (by decide) (by omega) (by omega) (fun hb => ?_) (fun hb => ?_)
      · rw [hmm]
        refine z_iconst (v := nI 0) (q := 45) d_sk_halve_44 rfl (by decide) ?_
        refine z_ist3 (q := 46) d_sk_halve_45 rfl rfl ?_
        refine Z.eqw ?_ (loop2 (o + 1) 0 (by omega))
        rw [fl_0, fl_0]
        have s3 : va_up σ 14 (zN 49 Mm) q3 = zN 49 N1 := by rw [zu_ne (by omega)]; exact h3
        have s4 : va_up σ 14 (zN 49 Mm) q4 = zN 49 N2 := by rw [zu_ne (by omega)]; exact h4
        rw [← zu_id s3]
        exact zu_id s4
      · exact absurd hb (by omega)
    | succ e ih =>
      intro x hx
      have y9 : va_up σ 14 (zN 49 (fl_ (hM B) M0 x)) 9 = zO 3 [.ref q1, .ref q2, .ref q3, .ref q4, .ref 14] := by rw [zu_ne (by omega)]; exact h9
      have y2 : va_up σ 14 (zN 49 (fl_ (hM B) M0 x)) q2 = zN 49 B := by rw [zu_ne (by omega)]; exact h2
      have y14 : va_up σ 14 (zN 49 (fl_ (hM B) M0 x)) 14 = zN 49 (fl_ (hM B) M0 x) := zu_same
      refine z_ild3 (q := 3) d_sk_halve_2 rfl ?_
      refine z_ild1 (q := 4) d_sk_halve_3 rfl ?_
      refine zn_icmp_gt (q := 7) (tgt := 44) d_sk_halve_4 rfl (by decide) (by omega) (by omega) (fun hb => ?_) (fun hb => ?_)
      · exact absurd hb (by omega)
      · refine z_ald0 (q := 8) d_sk_halve_7 rfl ?_
        refine z_get 4 (q := 11) d_sk_halve_8 rfl fg_sk_24 (by first | assumption | omega) (by first | assumption | omega) (by rfl) ?_
        refine z_ild3 (q := 12) d_sk_halve_11 rfl ?_
        refine z_ild3 (q := 13) d_sk_halve_12 rfl ?_
        refine z_iconst (v := nI 1) (q := 14) d_sk_halve_13 rfl (by decide) ?_
        refine zn_iand1 (q := 15) d_sk_halve_14 rfl (by omega) ?_
        refine zi_if_ne (q := 18) (tgt := 27) d_sk_halve_15 rfl (by decide) (by omega) (fun hb3 => ?_) (fun hb3 => ?_)
        · refine z_lconst (v := lN 0) (q := 28) d_sk_halve_27 rfl rfl ?_
          refine z_ald0 (q := 29) d_sk_halve_28 rfl ?_
          refine z_get 1 (q := 32) d_sk_halve_29 rfl fg_sk_15 (by first | assumption | omega) (by first | assumption | omega) (by rfl) ?_
          refine z_ild3 (q := 33) d_sk_halve_32 rfl ?_
          refine z_laload (q := 34) d_sk_halve_33 rfl (by first | assumption | omega) (by first | assumption | omega) (by omega) (by omega) ?_
          refine z_cS2 (q := 37) d_sk_halve_34 rfl (ct_minus n _ (by omega) (hB x)) ck_nu_minus lk_sk_44 st_nu_minus ⟨by decide, by decide⟩ (Nat.le_of_ble_eq_true rfl) rfl rfl ?_
          refine z_lastore (q := 38) d_sk_halve_37 rfl (by first | assumption | omega) (by first | assumption | omega) (by omega) (by omega) ?_
          refine zn_iinc3 (d := 1) (q := 41) d_sk_halve_38 rfl rfl ?_
          refine z_goto (tgt := 2) d_sk_halve_41 (by decide) ?_
          refine Z.eqw ?_ (ih (x + 1) (by omega))
          rw [zu_up, ← fl_s]
          have e9 : hM B x = (0 + 2147483647 - B x) % 2147483647 := by unfold hM; rw [if_neg hb3]
          rw [e9]
        · refine z_ald0 (q := 19) d_sk_halve_18 rfl ?_
          refine z_get 1 (q := 22) d_sk_halve_19 rfl fg_sk_15 (by first | assumption | omega) (by first | assumption | omega) (by rfl) ?_
          refine z_ild3 (q := 23) d_sk_halve_22 rfl ?_
          refine z_laload (q := 24) d_sk_halve_23 rfl (by first | assumption | omega) (by first | assumption | omega) (by omega) (by omega) ?_
          refine z_goto (tgt := 37) d_sk_halve_24 (by decide) ?_
          refine z_lastore (q := 38) d_sk_halve_37 rfl (by first | assumption | omega) (by first | assumption | omega) (by omega) (by omega) ?_
          refine zn_iinc3 (d := 1) (q := 41) d_sk_halve_38 rfl rfl ?_
          refine z_goto (tgt := 2) d_sk_halve_41 (by decide) ?_
          refine Z.eqw ?_ (ih (x + 1) (by omega))
          rw [zu_up, ← fl_s]
          have e9 : hM B x = B x := by unfold hM; rw [if_pos hb3]
          rw [e9]
  refine z_iconst (v := nI 0) (q := 1) d_sk_halve_0 rfl (by decide) ?_
  refine z_ist3 (q := 2) d_sk_halve_1 rfl rfl ?_
  exact (Z.eqw (by rw [fl_0]; exact zu_id h14) (loop1 (o + 1) 0 (by omega)))

