/-! Seeker.seek; term of the class -/
def kB (o : Nat) (c : Nat → FP) : Nat → FP := fun i => if i = 0 then 1 else if i ≤ o then - c (i - 1) else 0
theorem kB_cv (o : Nat) (c u : Nat → FP) (n : Nat) : cv_ (kB o c) u n = u n - sm n (fun i => (if i < o then c i else 0) * u (n - 1 - i)) := by
  unfold cv_
  rw [sm_head, Nat.sub_zero]
  have e1 : kB o c 0 = 1 := by unfold kB; rw [if_pos rfl]
  have e2 : sm n (fun i => kB o c (i + 1) * u (n - (i + 1))) = - sm n (fun i => (if i < o then c i else 0) * u (n - 1 - i)) := by
    rw [← sm_neg]
    refine sm_congr (fun i hi => ?_)
    unfold kB
    rw [if_neg (by omega), show n - (i + 1) = n - 1 - i by omega]
    by_cases h : i < o
    · rw [if_pos (by omega), if_pos h, show i + 1 - 1 = i by omega]; grind
    · rw [if_neg (by omega), if_neg h]; grind
  rw [e1, e2]
  grind
theorem kB_end {o : Nat} {c u : Nat → FP} (h : ob o c u) {n : Nat} (hn : o ≤ n) : cv_ (kB o c) u n = 0 := by
  rw [kB_cv, sm_cut hn (fun i h1 _ => by rw [if_neg (by omega)]; grind)]
  have h1 := h (n - o)
  rw [show n - o + o = n by omega] at h1
  rw [sm_congr (g := fun i => c i * u (n - 1 - i)) (fun i hi => by rw [if_pos hi]), ← h1]
  grind
theorem mi_0 {K : Type} [Lean.Grind.CommRing K] {b : Nat → K} {o : Nat} (h : ∀ i, o < i → b i = 0) : ∀ i, o < i → mi_ b i = 0 := by
  intro i hi
  unfold mi_
  rw [h i hi]
  split
  · rfl
  · grind
theorem ct_seek {σ : zWd} {a o N : Nat} {c f cf s : Nat → Nat} (hSK : SK σ) (ha : a < 20) (hse : SC σ a (nI o) c f) (hcf : ∀ i, i < o → c i = cf i) (hfs : ∀ j, j < 88 → f j = s j) (hSR : SR o cf s) (hN : N < 2 ^ 63) :
    Ct m_sk_seek [.ref 9, .ref (18 + 3 * a), .long (lN N)] 90 σ (fun r n' σ' => n' = 90 ∧ (∀ j, (j < 9 ∨ 14 < j) → σ' j = σ j) ∧ SK σ' ∧ r = some (.long (lN (s N)))) := by
  obtain ⟨k1, k2, k3, k4, k5⟩ := hse
  have ho := hSR.1
  refine Ct.of (lv := [some (.ref 9), some (.ref (18 + 3 * a)), some (.long (lN N)), none, none]) 1 (by decide) rfl (Nat.le_of_ble_eq_true rfl) ?_
  generalize hPo : (fun (r : Option Value) (n' : Nat) (σ' : zWd) => n' = 90 ∧ (∀ j, (j < 9 ∨ 14 < j) → σ' j = σ j) ∧ SK σ' ∧ r = some (.long (lN (s N)))) = Po
  have loop : ∀ (e bit : Nat) (W : zWd) (q1 q2 q3 q4 : Nat) (T B N1 N2 M0 : Nat → Nat) (bK tK : Nat → FP), bit + e = 63 → (∀ j, (j < 9 ∨ 14 < j) → W j = σ j) → W 9 = zO 3 [.ref q1, .ref q2, .ref q3, .ref q4, .ref 14] → W q1 = zN 49 T → W q2 = zN 49 B → W q3 = zN 49 N1 → W q4 = zN 49 N2 → W 14 = zN 49 M0 → (10 ≤ q1 ∧ q1 ≤ 13) → (10 ≤ q2 ∧ q2 ≤ 13) → (10 ≤ q3 ∧ q3 ≤ 13) → (10 ≤ q4 ∧ q4 ≤ 13) → q1 ≠ q2 → q1 ≠ q3 → q1 ≠ q4 → q2 ≠ q3 → q2 ≠ q4 → q3 ≠ q4 → (∀ i, T i < 2147483647) → (∀ i, B i < 2147483647) → (∀ i, N1 i < 2147483647) → (∀ i, N2 i < 2147483647) → (∀ i, M0 i < 2147483647) →
      (∀ i, i ≤ o → ph (B i) = bK i) → (∀ i, i ≤ o → ph (T i) = tK i) → (∀ i, o < i → bK i = 0) → (∀ i, o < i → tK i = 0) → bK 0 = 1 → (∀ m, cv_ bK (fun m => ph (s (2 ^ bit * m + N % 2 ^ bit))) m = tK m) → Z m_sk_seek Po 0 0 90 W 8 [some (.ref 9), some (.ref (18 + 3 * a)), some (.long (lN N)), none, some (.int (nI bit))] [] := by
    intro e
    induction e with
    | zero =>
      intro bit W q1 q2 q3 q4 T B N1 N2 M0 bK tK hbit hfr w9 w1 w2 w3 w4 w14 g1 g2 g3 g4 e12 e13 e14 e23 e24 e34 hT hB hN1 hN2 hM0 kb kt kb0 kt0 kb1 kcv
      obtain rfl : bit = 63 := by omega
      refine z_ild4 (q := 10) d_sk_seek_8 rfl ?_
      refine z_bipush (v := nI 63) (q := 12) d_sk_seek_10 rfl (by decide) ?_
      refine zn_icmp_ge (q := 15) (tgt := 45) d_sk_seek_12 rfl (by decide) (by omega) (by omega) (fun hb => ?_) (fun hb => ?_)
      · refine z_ald0 (q := 46) d_sk_seek_45 rfl ?_
        refine z_get 0 (q := 49) d_sk_seek_46 rfl fg_sk_9 (by first | assumption | omega) (by first | assumption | omega) (by rfl) ?_
        refine z_iconst (v := nI 0) (q := 50) d_sk_seek_49 rfl (by decide) ?_
        refine z_laload (q := 51) d_sk_seek_50 rfl (by first | assumption | omega) (by first | assumption | omega) (by omega) (by omega) ?_
        refine z_lret d_sk_seek_51 rfl (Nat.le_refl _) (Nat.le_refl _) ?_
        rw [← hPo]
        refine ⟨rfl, hfr, ⟨q1, q2, q3, q4, T, B, N1, N2, M0, w9, w1, w2, w3, w4, w14, g1, g2, g3, g4, e12, e13, e14, e23, e24, e34, hT, hB, hN1, hN2, hM0⟩, ?_⟩
        have h1 := kcv 0
        unfold cv_ at h1
        rw [show (0 : Nat) + 1 = 0 + 1 from rfl, sm_s, sm_0, kb1, ← kt 0 (by omega), Nat.mod_eq_of_lt hN] at h1
        have h2 : ph (T 0) = ph (s N) := by
          rw [← h1]
          simp only [Nat.sub_zero, Nat.mul_zero, Nat.zero_add]
          grind
        rw [(ph_eq (hT 0) (hSR.2.1 N)).mp h2]
      · exact absurd hb (by omega)
    | succ e ih =>
      intro bit W q1 q2 q3 q4 T B N1 N2 M0 bK tK hbit hfr w9 w1 w2 w3 w4 w14 g1 g2 g3 g4 e12 e13 e14 e23 e24 e34 hT hB hN1 hN2 hM0 kb kt kb0 kt0 kb1 kcv
      have wse : W (18 + 3 * a) = zO 1 [.int (nI o), .ref (19 + 3 * a), .ref (20 + 3 * a)] := by rw [hfr _ (by omega)]; exact k1
      have hdiv : N / 2 ^ bit ≤ N := Nat.div_le_self _ _
      refine z_ild4 (q := 10) d_sk_seek_8 rfl ?_
      refine z_bipush (v := nI 63) (q := 12) d_sk_seek_10 rfl (by decide) ?_
      refine zn_icmp_ge (q := 15) (tgt := 45) d_sk_seek_12 rfl (by decide) (by omega) (by omega) (fun hb => ?_) (fun hb => ?_)
      · exact absurd hb (by omega)
      · refine z_lld2 (q := 16) d_sk_seek_15 rfl ?_
        refine z_ild4 (q := 18) d_sk_seek_16 rfl ?_
        refine zn_lshr (q := 19) d_sk_seek_18 rfl (by omega) (by omega) ?_
        refine z_lconst (v := lN 0) (q := 20) d_sk_seek_19 rfl rfl ?_
        refine z_lcmp (q := 21) d_sk_seek_20 rfl ?_
        refine zc_if_eq (q := 24) (tgt := 45) d_sk_seek_21 rfl (by decide) (by omega) (by omega) (fun hb3 => ?_) (fun hb3 => ?_)
        · refine z_ald0 (q := 46) d_sk_seek_45 rfl ?_
          refine z_get 0 (q := 49) d_sk_seek_46 rfl fg_sk_9 (by first | assumption | omega) (by first | assumption | omega) (by rfl) ?_
          refine z_iconst (v := nI 0) (q := 50) d_sk_seek_49 rfl (by decide) ?_
          refine z_laload (q := 51) d_sk_seek_50 rfl (by first | assumption | omega) (by first | assumption | omega) (by omega) (by omega) ?_
          refine z_lret d_sk_seek_51 rfl (Nat.le_refl _) (Nat.le_refl _) ?_
          rw [← hPo]
          refine ⟨rfl, hfr, ⟨q1, q2, q3, q4, T, B, N1, N2, M0, w9, w1, w2, w3, w4, w14, g1, g2, g3, g4, e12, e13, e14, e23, e24, e34, hT, hB, hN1, hN2, hM0⟩, ?_⟩
          have hlt : N < 2 ^ bit := (Nat.div_eq_zero_iff_lt (Nat.two_pow_pos bit)).mp hb3
          have h1 := kcv 0
          unfold cv_ at h1
          rw [show (0 : Nat) + 1 = 0 + 1 from rfl, sm_s, sm_0, kb1, ← kt 0 (by omega), Nat.mod_eq_of_lt hlt] at h1
          have h2 : ph (T 0) = ph (s N) := by
            rw [← h1]
            simp only [Nat.sub_zero, Nat.mul_zero, Nat.zero_add]
            grind
          rw [(ph_eq (hT 0) (hSR.2.1 N)).mp h2]
        · refine z_ald0 (q := 25) d_sk_seek_24 rfl ?_
          refine z_ald1 (q := 26) d_sk_seek_25 rfl ?_
          refine z_get 0 (q := 29) d_sk_seek_26 rfl fg_sk_31 (by first | assumption | omega) (by first | assumption | omega) (by rfl) ?_
          refine z_lld2 (q := 30) d_sk_seek_29 rfl ?_
          refine z_ild4 (q := 32) d_sk_seek_30 rfl ?_
          refine zn_lshr (q := 33) d_sk_seek_32 rfl (by omega) (by omega) ?_
          refine z_lconst (v := lN 1) (q := 34) d_sk_seek_33 rfl rfl ?_
          refine zn_land1 (q := 35) d_sk_seek_34 rfl (by omega) ?_
          first | refine zn_l2i (q := 36) d_sk_seek_35 rfl ?_ | refine z_l2i (q := 36) d_sk_seek_35 rfl ?_
          generalize hpar : N / 2 ^ bit % 2 = par
          have hpar2 : par < 2 := by rw [← hpar]; exact Nat.mod_lt _ (by omega)
          refine z_cV2v (q := 39) d_sk_seek_36 rfl (ct_halve w9 w1 w2 w3 w4 w14 g1 g2 g3 g4 e12 e13 e14 e23 e24 e34 (by omega) (by omega) hpar2 hT hB hM0) (by first | assumption | omega) (by first | assumption | omega) rfl ck_sk_halve lk_sk_37 im_sk_halve sl_sk_halve ⟨by decide, by decide⟩ (Nat.le_of_ble_eq_true rfl) rfl rfl ?_
          refine zn_iinc4 (d := 1) (q := 42) d_sk_seek_39 rfl rfl ?_
          refine z_goto (tgt := 8) d_sk_seek_42 (by decide) ?_
          have hMm := fl_lt (x := o + 1) (hM_lt hB) hM0
          -- the mirrored row
          have km : ∀ i, i ≤ o → ph (fl_ (hM B) M0 (o + 1) i) = mi_ bK i := by
            intro i hi
            rw [fl_lo (by omega)]
            unfold hM mi_
            by_cases h2 : i % 2 = 0
            · rw [if_pos h2, if_pos h2, kb i hi]
            · have hBi := hB i
              rw [if_neg h2, if_neg h2, ph_mod, ph_sub (by omega), ph_add, ph_0, ph_P, kb i hi]; grind
          have km0 := mi_0 kb0
          generalize hmm : fl_ (hM B) M0 (o + 1) = Mm at hMm km ⊢
          refine ih (bit + 1) _ q3 q4 q1 q2 (fl_ (fun i => tM T Mm o (2 * i + par)) N1 (o + 1)) (fl_ (fun i => tM B Mm o (2 * i)) N2 (o + 1)) T B Mm (fun i => cv_ bK (mi_ bK) (2 * i)) (fun i => cv_ tK (mi_ bK) (2 * i + par)) (by omega) (fun j hj => by rw [zu_ne (by omega), zu_ne (by omega), zu_ne (by omega), zu_ne (by omega)]; exact hfr j hj) zu_same (by rw [zu_ne (by omega), zu_ne (by omega), zu_same]) (by rw [zu_ne (by omega), zu_same]) (by rw [zu_ne (by omega), zu_ne (by omega), zu_ne (by omega), zu_ne (by omega)]; exact w1) (by rw [zu_ne (by omega), zu_ne (by omega), zu_ne (by omega), zu_ne (by omega)]; exact w2) (by rw [zu_ne (by omega), zu_ne (by omega), zu_ne (by omega), zu_same]) g3 g4 g1 g2 (by omega) (by omega) (by omega) (by omega) (by omega) (by omega) (fl_lt (fun i => tm_lt _ _ _ _ _) hN1) (fl_lt (fun i => tm_lt _ _ _ _ _) hN2) hT hB hMm ?_ ?_ ?_ ?_ ?_ ?_
          · intro i hi
            rw [fl_lo (by omega)]
            exact tM_cv kb km kb0 km0
          · intro i hi
            rw [fl_lo (by omega)]
            exact tM_cv kt km kt0 km0
          · intro i hi
            exact cv_high kb0 km0 (by omega)
          · intro i hi
            exact cv_high kt0 km0 (by omega)
          · show cv_ bK (mi_ bK) (2 * 0) = 1
            unfold cv_ mi_
            rw [Nat.mul_zero, show (0 : Nat) + 1 = 0 + 1 from rfl, sm_s, sm_0, Nat.sub_self, if_pos rfl, kb1]
            grind
          · have hh := bm_half fp_two bK tK _ kcv par hpar2
            have e9 : (fun i => (fun m => ph (s (2 ^ bit * m + N % 2 ^ bit))) (2 * i + par)) = (fun m => ph (s (2 ^ (bit + 1) * m + N % 2 ^ (bit + 1)))) := by
              funext m
              show ph (s (2 ^ bit * (2 * m + par) + N % 2 ^ bit)) = _
              rw [Nat.mod_pow_succ, hpar, Nat.pow_succ, Nat.mul_add, Nat.mul_assoc (2 ^ bit) 2 m]
              congr 2
              omega
            rw [e9] at hh
            exact hh
  obtain ⟨q1, q2, q3, q4, a1, a2, a3, a4, a5, s9, s1, s2, s3, s4, s14, g1, g2, g3, g4, e12, e13, e14, e23, e24, e34, b1, b2, b3, b4, b5⟩ := hSK
  refine z_ald0 (q := 1) d_sk_seek_0 rfl ?_
  refine z_ald1 (q := 2) d_sk_seek_1 rfl ?_
  refine z_cV1v (q := 5) d_sk_seek_2 rfl (ct_skload s9 s1 s2 k1 k2 k3 g1 g2 e12 (by omega) (by omega) (by omega) (by omega) (by omega) (by omega) (by omega) k4 k5) (by first | assumption | omega) (by first | assumption | omega) rfl ck_sk_load lk_sk_27 im_sk_load sl_sk_load ⟨by decide, by decide⟩ (Nat.le_of_ble_eq_true rfl) rfl rfl ?_
  refine z_iconst (v := nI 0) (q := 6) d_sk_seek_5 rfl (by decide) ?_
  refine z_ist4 (q := 8) d_sk_seek_6 rfl rfl ?_
  have hbK : ∀ i, i ≤ o → ph (fl_ (lB c) a2 (o + 1) i) = kB o (fun i => ph (cf i)) i := by
    intro i hi
    rw [fl_lo (by omega)]
    unfold lB kB
    by_cases h0 : i = 0
    · rw [if_pos h0, if_pos h0, ph_1]
    · have hci := k4 (i - 1)
      rw [if_neg h0, if_neg h0, if_pos hi, ph_mod, ph_sub (by omega), ph_add, ph_0, ph_P, hcf (i - 1) (by omega)]; grind
  refine loop 63 0 _ q1 q2 q3 q4 (va_up (fl_ (lT c f) a1 o) o 0) (fl_ (lB c) a2 (o + 1)) a3 a4 a5 (kB o (fun i => ph (cf i))) (cv_ (kB o (fun i => ph (cf i))) (fun n => ph (s n))) (by omega) (fun j hj => by rw [zu_ne (by omega), zu_ne (by omega)]) (by rw [zu_ne (by omega), zu_ne (by omega)]; exact s9) zu_same (by rw [zu_ne (by omega), zu_same]) (by rw [zu_ne (by omega), zu_ne (by omega)]; exact s3) (by rw [zu_ne (by omega), zu_ne (by omega)]; exact s4) (by rw [zu_ne (by omega), zu_ne (by omega)]; exact s14) g1 g2 g3 g4 e12 e13 e14 e23 e24 e34 (up_lt (fl_lt (lT_lt c f) b1) (by omega)) (fl_lt (lB_lt c) b2) b3 b4 b5 hbK ?_ ?_ ?_ ?_ ?_
  · intro i hi
    by_cases hio : i = o
    · subst hio
      rw [zu_same, ph_0, kB_end (ob_of hSR) (Nat.le_refl i)]
    · have hfo := fo_lt c f i i
      have hfi := k5 i
      rw [zu_ne hio, fl_lo (by omega), kB_cv]
      unfold lT
      rw [ph_mod, ph_sub (by omega), ph_add, ph_P, fo_ph, hfs i (by omega)]
      have e1 : sm i (fun j => ph (c j) * ph (f (i - 1 - j))) = sm i (fun j => (if j < o then ph (cf j) else 0) * ph (s (i - 1 - j))) := sm_congr (fun j hj => by rw [if_pos (by omega), hcf j (by omega), hfs _ (by omega)])
      rw [e1]
      grind
  · intro i hi
    unfold kB
    rw [if_neg (by omega), if_neg (by omega)]
  · intro i hi
    exact kB_end (ob_of hSR) (by omega)
  · unfold kB
    rw [if_pos rfl]
  · intro m
    have e9 : (fun m => ph (s (2 ^ 0 * m + N % 2 ^ 0))) = (fun n => ph (s n)) := by
      funext m
      rw [Nat.pow_zero, Nat.one_mul, Nat.mod_one, Nat.add_zero]
    rw [e9]
def qTe (li : Nat) (ts : Nat → Nat → Nat) (k : Int32) (n : Int64) (v : Int32) : Prop := (¬ (isL li k ∧ ¬ n < 0) ∧ v = -1) ∨ ((isL li k ∧ ¬ n < 0) ∧ v = nI (ts k.toNatClampNeg n.toInt.toNat))
theorem CS.seek {li gi : Nat} {row od : Nat → Nat} {cf ts : Nat → Nat → Nat} {σ σ' : zWd} (h : CS li gi row od cf ts σ) (e : ∀ j, (j < 9 ∨ 14 < j) → σ' j = σ j) (hs : SK σ') : CS li gi row od cf ts σ' := by
  obtain ⟨h0, h1, ⟨h2, h2'⟩, h3, h4, h5, h6, h7, h8, h9, h10, h11, h12⟩ := h
  refine ⟨by rw [e 0 (by omega)]; exact h0, h1.congr (e 1 (by omega)), ⟨by rw [e 2 (by omega)]; exact h2, h2'⟩, h3.congr (e 3 (by omega)), h4.congr (e 4 (by omega)), h5.congr (fun j _ _ => e j (by omega)), hs, h7.congr (fun j _ _ => e j (by omega)), fun k hk => ?_, fun k hk => (h9 k hk).congr (fun j _ _ => e j (by omega)), h10, h11, h12⟩
  obtain ⟨o, c, f, hs⟩ := h8 k hk
  exact ⟨o, c, f, hs.congr (fun j _ _ => e j (by omega))⟩
theorem cc_term {σ : zWd} {li gi : Nat} {row od : Nat → Nat} {cf ts : Nat → Nat → Nat} (h : CS li gi row od cf ts σ) (k : Int32) (n : Int64) : Ct m_rs_term [.ref 0, .int k, .long n] 90 σ (AS CS FrC σ li gi row od cf ts (qTe li ts k n)) := by
  have hcs := h
  obtain ⟨h0, ⟨f, hf1, hf2⟩, ⟨h2, h2'⟩, ⟨g3, h3, h3P⟩, ⟨g4, h4, h4P⟩, hFI, hSK, hDV, h8, h9, h10, h11, h12⟩ := h
  have h0' : σ 0 = zO 0 [.ref 1, .ref 2, .ref 3, .ref 4, .ref 5, .ref 9, .ref 15, .int (nI li), .int (nI gi)] := h0
  refine Ct.of (lv := [some (.ref 0), some (.int k), some (.long n), none]) 0 (by decide) rfl (Nat.le_of_ble_eq_true rfl) ?_
  have bad : ¬ (isL li k ∧ ¬ n < 0) → Z m_rs_term (AS CS FrC σ li gi row od cf ts (qTe li ts k n)) 0 0 90 σ 14 [some (.ref 0), some (.int k), some (.long n), none] [] := by
    intro hbad
    refine z_iconst (v := (-1)) (q := 15) d_rs_term_14 rfl (by decide) ?_
    exact z_iret d_rs_term_15 rfl (Nat.le_refl _) (Nat.le_refl _) ⟨rfl, fun _ _ => rfl, ⟨_, rfl, Or.inl ⟨hbad, rfl⟩⟩, hcs⟩
  by_cases hk : isL li k
  · by_cases hn : n < 0
    · have hbad := bad (fun hh => hh.2 hn)
      obtain ⟨a, ha, rfl⟩ := hk
      refine z_ald0 (q := 1) d_rs_term_0 rfl ?_
      refine z_ild1 (q := 2) d_rs_term_1 rfl ?_
      refine z_cV1 (q := 5) d_rs_term_2 rfl (ct_isListed_yes h0 (by omega) h11 ha) (by first | assumption | omega) (by first | assumption | omega) rfl ck_rs_isListed lk_rs_75 im_rs_isListed sl_rs_isListed ⟨by decide, by decide⟩ (Nat.le_of_ble_eq_true rfl) rfl rfl ?_
      refine zi_if_eq (q := 8) (tgt := 14) d_rs_term_5 rfl (by decide) (by omega) (fun hb => absurd hb (by omega)) (fun _ => ?_)
      refine z_lld2 (q := 9) d_rs_term_8 rfl ?_
      refine z_lconst (v := lN 0) (q := 10) d_rs_term_9 rfl rfl ?_
      refine z_lcmp (q := 11) d_rs_term_10 rfl ?_
      refine z_if_ge (q := 14) (tgt := 16) d_rs_term_11 rfl (by decide) (fun hb => ?_) (fun _ => hbad)
      exfalso
      have h5 := (lg_cmp_ge n (lN 0)).mp hb
      rw [Int64.le_iff_toInt_le] at h5
      rw [Int64.lt_iff_toInt_lt] at hn
      have e0 : (lN 0).toInt = 0 := pk_lT (by decide)
      have e1 : (0 : Int64).toInt = 0 := by decide
      omega
    · have hgood : isL li k ∧ ¬ n < 0 := ⟨hk, hn⟩
      clear bad
      obtain ⟨N, hN, rfl⟩ := pk_lOf hn
      obtain ⟨a, ha, rfl⟩ := hk
      have ea : (nI a).toNatClampNeg = a := nI_clamp (by omega)
      have eN : (lN N).toInt.toNat = N := by rw [pk_lT hN]; exact Int.toNat_natCast N
      obtain ⟨ca, fa, hSC, a6, a7⟩ := h9 a ha
      have hSa := h10 a ha
      have hfa := hf2 a (by omega)
      refine z_ald0 (q := 1) d_rs_term_0 rfl ?_
      refine z_ild1 (q := 2) d_rs_term_1 rfl ?_
      refine z_cV1 (q := 5) d_rs_term_2 rfl (ct_isListed_yes h0 (by omega) h11 ha) (by first | assumption | omega) (by first | assumption | omega) rfl ck_rs_isListed lk_rs_75 im_rs_isListed sl_rs_isListed ⟨by decide, by decide⟩ (Nat.le_of_ble_eq_true rfl) rfl rfl ?_
      refine zi_if_eq (q := 8) (tgt := 14) d_rs_term_5 rfl (by decide) (by omega) (fun hb => absurd hb (by omega)) (fun _ => ?_)
      refine z_lld2 (q := 9) d_rs_term_8 rfl ?_
      refine z_lconst (v := lN 0) (q := 10) d_rs_term_9 rfl rfl ?_
      refine z_lcmp (q := 11) d_rs_term_10 rfl ?_
      refine zc_if_ge (q := 14) (tgt := 16) d_rs_term_11 rfl (by decide) (by omega) (by omega) (fun _ => ?_) (fun hb => absurd (Nat.zero_le _) hb)
      have hSK' := hSK
      obtain ⟨q1, q2, q3, q4, b1, b2, b3, b4, b5, s9, -⟩ := hSK
      refine z_ald0 (q := 17) d_rs_term_16 rfl ?_
      refine z_get 5 (q := 20) d_rs_term_17 rfl fg_rs_35 (by first | assumption | omega) (by first | assumption | omega) (by rfl) ?_
      refine z_ald0 (q := 21) d_rs_term_20 rfl ?_
      refine z_get 0 (q := 24) d_rs_term_21 rfl fg_rs_11 (by first | assumption | omega) (by first | assumption | omega) (by rfl) ?_
      refine z_ild1 (q := 25) d_rs_term_24 rfl ?_
      refine z_aaload (q := 26) d_rs_term_25 rfl (by first | assumption | omega) (by first | assumption | omega) (by omega) (by omega) (by first | assumption | omega) ?_
      refine z_lld2 (q := 27) d_rs_term_26 rfl ?_
      refine z_gV2 (q := 30) d_rs_term_27 rfl (ct_seek hSK' (by omega) hSC a6 a7 hSa hN) (by first | assumption | omega) (by first | assumption | omega) rfl ck_sk_seek lk_rs_102 im_sk_seek sl_sk_seek ⟨by decide, by decide⟩ (Nat.le_of_ble_eq_true rfl) rfl rfl (fun r m τ hp => ?_)
      obtain ⟨rfl, hfr, hSKn, rfl⟩ := hp
      first | refine zn_l2i (q := 31) d_rs_term_30 rfl ?_ | refine z_l2i (q := 31) d_rs_term_30 rfl ?_
      refine z_iret d_rs_term_31 rfl (Nat.le_refl _) (Nat.le_refl _) ⟨rfl, fun j hj => hfr j (by omega), ⟨_, rfl, Or.inr ⟨hgood, by rw [ea, eN]⟩⟩, hcs.seek hfr hSKn⟩
  · have hbad := bad (fun hh => hk hh.1)
    refine z_ald0 (q := 1) d_rs_term_0 rfl ?_
    refine z_ild1 (q := 2) d_rs_term_1 rfl ?_
    refine z_cV1 (q := 5) d_rs_term_2 rfl (ct_isListed_no h0 (by omega) h11 hk) (by first | assumption | omega) (by first | assumption | omega) rfl ck_rs_isListed lk_rs_75 im_rs_isListed sl_rs_isListed ⟨by decide, by decide⟩ (Nat.le_of_ble_eq_true rfl) rfl rfl ?_
    exact zi_if_eq (q := 8) (tgt := 14) d_rs_term_5 rfl (by decide) (by omega) (fun _ => hbad) (fun hb => absurd rfl hb)

