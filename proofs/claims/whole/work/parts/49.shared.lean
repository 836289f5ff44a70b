/-! shared of the reference -/
theorem shv_ex {a b ca cb : Nat → FP} {ra rb : Nat} (ha : ob ra ca a) (hb : ob rb cb b) : ∃ c : Nat → FP, ob (ra + rb) c a ∧ ob (ra + rb) c b := by
  have hz := sz_cv (pl_sz ra ca) (pl_sz rb cb)
  have hw : cv_ (pl_ ra ca) (pl_ rb cb) (ra + rb) * 1 = 1 := by rw [hz.2, pl_top, pl_top]; grind
  have zb : ∀ n, ac_ (pl_ rb cb) (rb + 1) b n = 0 := fun n => by rw [pl_ac]; exact ob_iff.mp hb n
  have za : ∀ n, ac_ (pl_ ra ca) (ra + 1) a n = 0 := fun n => by rw [pl_ac]; exact ob_iff.mp ha n
  have ec : cv_ (pl_ ra ca) (pl_ rb cb) = cv_ (pl_ rb cb) (pl_ ra ca) := funext (fun n => cv_comm _ _ n)
  refine ⟨_, pl_ob hz.1 hw (fun n => ?_), pl_ob hz.1 hw (fun n => ?_)⟩
  · rw [← ac_any hz.1 (show ra + rb + 1 ≤ (rb + 1) + (ra + 1) by omega), ec, ac_cv (pl_sz rb cb) (pl_sz ra ca)]
    exact ac_zero za n
  · rw [← ac_any hz.1 (show ra + rb + 1 ≤ (ra + 1) + (rb + 1) by omega), ac_cv (pl_sz ra ca) (pl_sz rb cb)]
    exact ac_zero zb n
theorem so_two {tt g a b ca cb : Nat → Nat} {ra rb r : Nat} (hr : r ≤ 48) (hA : SR ra ca a) (hB : SR rb cb b) (ha : ∀ n, n < 72 → tt (0 + n) = a n) (hb : ∀ n, n < 72 → tt (2200 + n) = b n) (x : Nat → FP) : so_ (ra + rb) r (fun q c => ph (as_ tt (as_ tt g 0 0 r ra 0) ra 2200 r rb 0 (q * 49 + c))) x ↔ ob r x (fun n => ph (a n)) ∧ ob r x (fun n => ph (b n)) := by
  have hra := hA.1
  have hrb := hB.1
  have k1 := so_ms (g := as_ tt (as_ tt g 0 0 r ra 0) ra 2200 r rb 0) (tt := tt) (s := a) (B := ra) (r := r) (at' := 0) (fr := 0) (fun q hq c hc => by
    rw [Nat.zero_add, as_out (by omega) (by omega), as_in (by omega) (by omega) hc hr]; rfl) (fun n hn => ha n (by omega)) x
  have k2 := so_ms (g := as_ tt (as_ tt g 0 0 r ra 0) ra 2200 r rb 0) (tt := tt) (s := b) (B := rb) (r := r) (at' := 2200) (fr := ra) (fun q hq c hc => by
    rw [as_in (by omega) (by omega) hc hr, show ra + q - ra = q by omega]) (fun n hn => hb n (by omega)) x
  simp only [Nat.zero_add] at k1
  constructor
  · intro h
    refine ⟨ob_check (ob_of hA) (k1.mp (fun q hq => h q (by omega))), ob_check (ob_of hB) (k2.mp (fun q hq => h (ra + q) (by omega)))⟩
  · intro h q hq
    by_cases hq2 : q < ra
    · exact k1.mpr (fun n _ => ob_iff.mp h.1 n) q hq2
    · have := k2.mpr (fun n _ => ob_iff.mp h.2 n) (q - ra) (by omega)
      rw [show ra + (q - ra) = q by omega] at this
      exact this
theorem mm_shared {σ : zWd} {li gi : Nat} {row od : Nat → Nat} {cf ts : Nat → Nat → Nat} (h : MS li gi row od cf ts σ) (j k : Int32) : Ct m_mo_shared [.ref 78, .int j, .int k] 90 σ (AS MS FrM σ li gi row od cf ts (qSh li ts j k)) := by
  have hms := h
  obtain ⟨hMc, hMs⟩ := h
  have hMc' := hMc
  have hMs' := hMs
  obtain ⟨h0, ⟨h1, h1'⟩, ⟨fo, h2, h2'⟩, ⟨g1, h3, h3', h3''⟩, ⟨g2, h4, h4', h4''⟩, h5, h6, h7⟩ := hMc
  have h0' : σ 78 = zO 5 [.int (nI li), .int (nI gi), .ref 79, .ref 80, .ref 81, .ref 82, .ref 83, .ref 84, .ref 85, .ref 86, .ref 87, .ref 88, .ref 89] := h0
  obtain ⟨⟨gt, hgt, hgtP⟩, ⟨gg, hgg, hggP⟩, ⟨pf0, hpf0⟩, s86, s87, s88, s89⟩ := hMs
  by_cases hj : isL li j
  · by_cases hk : isL li k
    · have hgood : isL li j ∧ isL li k := ⟨hj, hk⟩
      obtain ⟨a, ha, rfl⟩ := hj
      obtain ⟨b, hb, rfl⟩ := hk
      have ea : (nI a).toNatClampNeg = a := nI_clamp (by omega)
      have eb : (nI b).toNatClampNeg = b := nI_clamp (by omega)
      have hSa := h5 a ha
      have hoa := hSa.1
      have hSb := h5 b hb
      have hob := hSb.1
      have hfa := h2' a ha
      have hfb := h2' b hb
      refine Ct.of (lv := [some (.ref 78), some (.int (nI a)), some (.int (nI b)), none, none, none]) 3 (by decide) rfl (Nat.le_of_ble_eq_true rfl) ?_
      generalize hPo : AS MS FrM σ li gi row od cf ts (qSh li ts (nI a) (nI b)) = Po
      have good : ∀ (r : Nat) (W : zWd), r ≤ 48 → shv (fun n => ph (ts a n)) (fun n => ph (ts b n)) r → FrM σ W → MS li gi row od cf ts W → Po (some (.int (nI r))) 90 W := fun r W q0 q1 q2 q3 => by rw [← hPo]; exact ⟨rfl, q2, ⟨_, rfl, Or.inr ⟨hgood, r, q0, rfl, by rw [ea, eb]; exact q1⟩⟩, q3⟩
      clear hPo hgood ea eb
      have aft : ∀ r, od a ≤ r → od b ≤ r → r ≤ od a + od b → (∀ (r' : Nat) (c : Nat → FP), r' < r → ob r' c (fun n => ph (ts a n)) → ob r' c (fun n => ph (ts b n)) → False) → Z m_mo_shared Po 0 0 90 σ 48 [some (.ref 78), some (.int (nI a)), some (.int (nI b)), none, none, none] [.int (nI r)] := by
        intro r hr1 hr2 hr3 hno
        refine z_ist3 (q := 49) d_mo_shared_48 rfl rfl ?_
        refine z_ald0 (q := 50) d_mo_shared_49 rfl ?_
        refine z_get 3 (q := 53) d_mo_shared_50 rfl fg_mo_13 (by first | assumption | omega) (by first | assumption | omega) (by rfl) ?_
        refine z_ild1 (q := 54) d_mo_shared_53 rfl ?_
        refine z_iaload (q := 55) d_mo_shared_54 rfl (by first | assumption | omega) (by first | assumption | omega) (by omega) (by omega) ?_
        rw [hfa]
        refine z_ald0 (q := 56) d_mo_shared_55 rfl ?_
        refine z_get 3 (q := 59) d_mo_shared_56 rfl fg_mo_13 (by first | assumption | omega) (by first | assumption | omega) (by rfl) ?_
        refine z_ild2 (q := 60) d_mo_shared_59 rfl ?_
        refine z_iaload (q := 61) d_mo_shared_60 rfl (by first | assumption | omega) (by first | assumption | omega) (by omega) (by omega) ?_
        rw [hfb]
        first | refine zn_iadd (q := 62) d_mo_shared_61 rfl ?_ | refine z_iadd (q := 62) d_mo_shared_61 rfl ?_
        refine z_ist4 (q := 64) d_mo_shared_62 rfl rfl ?_
        refine z_ald0 (q := 65) d_mo_shared_64 rfl ?_
        refine z_iconst (v := nI 0) (q := 66) d_mo_shared_65 rfl (by decide) ?_
        refine z_ild1 (q := 67) d_mo_shared_66 rfl ?_
        refine z_bipush (v := nI 72) (q := 69) d_mo_shared_67 rfl (by decide) ?_
        refine z_cV3v (q := 72) d_mo_shared_69 rfl (mt_expand (at' := 0) (m := 72) hMc' hgt hgtP ha (by omega)) (by first | assumption | omega) (by first | assumption | omega) rfl ck_mo_expand lk_mo_93 im_mo_expand sl_mo_expand ⟨by decide, by decide⟩ (Nat.le_of_ble_eq_true rfl) rfl rfl ?_
        have y0 : va_up σ 83 (zN 2400 (ex_ (ts a) gt 0 72)) 78 = zO 5 [.int (nI li), .int (nI gi), .ref 79, .ref 80, .ref 81, .ref 82, .ref 83, .ref 84, .ref 85, .ref 86, .ref 87, .ref 88, .ref 89] := by rw [zu_ne (by omega)]; exact h0
        refine z_ald0 (q := 73) d_mo_shared_72 rfl ?_
        refine z_sipush (v := nI 2200) (q := 76) d_mo_shared_73 rfl (by decide) ?_
        refine z_ild2 (q := 77) d_mo_shared_76 rfl ?_
        refine z_bipush (v := nI 72) (q := 79) d_mo_shared_77 rfl (by decide) ?_
        refine z_cV3v (q := 82) d_mo_shared_79 rfl (mt_expand (at' := 2200) (m := 72) (hMc'.congr (fun j q1 q2 => zu_ne (by omega))) zu_same (ex_lt hSa.2.1 hgtP) hb (by omega)) (by first | assumption | omega) (by first | assumption | omega) rfl ck_mo_expand lk_mo_93 im_mo_expand sl_mo_expand ⟨by decide, by decide⟩ (Nat.le_of_ble_eq_true rfl) rfl rfl ?_
        rw [zu_up]
        generalize hG : ex_ (ts b) (ex_ (ts a) gt 0 72) 2200 72 = G
        have hGP : ∀ j, G j < 2147483647 := fun j => by rw [← hG]; exact ex_lt hSb.2.1 (ex_lt hSa.2.1 hgtP) j
        have hGa : ∀ x, x < 72 → G (0 + x) = ts a x := fun x hx => by rw [← hG, ex_out (by omega)]; exact ex_in hx
        have hGb : ∀ x, x < 72 → G (2200 + x) = ts b x := fun x hx => by rw [← hG]; exact ex_in hx
        clear hG y0
        have ret : ∀ (r f : Nat) (g : Nat → Nat) (pf : Nat → Int32) (W : zWd), r ≤ 48 → shv (fun n => ph (ts a n)) (fun n => ph (ts b n)) r → (∀ j, j ≠ 83 → j ≠ 84 → j ≠ 85 → W j = σ j) → W 83 = zN 2400 G → W 84 = zN 2352 g → W 85 = zI 48 pf → (∀ j, g j < 2147483647) → Z m_mo_shared Po 0 0 90 W 154 [some (.ref 78), some (.int (nI a)), some (.int (nI b)), some (.int (nI r)), some (.int (nI (od a + od b))), some (.int (nI f))] [] := by
          intro r f g pf W hr hsh hW w3 w4 w5 p4
          refine z_ild3 (q := 155) d_mo_shared_154 rfl ?_
          exact z_iret d_mo_shared_155 rfl (Nat.le_refl _) (Nat.le_refl _) (good r W hr hsh (fun j hj => hW j (by omega) (by omega) (by omega)) ⟨hMc'.congr (fun j q1 q2 => hW j (by omega) (by omega) (by omega)), ⟨G, w3, hGP⟩, ⟨g, w4, p4⟩, ⟨pf, w5⟩, s86.congr (hW _ (by omega) (by omega) (by omega)), s87.congr (hW _ (by omega) (by omega) (by omega)), s88.congr (hW _ (by omega) (by omega) (by omega)), s89.congr (hW _ (by omega) (by omega) (by omega))⟩)
        have loop : ∀ (e r : Nat) (g : Nat → Nat) (pf : Nat → Int32) (W : zWd), r + e = od a + od b → od a ≤ r → od b ≤ r → (∀ (r' : Nat) (c : Nat → FP), r' < r → ob r' c (fun n => ph (ts a n)) → ob r' c (fun n => ph (ts b n)) → False) → (∀ j, j ≠ 83 → j ≠ 84 → j ≠ 85 → W j = σ j) → W 83 = zN 2400 G → W 84 = zN 2352 g → W 85 = zI 48 pf → (∀ j, g j < 2147483647) → Z m_mo_shared Po 0 0 90 W 85 [some (.ref 78), some (.int (nI a)), some (.int (nI b)), some (.int (nI r)), some (.int (nI (od a + od b))), some (.int (nI 0))] [] := by
          intro e
          induction e with
          | zero =>
            intro r g pf W hr hra hrb hno hW w3 w4 w5 p4
            obtain rfl : r = od a + od b := by omega
            refine z_ild3 (q := 86) d_mo_shared_85 rfl ?_
            refine z_ild4 (q := 88) d_mo_shared_86 rfl ?_
            refine zn_icmp_ge (q := 91) (tgt := 154) d_mo_shared_88 rfl (by decide) (by omega) (by omega) (fun _ => ?_) (fun hb9 => absurd hb9 (by omega))
            exact ret _ 0 g pf W (by omega) ⟨shv_ex (ob_of hSa) (ob_of hSb), fun r' c q1 q2 => Nat.not_lt.mp (fun q3 => hno r' c q3 q1 q2)⟩ hW w3 w4 w5 p4
          | succ e ih =>
            intro r g pf W hr hra hrb hno hW w3 w4 w5 p4
            have w0 : W 78 = zO 5 [.int (nI li), .int (nI gi), .ref 79, .ref 80, .ref 81, .ref 82, .ref 83, .ref 84, .ref 85, .ref 86, .ref 87, .ref 88, .ref 89] := by rw [hW 78 (by omega) (by omega) (by omega)]; exact h0
            have w80 : W 80 = zI 20 fo := by rw [hW 80 (by omega) (by omega) (by omega)]; exact h2
            refine z_ild3 (q := 86) d_mo_shared_85 rfl ?_
            refine z_ild4 (q := 88) d_mo_shared_86 rfl ?_
            refine zn_icmp_ge (q := 91) (tgt := 154) d_mo_shared_88 rfl (by decide) (by omega) (by omega) (fun hb9 => absurd hb9 (by omega)) (fun _ => ?_)
            refine z_ild5 (q := 93) d_mo_shared_91 rfl ?_
            refine zi_if_ne (q := 96) (tgt := 154) d_mo_shared_93 rfl (by decide) (by omega) (fun hb9 => absurd rfl hb9) (fun _ => ?_)
            refine z_ald0 (q := 97) d_mo_shared_96 rfl ?_
            refine z_iconst (v := nI 0) (q := 98) d_mo_shared_97 rfl (by decide) ?_
            refine z_iconst (v := nI 0) (q := 99) d_mo_shared_98 rfl (by decide) ?_
            refine z_ald0 (q := 100) d_mo_shared_99 rfl ?_
            refine z_get 3 (q := 103) d_mo_shared_100 rfl fg_mo_13 (by first | assumption | omega) (by first | assumption | omega) (by rfl) ?_
            refine z_ild1 (q := 104) d_mo_shared_103 rfl ?_
            refine z_iaload (q := 105) d_mo_shared_104 rfl (by first | assumption | omega) (by first | assumption | omega) (by omega) (by omega) ?_
            rw [hfa]
            refine z_ild3 (q := 106) d_mo_shared_105 rfl ?_
            refine z_cV4v (q := 109) d_mo_shared_106 rfl (mt_ask (fr := 0) (at' := 0) (many := od a) (r := r) w0 w3 w4 (by omega) (by omega) (by omega) hGP p4) (by first | assumption | omega) (by first | assumption | omega) rfl ck_mo_ask lk_mo_64 im_mo_ask sl_mo_ask ⟨by decide, by decide⟩ (Nat.le_of_ble_eq_true rfl) rfl rfl ?_
            generalize hg1 : as_ G g 0 0 r (od a) 0 = g1'
            have p41 : ∀ j, g1' j < 2147483647 := fun j => by rw [← hg1]; exact as_lt hGP p4 j
            have x0 : va_up W 84 (zN 2352 g1') 78 = zO 5 [.int (nI li), .int (nI gi), .ref 79, .ref 80, .ref 81, .ref 82, .ref 83, .ref 84, .ref 85, .ref 86, .ref 87, .ref 88, .ref 89] := by rw [zu_ne (by omega)]; exact w0
            have x80 : va_up W 84 (zN 2352 g1') 80 = zI 20 fo := by rw [zu_ne (by omega)]; exact w80
            have x3 : va_up W 84 (zN 2352 g1') 83 = zN 2400 G := by rw [zu_ne (by omega)]; exact w3
            refine z_ald0 (q := 110) d_mo_shared_109 rfl ?_
            refine z_ald0 (q := 111) d_mo_shared_110 rfl ?_
            refine z_get 3 (q := 114) d_mo_shared_111 rfl fg_mo_13 (by first | assumption | omega) (by first | assumption | omega) (by rfl) ?_
            refine z_ild1 (q := 115) d_mo_shared_114 rfl ?_
            refine z_iaload (q := 116) d_mo_shared_115 rfl (by first | assumption | omega) (by first | assumption | omega) (by omega) (by omega) ?_
            rw [hfa]
            refine z_sipush (v := nI 2200) (q := 119) d_mo_shared_116 rfl (by decide) ?_
            refine z_ald0 (q := 120) d_mo_shared_119 rfl ?_
            refine z_get 3 (q := 123) d_mo_shared_120 rfl fg_mo_13 (by first | assumption | omega) (by first | assumption | omega) (by rfl) ?_
            refine z_ild2 (q := 124) d_mo_shared_123 rfl ?_
            refine z_iaload (q := 125) d_mo_shared_124 rfl (by first | assumption | omega) (by first | assumption | omega) (by omega) (by omega) ?_
            rw [hfb]
            refine z_ild3 (q := 126) d_mo_shared_125 rfl ?_
            refine z_cV4v (q := 129) d_mo_shared_126 rfl (mt_ask (fr := od a) (at' := 2200) (many := od b) (r := r) x0 x3 zu_same (by omega) (by omega) (by omega) hGP p41) (by first | assumption | omega) (by first | assumption | omega) rfl ck_mo_ask lk_mo_64 im_mo_ask sl_mo_ask ⟨by decide, by decide⟩ (Nat.le_of_ble_eq_true rfl) rfl rfl ?_
            rw [zu_up]
            have hso := so_two (tt := G) (g := g) (r := r) (show r ≤ 48 by omega) hSa hSb hGa hGb
            rw [hg1] at hso
            generalize hg2 : as_ G g1' (od a) 2200 r (od b) 0 = g2' at hso
            have p42 : ∀ j, g2' j < 2147483647 := fun j => by rw [← hg2]; exact as_lt hGP p41 j
            have z0 : va_up W 84 (zN 2352 g2') 78 = zO 5 [.int (nI li), .int (nI gi), .ref 79, .ref 80, .ref 81, .ref 82, .ref 83, .ref 84, .ref 85, .ref 86, .ref 87, .ref 88, .ref 89] := by rw [zu_ne (by omega)]; exact w0
            refine z_ald0 (q := 130) d_mo_shared_129 rfl ?_
            refine z_ild4 (q := 132) d_mo_shared_130 rfl ?_
            refine z_ild3 (q := 133) d_mo_shared_132 rfl ?_
            refine z_gV2 (q := 136) d_mo_shared_133 rfl (mt_solve (rows := od a + od b) (r := r) z0 zu_same (show va_up W 84 (zN 2352 g2') 85 = zI 48 pf by rw [zu_ne (by omega)]; exact w5) p42 (by omega) (by omega)) (by first | assumption | omega) (by first | assumption | omega) rfl ck_mo_solve lk_mo_67 im_mo_solve sl_mo_solve ⟨by decide, by decide⟩ (Nat.le_of_ble_eq_true rfl) rfl rfl (fun r m τ hp => ?_)
            obtain ⟨rfl, g', pf', kk, pv, pc, rfl, hg'P, hgi, -, ⟨hz, rfl⟩ | ⟨hz, rfl⟩⟩ := hp
            · have hsol := (hso _).mp (gi_yes hgi hz)
              refine z_ist5 (q := 138) d_mo_shared_136 rfl rfl ?_
              refine z_ild5 (q := 140) d_mo_shared_138 rfl ?_
              refine zi_if_eq (q := 143) (tgt := 147) d_mo_shared_140 rfl (by decide) (by omega) (fun hb9 => absurd hb9 (by omega)) (fun _ => ?_)
              refine z_ild3 (q := 144) d_mo_shared_143 rfl ?_
              refine z_goto (tgt := 150) d_mo_shared_144 (by decide) ?_
              refine z_ist3 (q := 151) d_mo_shared_150 rfl rfl ?_
              refine z_goto (tgt := 85) d_mo_shared_151 (by decide) ?_
              refine z_ild3 (q := 86) d_mo_shared_85 rfl ?_
              refine z_ild4 (q := 88) d_mo_shared_86 rfl ?_
              refine zn_icmp_ge (q := 91) (tgt := 154) d_mo_shared_88 rfl (by decide) (by omega) (by omega) (fun hb9 => absurd hb9 (by omega)) (fun _ => ?_)
              refine z_ild5 (q := 93) d_mo_shared_91 rfl ?_
              refine zi_if_ne (q := 96) (tgt := 154) d_mo_shared_93 rfl (by decide) (by omega) (fun _ => ?_) (fun hb9 => absurd hb9 (by omega))
              exact ret _ 1 g' pf' _ (by omega) ⟨⟨_, hsol⟩, fun r' c q1 q2 => Nat.not_lt.mp (fun q3 => hno r' c q3 q1 q2)⟩ (fun j q3 q4 q5 => by rw [zu_ne q5, zu_ne q4, zu_ne q4]; exact hW j q3 q4 q5) (by rw [zu_ne (by omega), zu_ne (by omega), zu_ne (by omega)]; exact w3) (by rw [zu_ne (by omega), zu_same]) zu_same hg'P
            · refine z_ist5 (q := 138) d_mo_shared_136 rfl rfl ?_
              refine z_ild5 (q := 140) d_mo_shared_138 rfl ?_
              refine zi_if_eq (q := 143) (tgt := 147) d_mo_shared_140 rfl (by decide) (by omega) (fun _ => ?_) (fun hb9 => absurd rfl hb9)
              refine z_ild3 (q := 148) d_mo_shared_147 rfl ?_
              refine z_iconst (v := nI 1) (q := 149) d_mo_shared_148 rfl (by decide) ?_
              first | refine zn_iadd (q := 150) d_mo_shared_149 rfl ?_ | refine z_iadd (q := 150) d_mo_shared_149 rfl ?_
              refine z_ist3 (q := 151) d_mo_shared_150 rfl rfl ?_
              refine z_goto (tgt := 85) d_mo_shared_151 (by decide) ?_
              refine ih (r + 1) g' pf' _ (by omega) (by omega) (by omega) (fun r' c q1 q2 q3 => ?_) (fun j q3 q4 q5 => by rw [zu_ne q5, zu_ne q4, zu_ne q4]; exact hW j q3 q4 q5) (by rw [zu_ne (by omega), zu_ne (by omega), zu_ne (by omega)]; exact w3) (by rw [zu_ne (by omega), zu_same]) zu_same hg'P
              by_cases hrr : r' = r
              · subst hrr
                exact hz (gi_no hgi ((hso c).mpr ⟨q2, q3⟩))
              · exact hno r' c (by omega) q2 q3
        refine z_iconst (v := nI 0) (q := 83) d_mo_shared_82 rfl (by decide) ?_
        refine z_ist5 (q := 85) d_mo_shared_83 rfl rfl ?_
        exact loop (od a + od b - r) r gg pf0 _ (by omega) hr1 hr2 hno (fun j q3 q4 q5 => zu_ne q3) zu_same (by rw [zu_ne (by omega)]; exact hgg) (by rw [zu_ne (by omega)]; exact hpf0) hggP
      refine z_ald0 (q := 1) d_mo_shared_0 rfl ?_
      refine z_ild1 (q := 2) d_mo_shared_1 rfl ?_
      refine z_cV1 (q := 5) d_mo_shared_2 rfl (mt_isIn_yes h0 (by omega) h6 ha) (by first | assumption | omega) (by first | assumption | omega) rfl ck_mo_isIn lk_mo_82 im_mo_isIn sl_mo_isIn ⟨by decide, by decide⟩ (Nat.le_of_ble_eq_true rfl) rfl rfl ?_
      refine zi_if_eq (q := 8) (tgt := 16) d_mo_shared_5 rfl (by decide) (by omega) (fun hb9 => absurd hb9 (by omega)) (fun _ => ?_)
      refine z_ald0 (q := 9) d_mo_shared_8 rfl ?_
      refine z_ild2 (q := 10) d_mo_shared_9 rfl ?_
      refine z_cV1 (q := 13) d_mo_shared_10 rfl (mt_isIn_yes h0 (by omega) h6 hb) (by first | assumption | omega) (by first | assumption | omega) rfl ck_mo_isIn lk_mo_82 im_mo_isIn sl_mo_isIn ⟨by decide, by decide⟩ (Nat.le_of_ble_eq_true rfl) rfl rfl ?_
      refine zi_if_ne (q := 16) (tgt := 18) d_mo_shared_13 rfl (by decide) (by omega) (fun _ => ?_) (fun hb9 => absurd hb9 (by omega))
      refine z_ald0 (q := 19) d_mo_shared_18 rfl ?_
      refine z_get 3 (q := 22) d_mo_shared_19 rfl fg_mo_13 (by first | assumption | omega) (by first | assumption | omega) (by rfl) ?_
      refine z_ild1 (q := 23) d_mo_shared_22 rfl ?_
      refine z_iaload (q := 24) d_mo_shared_23 rfl (by first | assumption | omega) (by first | assumption | omega) (by omega) (by omega) ?_
      rw [hfa]
      refine z_ald0 (q := 25) d_mo_shared_24 rfl ?_
      refine z_get 3 (q := 28) d_mo_shared_25 rfl fg_mo_13 (by first | assumption | omega) (by first | assumption | omega) (by rfl) ?_
      refine z_ild2 (q := 29) d_mo_shared_28 rfl ?_
      refine z_iaload (q := 30) d_mo_shared_29 rfl (by first | assumption | omega) (by first | assumption | omega) (by omega) (by omega) ?_
      rw [hfb]
      refine zn_icmp_le (q := 33) (tgt := 42) d_mo_shared_30 rfl (by decide) (by omega) (by omega) (fun hle => ?_) (fun hle => ?_)
      · refine z_ald0 (q := 43) d_mo_shared_42 rfl ?_
        refine z_get 3 (q := 46) d_mo_shared_43 rfl fg_mo_13 (by first | assumption | omega) (by first | assumption | omega) (by rfl) ?_
        refine z_ild2 (q := 47) d_mo_shared_46 rfl ?_
        refine z_iaload (q := 48) d_mo_shared_47 rfl (by first | assumption | omega) (by first | assumption | omega) (by omega) (by omega) ?_
        rw [hfb]
        exact aft (od b) hle (Nat.le_refl _) (by omega) (fun r' c q1 _ q3 => hSb.2.2.2.2.2 r' c q1 q3)
      · refine z_ald0 (q := 34) d_mo_shared_33 rfl ?_
        refine z_get 3 (q := 37) d_mo_shared_34 rfl fg_mo_13 (by first | assumption | omega) (by first | assumption | omega) (by rfl) ?_
        refine z_ild1 (q := 38) d_mo_shared_37 rfl ?_
        refine z_iaload (q := 39) d_mo_shared_38 rfl (by first | assumption | omega) (by first | assumption | omega) (by omega) (by omega) ?_
        rw [hfa]
        refine z_goto (tgt := 48) d_mo_shared_39 (by decide) ?_
        exact aft (od a) (Nat.le_refl _) (by omega) (by omega) (fun r' c q1 q2 _ => hSa.2.2.2.2.2 r' c q1 q2)
    · obtain ⟨a, ha, rfl⟩ := hj
      refine Ct.of (lv := [some (.ref 78), some (.int (nI a)), some (.int k), none, none, none]) 3 (by decide) rfl (Nat.le_of_ble_eq_true rfl) ?_
      refine z_ald0 (q := 1) d_mo_shared_0 rfl ?_
      refine z_ild1 (q := 2) d_mo_shared_1 rfl ?_
      refine z_cV1 (q := 5) d_mo_shared_2 rfl (mt_isIn_yes h0 (by omega) h6 ha) (by first | assumption | omega) (by first | assumption | omega) rfl ck_mo_isIn lk_mo_82 im_mo_isIn sl_mo_isIn ⟨by decide, by decide⟩ (Nat.le_of_ble_eq_true rfl) rfl rfl ?_
      refine zi_if_eq (q := 8) (tgt := 16) d_mo_shared_5 rfl (by decide) (by omega) (fun hb9 => absurd hb9 (by omega)) (fun _ => ?_)
      refine z_ald0 (q := 9) d_mo_shared_8 rfl ?_
      refine z_ild2 (q := 10) d_mo_shared_9 rfl ?_
      refine z_cV1 (q := 13) d_mo_shared_10 rfl (mt_isIn_no h0 (by omega) h6 hk) (by first | assumption | omega) (by first | assumption | omega) rfl ck_mo_isIn lk_mo_82 im_mo_isIn sl_mo_isIn ⟨by decide, by decide⟩ (Nat.le_of_ble_eq_true rfl) rfl rfl ?_
      refine zi_if_ne (q := 16) (tgt := 18) d_mo_shared_13 rfl (by decide) (by omega) (fun hb9 => absurd rfl hb9) (fun _ => ?_)
      refine z_iconst (v := (-1)) (q := 17) d_mo_shared_16 rfl (by decide) ?_
      exact z_iret d_mo_shared_17 rfl (Nat.le_refl _) (Nat.le_refl _) ⟨rfl, fun _ _ => rfl, ⟨_, rfl, Or.inl ⟨fun hh => hk hh.2, rfl⟩⟩, hms⟩
  · refine Ct.of (lv := [some (.ref 78), some (.int j), some (.int k), none, none, none]) 3 (by decide) rfl (Nat.le_of_ble_eq_true rfl) ?_
    refine z_ald0 (q := 1) d_mo_shared_0 rfl ?_
    refine z_ild1 (q := 2) d_mo_shared_1 rfl ?_
    refine z_cV1 (q := 5) d_mo_shared_2 rfl (mt_isIn_no h0 (by omega) h6 hj) (by first | assumption | omega) (by first | assumption | omega) rfl ck_mo_isIn lk_mo_82 im_mo_isIn sl_mo_isIn ⟨by decide, by decide⟩ (Nat.le_of_ble_eq_true rfl) rfl rfl ?_
    refine zi_if_eq (q := 8) (tgt := 16) d_mo_shared_5 rfl (by decide) (by omega) (fun _ => ?_) (fun hb9 => absurd rfl hb9)
    refine z_iconst (v := (-1)) (q := 17) d_mo_shared_16 rfl (by decide) ?_
    exact z_iret d_mo_shared_17 rfl (Nat.le_refl _) (Nat.le_refl _) ⟨rfl, fun _ _ => rfl, ⟨_, rfl, Or.inl ⟨fun hh => hj hh.1, rfl⟩⟩, hms⟩


