/-! The reference: settle -/
/-- the equations of ask say that nothing is missed -/
theorem so_ms {g tt s : Nat → Nat} {B r at' fr : Nat} (hg : ∀ q, q < B → ∀ c, c ≤ r → g ((fr + q) * 49 + c) = av_ tt at' r q c) (hs : ∀ n, n < B + r → tt (at' + n) = s n) (x : Nat → FP) : (∀ q, q < B → sm r (fun c => ph (g ((fr + q) * 49 + c)) * x c) = ph (g ((fr + q) * 49 + r))) ↔ ∀ n, n < B → ms_ r x (fun n => ph (s n)) n = 0 := by
  have key : ∀ q, q < B → (sm r (fun c => ph (g ((fr + q) * 49 + c)) * x c) = ph (g ((fr + q) * 49 + r)) ↔ ms_ r x (fun n => ph (s n)) q = 0) := by
    intro q hq
    have e1 : g ((fr + q) * 49 + r) = s (q + r) := by
      rw [hg q hq r (Nat.le_refl r)]
      unfold av_
      rw [if_neg (by omega), show at' + q + r = at' + (q + r) by omega, hs _ (by omega)]
    have e2 : sm r (fun c => ph (g ((fr + q) * 49 + c)) * x c) = sm r (fun i => x i * ph (s (q + r - 1 - i))) := by
      refine sm_congr (fun c hc => ?_)
      rw [hg q hq c (by omega)]
      unfold av_
      rw [if_pos hc, show at' + q + r - (c + 1) = at' + (q + r - 1 - c) by omega, hs _ (by omega)]
      grind
    rw [e1, e2]
    unfold ms_
    constructor
    · intro h
      show ph (s (q + r)) - sm r (fun i => x i * ph (s (q + r - 1 - i))) = 0
      rw [h]
      grind
    · intro h
      have h : ph (s (q + r)) - sm r (fun i => x i * ph (s (q + r - 1 - i))) = 0 := h
      grind
  exact ⟨fun h n hn => (key n hn).mp (h n hn), fun h q hq => (key q hq).mpr (h q hq)⟩
theorem so_ob {g tt s : Nat → Nat} {B r at' r0 : Nat} {c0 : Nat → FP} (hr0 : r0 ≤ B) (hob : ob r0 c0 (fun n => ph (s n))) (hg : ∀ q, q < B → ∀ c, c ≤ r → g (q * 49 + c) = av_ tt at' r q c) (hs : ∀ n, n < B + r → tt (at' + n) = s n) (x : Nat → FP) : so_ B r (fun q c => ph (g (q * 49 + c))) x ↔ ob r x (fun n => ph (s n)) := by
  have h1 := so_ms (fr := 0) (fun q hq c hc => by rw [Nat.zero_add]; exact hg q hq c hc) hs x
  simp only [Nat.zero_add] at h1
  refine Iff.trans h1 ⟨fun h => ob_check hob (fun n hn => h n (by omega)), fun h n _ => ob_iff.mp h n⟩
theorem mt_settle {li gi B : Nat} {row od tt s : Nat → Nat} {cf ts : Nat → Nat → Nat} {σ : zWd} (h : MS li gi row od cf ts σ) (hli : li < 20) (hB : B ≤ 24) (ht : σ 83 = zN 2400 tt) (htP : ∀ j, tt j < 2147483647) (hs : ∀ n, n < 2 * B → tt (2300 + n) = s n) (hsP : ∀ n, s n < 2147483647) (hob : ∃ r, r ≤ B ∧ ∃ c : Nat → FP, ob r c (fun n => ph (s n))) :
    Ct m_mo_settle [.ref 78, .int (nI B)] 90 σ (EN MS FrM σ li gi row od cf ts B s) := by
  obtain ⟨R, hRB, cR, hlo⟩ := lo_ex hob
  obtain ⟨hMc, hMs⟩ := h
  have hMs' := hMs
  obtain ⟨h0, ⟨h1, h1'⟩, ⟨fo, h2, h2'⟩, ⟨g1, h3, h3', h3''⟩, ⟨g2, h4, h4', h4''⟩, h5, h6, h7⟩ := hMc
  have h0m := h0
  have h0 : σ 78 = zO 5 [.int (nI li), .int (nI gi), .ref 79, .ref 80, .ref 81, .ref 82, .ref 83, .ref 84, .ref 85, .ref 86, .ref 87, .ref 88, .ref 89] := h0
  obtain ⟨-, ⟨gg, hgg, hggP⟩, ⟨pf0, hpf0⟩, -⟩ := hMs
  refine Ct.of (lv := [some (.ref 78), some (.int (nI B)), none, none]) 2 (by decide) rfl (Nat.le_of_ble_eq_true rfl) ?_
  generalize hPo : EN MS FrM σ li gi row od cf ts B s = Po
  -- the end: the solution is written down
  have fin : ∀ (g' : Nat → Nat) (pf : Nat → Int32) (k : Nat) (pv : Nat → Option Nat) (pc : Nat → Nat) (g : Nat → Nat) (t3 : Option Value), (∀ j, g' j < 2147483647) → (∀ q, q < B → ∀ c, c ≤ R → g (q * 49 + c) = av_ tt 2300 R q c) → gi_ B R (fun q c => ph (g (q * 49 + c))) R k (fun q c => ph (g' (q * 49 + c))) pv pc → (∀ c, c < R → pf c = match pv c with | some p => nI p | none => -1) → (∀ q, k ≤ q → q < B → ph (g' (q * 49 + R)) = 0) → Z m_mo_settle Po 0 0 90 (va_up (va_up σ 84 (zN 2352 g')) 85 (zI 48 pf)) 54 [some (.ref 78), some (.int (nI B)), some (.int (nI R)), t3] [] := by
    intro g' pf k pv pc g t3 hg'P hg hgi hpf hz
    have hk := hgi.2.1
    have hsol := (so_ob hRB hlo.1 hg (fun n hn => hs n (by omega)) _).mp (gi_yes hgi hz)
    have huq := lo_uniq fp_inv hlo hsol
    generalize hX : (fun c => match pv c with | some p => g' (p * 49 + R) | none => 0) = X
    have hXP : ∀ c, X c < 2147483647 := fun c => by
      rw [← hX]; dsimp only; split
      · exact hg'P _
      · omega
    have hXc : ∀ c, c < R → cR c = ph (X c) := fun c hc => by
      rw [huq c hc, ← hX]
      dsimp only
      cases pv c with
      | none => exact ph_0.symm
      | some p => rfl
    have hSR : SR R X s := SR_of (by omega) hsP hXP (lo_congr hlo hXc)
    generalize hW : va_up (va_up σ 84 (zN 2352 g')) 85 (zI 48 pf) = W
    have eW : ∀ j, j ≠ 84 → j ≠ 85 → W j = σ j := fun j q1 q2 => by rw [← hW, zu_ne q2, zu_ne q1]
    have w0 : W 78 = zO 5 [.int (nI li), .int (nI gi), .ref 79, .ref 80, .ref 81, .ref 82, .ref 83, .ref 84, .ref 85, .ref 86, .ref 87, .ref 88, .ref 89] := by rw [eW _ (by omega) (by omega)]; exact h0
    have w80 : W 80 = zI 20 fo := by rw [eW _ (by omega) (by omega)]; exact h2
    have w81 : W 81 = zN 480 g1 := by rw [eW _ (by omega) (by omega)]; exact h3
    have w82 : W 82 = zN 480 g2 := by rw [eW _ (by omega) (by omega)]; exact h4
    have w83 : W 83 = zN 2400 tt := by rw [eW _ (by omega) (by omega)]; exact ht
    have w84 : W 84 = zN 2352 g' := by rw [← hW, zu_ne (by omega), zu_same]
    have w85 : W 85 = zI 48 pf := by rw [← hW, zu_same]
    have hMsW : MSs W := by rw [← hW]; exact (hMs'.grid hg'P).pivot
    clear hW
    refine z_ald0 (q := 55) d_mo_settle_54 rfl ?_
    refine z_get 3 (q := 58) d_mo_settle_55 rfl fg_mo_13 (by first | assumption | omega) (by first | assumption | omega) (by rfl) ?_
    refine z_ald0 (q := 59) d_mo_settle_58 rfl ?_
    refine z_get 0 (q := 62) d_mo_settle_59 rfl fg_mo_48 (by first | assumption | omega) (by first | assumption | omega) (by rfl) ?_
    refine z_ild2 (q := 63) d_mo_settle_62 rfl ?_
    refine z_iastore (q := 64) d_mo_settle_63 rfl (by first | assumption | omega) (by first | assumption | omega) (by omega) (by omega) ?_
    refine z_iconst (v := nI 0) (q := 65) d_mo_settle_64 rfl (by decide) ?_
    refine z_ist3 (q := 66) d_mo_settle_65 rfl rfl ?_
    have loop : ∀ e x, x + e = R → Z m_mo_settle Po 0 0 90 (va_up (va_up (va_up W 80 (zI 20 (va_up fo li (nI R)))) 81 (zN 480 (ex_ X g1 (24 * li) x))) 82 (zN 480 (ex_ s g2 (24 * li) x))) 66 [some (.ref 78), some (.int (nI B)), some (.int (nI R)), some (.int (nI x))] [] := by
      intro e
      induction e with
      | zero =>
        intro x hx
        obtain rfl : x = R := by omega
        generalize hV : va_up (va_up (va_up W 80 (zI 20 (va_up fo li (nI x)))) 81 (zN 480 (ex_ X g1 (24 * li) x))) 82 (zN 480 (ex_ s g2 (24 * li) x)) = V
        have eV : ∀ j, j ≠ 80 → j ≠ 81 → j ≠ 82 → V j = W j := fun j q1 q2 q3 => by rw [← hV, zu_ne q3, zu_ne q2, zu_ne q1]
        have v0 : V 78 = zO 5 [.int (nI li), .int (nI gi), .ref 79, .ref 80, .ref 81, .ref 82, .ref 83, .ref 84, .ref 85, .ref 86, .ref 87, .ref 88, .ref 89] := by rw [eV _ (by omega) (by omega) (by omega)]; exact w0
        refine z_ild3 (q := 67) d_mo_settle_66 rfl ?_
        refine z_ild2 (q := 68) d_mo_settle_67 rfl ?_
        refine zn_icmp_ge (q := 71) (tgt := 144) d_mo_settle_68 rfl (by decide) (by omega) (by omega) (fun hb => ?_) (fun hb => ?_)
        · refine z_ald0 (q := 145) d_mo_settle_144 rfl ?_
          first | refine z_dup_r (q := 146) d_mo_settle_145 rfl ?_ | refine z_dup_i (q := 146) d_mo_settle_145 rfl ?_
          refine z_get 0 (q := 149) d_mo_settle_146 rfl fg_mo_48 (by first | assumption | omega) (by first | assumption | omega) (by rfl) ?_
          refine z_iconst (v := nI 1) (q := 150) d_mo_settle_149 rfl (by decide) ?_
          first | refine zn_iadd (q := 151) d_mo_settle_150 rfl ?_ | refine z_iadd (q := 151) d_mo_settle_150 rfl ?_
          refine z_put 0 (q := 154) d_mo_settle_151 rfl fg_mo_48 ft_mo fk_mo_48 (by first | assumption | omega) (by first | assumption | omega) (fun _ => rfl) (fun _ => rfl) (by simp) ?_
          refine Z.eqw (σ' := va_up V 78 (m0_ (li + 1) gi)) rfl ?_
          have y0 : va_up V 78 (m0_ (li + 1) gi) 78 = zO 5 [.int (nI (li + 1)), .int (nI gi), .ref 79, .ref 80, .ref 81, .ref 82, .ref 83, .ref 84, .ref 85, .ref 86, .ref 87, .ref 88, .ref 89] := zu_same
          refine z_ald0 (q := 155) d_mo_settle_154 rfl ?_
          refine z_get 0 (q := 158) d_mo_settle_155 rfl fg_mo_48 (by first | assumption | omega) (by first | assumption | omega) (by rfl) ?_
          refine z_iconst (v := nI 1) (q := 159) d_mo_settle_158 rfl (by decide) ?_
          first | refine zn_isub (q := 160) d_mo_settle_159 rfl (by omega) ?_ | refine z_isub (q := 160) d_mo_settle_159 rfl ?_
          refine z_iret d_mo_settle_160 rfl (Nat.le_refl _) (Nat.le_refl _) ?_
          rw [← hPo]
          have eU : ∀ j, j ≠ 78 → j ≠ 80 → j ≠ 81 → j ≠ 82 → va_up V 78 (m0_ (li + 1) gi) j = W j := fun j q0 q1 q2 q3 => by rw [zu_ne q0]; exact eV j q1 q2 q3
          refine ⟨rfl, fun j hj => by rw [eU j (by omega) (by omega) (by omega) (by omega), eW j (by omega) (by omega)], by rw [show li + 1 - 1 = li by omega], x, X, hRB, hSR, ⟨zu_same, ⟨by rw [eU 79 (by omega) (by omega) (by omega) (by omega), eW 79 (by omega) (by omega)]; exact h1, h1'⟩, ⟨va_up fo li (nI x), by rw [zu_ne (by omega), ← hV, zu_ne (by omega), zu_ne (by omega), zu_same], fun k hk => ?_⟩, ⟨ex_ X g1 (24 * li) x, by rw [zu_ne (by omega), ← hV, zu_ne (by omega), zu_same], ex_lt hXP h3', fun k hk i hi => ?_⟩, ⟨ex_ s g2 (24 * li) x, by rw [zu_ne (by omega), ← hV, zu_same], ex_lt hsP h4', fun k hk i hi => ?_⟩, fun k hk => ?_, by omega, h7⟩, hMsW.congr (fun j q1 q2 => eU j (by omega) (by omega) (by omega) (by omega))⟩
          · by_cases hkl : k = li
            · subst hkl; rw [zu_same, zu_same]
            · rw [zu_ne hkl, zu_ne hkl]; exact h2' k (by omega)
          · by_cases hkl : k = li
            · subst hkl
              rw [zu_same] at hi
              rw [zu_same]
              exact ex_in hi
            · rw [zu_ne hkl] at hi
              have ho := (h5 k (by omega)).1
              rw [zu_ne hkl, ex_out (by omega)]
              exact h3'' k (by omega) i hi
          · by_cases hkl : k = li
            · subst hkl
              rw [zu_same] at hi
              rw [zu_same]
              exact ex_in hi
            · rw [zu_ne hkl] at hi
              have ho := (h5 k (by omega)).1
              rw [zu_ne hkl, ex_out (by omega)]
              exact h4'' k (by omega) i hi
          · by_cases hkl : k = li
            · subst hkl; rw [zu_same, zu_same, zu_same]; exact hSR
            · rw [zu_ne hkl, zu_ne hkl, zu_ne hkl]; exact h5 k (by omega)
        · exact absurd hb (by omega)
      | succ e ih =>
        intro x hx
        generalize hV : va_up (va_up (va_up W 80 (zI 20 (va_up fo li (nI R)))) 81 (zN 480 (ex_ X g1 (24 * li) x))) 82 (zN 480 (ex_ s g2 (24 * li) x)) = V
        have eV : ∀ j, j ≠ 80 → j ≠ 81 → j ≠ 82 → V j = W j := fun j q1 q2 q3 => by rw [← hV, zu_ne q3, zu_ne q2, zu_ne q1]
        have v0 : V 78 = zO 5 [.int (nI li), .int (nI gi), .ref 79, .ref 80, .ref 81, .ref 82, .ref 83, .ref 84, .ref 85, .ref 86, .ref 87, .ref 88, .ref 89] := by rw [eV _ (by omega) (by omega) (by omega)]; exact w0
        have v81 : V 81 = zN 480 (ex_ X g1 (24 * li) x) := by rw [← hV, zu_ne (by omega), zu_same]
        have v84 : V 84 = zN 2352 g' := by rw [eV _ (by omega) (by omega) (by omega)]; exact w84
        have v85 : V 85 = zI 48 pf := by rw [eV _ (by omega) (by omega) (by omega)]; exact w85
        have aft : Z m_mo_settle Po 0 0 90 V 113 [some (.ref 78), some (.int (nI B)), some (.int (nI R)), some (.int (nI x))] [.long (lN (X x)), .int (nI (24 * li + x)), .ref 81] := by
          refine z_lastore (q := 114) d_mo_settle_113 rfl (by first | assumption | omega) (by first | assumption | omega) (by omega) (by omega) ?_
          have y0 : va_up V 81 (zN 480 (va_up (ex_ X g1 (24 * li) x) (24 * li + x) (X x))) 78 = zO 5 [.int (nI li), .int (nI gi), .ref 79, .ref 80, .ref 81, .ref 82, .ref 83, .ref 84, .ref 85, .ref 86, .ref 87, .ref 88, .ref 89] := by rw [zu_ne (by omega)]; exact v0
          have y82 : va_up V 81 (zN 480 (va_up (ex_ X g1 (24 * li) x) (24 * li + x) (X x))) 82 = zN 480 (ex_ s g2 (24 * li) x) := by rw [zu_ne (by omega), ← hV, zu_same]
          have y83 : va_up V 81 (zN 480 (va_up (ex_ X g1 (24 * li) x) (24 * li + x) (X x))) 83 = zN 2400 tt := by rw [zu_ne (by omega), eV _ (by omega) (by omega) (by omega)]; exact w83
          refine z_ald0 (q := 115) d_mo_settle_114 rfl ?_
          refine z_get 5 (q := 118) d_mo_settle_115 rfl fg_mo_20 (by first | assumption | omega) (by first | assumption | omega) (by rfl) ?_
          refine z_bipush (v := nI 24) (q := 120) d_mo_settle_118 rfl (by decide) ?_
          refine z_ald0 (q := 121) d_mo_settle_120 rfl ?_
          refine z_get 0 (q := 124) d_mo_settle_121 rfl fg_mo_48 (by first | assumption | omega) (by first | assumption | omega) (by rfl) ?_
          first | refine zn_imul (q := 125) d_mo_settle_124 rfl ?_ | refine z_imul (q := 125) d_mo_settle_124 rfl ?_
          refine z_ild3 (q := 126) d_mo_settle_125 rfl ?_
          first | refine zn_iadd (q := 127) d_mo_settle_126 rfl ?_ | refine z_iadd (q := 127) d_mo_settle_126 rfl ?_
          refine z_ald0 (q := 128) d_mo_settle_127 rfl ?_
          refine z_get 6 (q := 131) d_mo_settle_128 rfl fg_mo_23 (by first | assumption | omega) (by first | assumption | omega) (by rfl) ?_
          refine z_sipush (v := nI 2300) (q := 134) d_mo_settle_131 rfl (by decide) ?_
          refine z_ild3 (q := 135) d_mo_settle_134 rfl ?_
          first | refine zn_iadd (q := 136) d_mo_settle_135 rfl ?_ | refine z_iadd (q := 136) d_mo_settle_135 rfl ?_
          refine z_laload (q := 137) d_mo_settle_136 rfl (by first | assumption | omega) (by first | assumption | omega) (by omega) (by omega) ?_
          rw [hs x (by omega)]
          refine z_lastore (q := 138) d_mo_settle_137 rfl (by first | assumption | omega) (by first | assumption | omega) (by omega) (by omega) ?_
          refine zn_iinc3 (d := 1) (q := 141) d_mo_settle_138 rfl rfl ?_
          refine z_goto (tgt := 66) d_mo_settle_141 (by decide) ?_
          refine Z.eqw ?_ (ih (x + 1) (by omega))
          rw [← hV, zu_2 (by omega), ex_s, ex_s]
        have hpx := hpf x (by omega)
        refine z_ild3 (q := 67) d_mo_settle_66 rfl ?_
        refine z_ild2 (q := 68) d_mo_settle_67 rfl ?_
        refine zn_icmp_ge (q := 71) (tgt := 144) d_mo_settle_68 rfl (by decide) (by omega) (by omega) (fun hb => ?_) (fun hb => ?_)
        · exact absurd hb (by omega)
        · refine z_ald0 (q := 72) d_mo_settle_71 rfl ?_
          refine z_get 4 (q := 75) d_mo_settle_72 rfl fg_mo_17 (by first | assumption | omega) (by first | assumption | omega) (by rfl) ?_
          refine z_bipush (v := nI 24) (q := 77) d_mo_settle_75 rfl (by decide) ?_
          refine z_ald0 (q := 78) d_mo_settle_77 rfl ?_
          refine z_get 0 (q := 81) d_mo_settle_78 rfl fg_mo_48 (by first | assumption | omega) (by first | assumption | omega) (by rfl) ?_
          first | refine zn_imul (q := 82) d_mo_settle_81 rfl ?_ | refine z_imul (q := 82) d_mo_settle_81 rfl ?_
          refine z_ild3 (q := 83) d_mo_settle_82 rfl ?_
          first | refine zn_iadd (q := 84) d_mo_settle_83 rfl ?_ | refine z_iadd (q := 84) d_mo_settle_83 rfl ?_
          refine z_ald0 (q := 85) d_mo_settle_84 rfl ?_
          refine z_get 8 (q := 88) d_mo_settle_85 rfl fg_mo_29 (by first | assumption | omega) (by first | assumption | omega) (by rfl) ?_
          refine z_ild3 (q := 89) d_mo_settle_88 rfl ?_
          refine z_iaload (q := 90) d_mo_settle_89 rfl (by first | assumption | omega) (by first | assumption | omega) (by omega) (by omega) ?_
          rw [hpx]
          cases hpv : pv x with
          | none =>
            refine z_if_ge (q := 93) (tgt := 97) d_mo_settle_90 rfl (by decide) (fun hb => absurd hb (by decide)) (fun _ => ?_)
            refine z_lconst (v := lN 0) (q := 94) d_mo_settle_93 rfl rfl ?_
            refine z_goto (tgt := 113) d_mo_settle_94 (by decide) ?_
            have e9 : X x = 0 := by rw [← hX]; dsimp only; rw [hpv]
            rw [e9] at aft
            exact aft
          | some p =>
            have hp := (hgi.2.2.1 x p (by omega) hpv).1
            refine zi_if_ge (tgt := 97) d_mo_settle_90 (by decide) (by omega) ?_
            refine z_ald0 (q := 98) d_mo_settle_97 rfl ?_
            refine z_get 7 (q := 101) d_mo_settle_98 rfl fg_mo_26 (by first | assumption | omega) (by first | assumption | omega) (by rfl) ?_
            refine z_ald0 (q := 102) d_mo_settle_101 rfl ?_
            refine z_get 8 (q := 105) d_mo_settle_102 rfl fg_mo_29 (by first | assumption | omega) (by first | assumption | omega) (by rfl) ?_
            refine z_ild3 (q := 106) d_mo_settle_105 rfl ?_
            refine z_iaload (q := 107) d_mo_settle_106 rfl (by first | assumption | omega) (by first | assumption | omega) (by omega) (by omega) ?_
            rw [hpx, hpv]
            refine z_bipush (v := nI 49) (q := 109) d_mo_settle_107 rfl (by decide) ?_
            first | refine zn_imul (q := 110) d_mo_settle_109 rfl ?_ | refine z_imul (q := 110) d_mo_settle_109 rfl ?_
            refine z_ild2 (q := 111) d_mo_settle_110 rfl ?_
            first | refine zn_iadd (q := 112) d_mo_settle_111 rfl ?_ | refine z_iadd (q := 112) d_mo_settle_111 rfl ?_
            refine z_laload (q := 113) d_mo_settle_112 rfl (by first | assumption | omega) (by first | assumption | omega) (by omega) (by omega) ?_
            have e9 : X x = g' (p * 49 + R) := by rw [← hX]; dsimp only; rw [hpv]
            rw [e9] at aft
            exact aft
    refine Z.eqw ?_ (loop R 0 (by omega))
    rw [ex_0, ex_0]
    have s81 : va_up W 80 (zI 20 (va_up fo li (nI R))) 81 = zN 480 g1 := by rw [zu_ne (by omega)]; exact w81
    have s82 : va_up W 80 (zI 20 (va_up fo li (nI R))) 82 = zN 480 g2 := by rw [zu_ne (by omega)]; exact w82
    rw [← zu_id s81]
    exact zu_id s82
  -- the search for the order
  have loop : ∀ (e r : Nat) (g : Nat → Nat) (pf : Nat → Int32) (t3 : Option Value), r + e = R → (∀ j, g j < 2147483647) → (∀ q, q < B → ∀ c, c ≤ r → g (q * 49 + c) = av_ tt 2300 r q c) → Z m_mo_settle Po 0 0 90 (va_up (va_up σ 84 (zN 2352 g)) 85 (zI 48 pf)) 12 [some (.ref 78), some (.int (nI B)), some (.int (nI r)), t3] [] := by
    intro e
    induction e with
    | zero =>
      intro r g pf t3 hr hgP hg
      obtain rfl : r = R := by omega
      have w0 : va_up (va_up σ 84 (zN 2352 g)) 85 (zI 48 pf) 78 = zO 5 [.int (nI li), .int (nI gi), .ref 79, .ref 80, .ref 81, .ref 82, .ref 83, .ref 84, .ref 85, .ref 86, .ref 87, .ref 88, .ref 89] := by rw [zu_ne (by omega), zu_ne (by omega)]; exact h0
      have w4 : va_up (va_up σ 84 (zN 2352 g)) 85 (zI 48 pf) 84 = zN 2352 g := by rw [zu_ne (by omega), zu_same]
      have w5 : va_up (va_up σ 84 (zN 2352 g)) 85 (zI 48 pf) 85 = zI 48 pf := zu_same
      have hyes : so_ B r (fun q c => ph (g (q * 49 + c))) cR := (so_ob hRB hlo.1 hg (fun n hn => hs n (by omega)) cR).mpr hlo.1
      refine z_ild2 (q := 13) d_mo_settle_12 rfl ?_
      refine z_ild1 (q := 14) d_mo_settle_13 rfl ?_
      refine zn_icmp_ge (q := 17) (tgt := 42) d_mo_settle_14 rfl (by decide) (by omega) (by omega) (fun hb => ?_) (fun hb => ?_)
      · refine z_ild2 (q := 43) d_mo_settle_42 rfl ?_
        refine z_ild1 (q := 44) d_mo_settle_43 rfl ?_
        refine zn_icmp_ne (q := 47) (tgt := 54) d_mo_settle_44 rfl (by decide) (by omega) (by omega) (fun hb2 => absurd hb2 (by omega)) (fun _ => ?_)
        refine z_ald0 (q := 48) d_mo_settle_47 rfl ?_
        refine z_ild1 (q := 49) d_mo_settle_48 rfl ?_
        refine z_ild2 (q := 50) d_mo_settle_49 rfl ?_
        refine z_gV2 (q := 53) d_mo_settle_50 rfl (mt_solve w0 w4 w5 hgP (by omega) (by omega)) (by first | assumption | omega) (by first | assumption | omega) rfl ck_mo_solve lk_mo_67 im_mo_solve sl_mo_solve ⟨by decide, by decide⟩ (Nat.le_of_ble_eq_true rfl) rfl rfl (fun r m τ hp => ?_)
        obtain ⟨rfl, g', pf', k, pv, pc, rfl, hg'P, hgi, hpf', ⟨hz, rfl⟩ | ⟨hz, rfl⟩⟩ := hp
        · rw [zu_2 (by omega)]
          refine z_pop_i (q := 54) d_mo_settle_53 rfl ?_
          exact fin g' pf' k pv pc g _ hg'P hg hgi hpf' hz
        · exact absurd (gi_no hgi hyes) hz
      · refine z_ald0 (q := 18) d_mo_settle_17 rfl ?_
        refine z_ild1 (q := 19) d_mo_settle_18 rfl ?_
        refine z_ild2 (q := 20) d_mo_settle_19 rfl ?_
        refine z_gV2 (q := 23) d_mo_settle_20 rfl (mt_solve w0 w4 w5 hgP (by omega) (by omega)) (by first | assumption | omega) (by first | assumption | omega) rfl ck_mo_solve lk_mo_67 im_mo_solve sl_mo_solve ⟨by decide, by decide⟩ (Nat.le_of_ble_eq_true rfl) rfl rfl (fun r m τ hp => ?_)
        obtain ⟨rfl, g', pf', k, pv, pc, rfl, hg'P, hgi, hpf', ⟨hz, rfl⟩ | ⟨hz, rfl⟩⟩ := hp
        · rw [zu_2 (by omega)]
          refine zi_if_ne (q := 26) (tgt := 42) d_mo_settle_23 rfl (by decide) (by decide) (fun _ => ?_) (fun hb => absurd hb (by decide))
          refine z_ild2 (q := 43) d_mo_settle_42 rfl ?_
          refine z_ild1 (q := 44) d_mo_settle_43 rfl ?_
          refine zn_icmp_ne (q := 47) (tgt := 54) d_mo_settle_44 rfl (by decide) (by omega) (by omega) (fun _ => ?_) (fun hb2 => absurd hb2 (by omega))
          exact fin g' pf' k pv pc g _ hg'P hg hgi hpf' hz
        · exact absurd (gi_no hgi hyes) hz
    | succ e ih =>
      intro r g pf t3 hr hgP hg
      have w0 : va_up (va_up σ 84 (zN 2352 g)) 85 (zI 48 pf) 78 = zO 5 [.int (nI li), .int (nI gi), .ref 79, .ref 80, .ref 81, .ref 82, .ref 83, .ref 84, .ref 85, .ref 86, .ref 87, .ref 88, .ref 89] := by rw [zu_ne (by omega), zu_ne (by omega)]; exact h0
      have w4 : va_up (va_up σ 84 (zN 2352 g)) 85 (zI 48 pf) 84 = zN 2352 g := by rw [zu_ne (by omega), zu_same]
      have w5 : va_up (va_up σ 84 (zN 2352 g)) 85 (zI 48 pf) 85 = zI 48 pf := zu_same
      refine z_ild2 (q := 13) d_mo_settle_12 rfl ?_
      refine z_ild1 (q := 14) d_mo_settle_13 rfl ?_
      refine zn_icmp_ge (q := 17) (tgt := 42) d_mo_settle_14 rfl (by decide) (by omega) (by omega) (fun hb => absurd hb (by omega)) (fun hb => ?_)
      refine z_ald0 (q := 18) d_mo_settle_17 rfl ?_
      refine z_ild1 (q := 19) d_mo_settle_18 rfl ?_
      refine z_ild2 (q := 20) d_mo_settle_19 rfl ?_
      refine z_gV2 (q := 23) d_mo_settle_20 rfl (mt_solve w0 w4 w5 hgP (by omega) (by omega)) (by first | assumption | omega) (by first | assumption | omega) rfl ck_mo_solve lk_mo_67 im_mo_solve sl_mo_solve ⟨by decide, by decide⟩ (Nat.le_of_ble_eq_true rfl) rfl rfl (fun r m τ hp => ?_)
      obtain ⟨rfl, g', pf', k, pv, pc, rfl, hg'P, hgi, hpf', ⟨hz, rfl⟩ | ⟨hz, rfl⟩⟩ := hp
      · exact absurd ((so_ob hRB hlo.1 hg (fun n hn => hs n (by omega)) _).mp (gi_yes hgi hz)) (hlo.2 r _ (by omega))
      · rw [zu_2 (by omega)]
        refine zi_if_ne (q := 26) (tgt := 42) d_mo_settle_23 rfl (by decide) (by decide) (fun hb => absurd rfl hb) (fun _ => ?_)
        have y0 : va_up (va_up σ 84 (zN 2352 g')) 85 (zI 48 pf') 78 = zO 5 [.int (nI li), .int (nI gi), .ref 79, .ref 80, .ref 81, .ref 82, .ref 83, .ref 84, .ref 85, .ref 86, .ref 87, .ref 88, .ref 89] := by rw [zu_ne (by omega), zu_ne (by omega)]; exact h0
        have y3 : va_up (va_up σ 84 (zN 2352 g')) 85 (zI 48 pf') 83 = zN 2400 tt := by rw [zu_ne (by omega), zu_ne (by omega)]; exact ht
        have y4 : va_up (va_up σ 84 (zN 2352 g')) 85 (zI 48 pf') 84 = zN 2352 g' := by rw [zu_ne (by omega), zu_same]
        refine zn_iinc2 (d := 1) (q := 29) d_mo_settle_26 rfl rfl ?_
        refine z_ald0 (q := 30) d_mo_settle_29 rfl ?_
        refine z_iconst (v := nI 0) (q := 31) d_mo_settle_30 rfl (by decide) ?_
        refine z_sipush (v := nI 2300) (q := 34) d_mo_settle_31 rfl (by decide) ?_
        refine z_ild1 (q := 35) d_mo_settle_34 rfl ?_
        refine z_ild2 (q := 36) d_mo_settle_35 rfl ?_
        refine z_cV4v (q := 39) d_mo_settle_36 rfl (mt_ask y0 y3 y4 (show r + 1 ≤ 48 by omega) (show 0 + B ≤ 48 by omega) (show 2300 + B + (r + 1) ≤ 2400 by omega) htP hg'P) (by first | assumption | omega) (by first | assumption | omega) rfl ck_mo_ask lk_mo_64 im_mo_ask sl_mo_ask ⟨by decide, by decide⟩ (Nat.le_of_ble_eq_true rfl) rfl rfl ?_
        rw [zu_3 (by omega)]
        refine z_goto (tgt := 12) d_mo_settle_39 (by decide) ?_
        exact ih (r + 1) _ pf' _ (by omega) (as_lt htP hg'P) (fun q hq c hc => as_in (Nat.zero_le q) (by omega) hc (by omega))
  refine z_iconst (v := nI 0) (q := 1) d_mo_settle_0 rfl (by decide) ?_
  refine z_ist2 (q := 2) d_mo_settle_1 rfl rfl ?_
  refine z_ald0 (q := 3) d_mo_settle_2 rfl ?_
  refine z_iconst (v := nI 0) (q := 4) d_mo_settle_3 rfl (by decide) ?_
  refine z_sipush (v := nI 2300) (q := 7) d_mo_settle_4 rfl (by decide) ?_
  refine z_ild1 (q := 8) d_mo_settle_7 rfl ?_
  refine z_iconst (v := nI 0) (q := 9) d_mo_settle_8 rfl (by decide) ?_
  refine z_cV4v (q := 12) d_mo_settle_9 rfl (mt_ask h0m ht hgg (show 0 ≤ 48 by omega) (show 0 + B ≤ 48 by omega) (show 2300 + B + 0 ≤ 2400 by omega) htP hggP) (by first | assumption | omega) (by first | assumption | omega) rfl ck_mo_ask lk_mo_64 im_mo_ask sl_mo_ask ⟨by decide, by decide⟩ (Nat.le_of_ble_eq_true rfl) rfl rfl ?_
  refine Z.eqw ?_ (loop R 0 (as_ tt gg 0 2300 0 B 0) pf0 none (by omega) (as_lt htP hggP) (fun q hq c hc => as_in (Nat.zero_le q) (by omega) hc (by omega)))
  refine zu_id ?_
  rw [zu_ne (by omega)]
  exact hpf0

