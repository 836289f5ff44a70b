/-! The reference: solve and settle -/
theorem zu_3 {α : Type} {f : Nat → α} {p q : Nat} {a b a' : α} (h : p ≠ q) : va_up (va_up (va_up f p a) q b) p a' = va_up (va_up f p a') q b := by
  funext j
  by_cases h1 : j = p
  · subst h1; simp [va_up, h]
  · by_cases h2 : j = q <;> simp [va_up, h1, h2, Ne.symm h]
theorem gi_congr {K : Type} [Lean.Grind.CommRing K] {rows r col k : Nat} {g0 g g' : Nat → Nat → K} {pv : Nat → Option Nat} {pc : Nat → Nat} (h : gi_ rows r g0 col k g pv pc) (hc : col ≤ r) (e : ∀ q, q < rows → ∀ c, c ≤ r → g q c = g' q c) : gi_ rows r g0 col k g' pv pc := by
  obtain ⟨h1, h2, h3, h4, h5⟩ := h
  refine ⟨fun x => (so_congr (fun q hq c hc => (e q hq c hc).symm) x).trans (h1 x), h2, fun c p q1 q2 => ?_, fun c q1 q2 q q3 q4 => ?_, h5⟩
  · obtain ⟨k1, k2, k3⟩ := h3 c p q1 q2
    exact ⟨k1, k2, fun q hq => by rw [← e q hq c (by omega)]; exact k3 q hq⟩
  · rw [← e q q4 c (by omega)]
    exact h4 c q1 q2 q q3 q4
def SV (σ : zWd) (rows r : Nat) (g0 : Nat → Nat → FP) : Option Value → Nat → zWd → Prop := fun res n' σ' => n' = 90 ∧ ∃ (g' : Nat → Nat) (pf : Nat → Int32) (k : Nat) (pv : Nat → Option Nat) (pc : Nat → Nat), σ' = va_up (va_up σ 84 (zN 2352 g')) 85 (zI 48 pf) ∧ (∀ j, g' j < 2147483647) ∧ gi_ rows r g0 r k (fun q c => ph (g' (q * 49 + c))) pv pc ∧ (∀ c, c < r → pf c = match pv c with | some p => nI p | none => -1) ∧ (((∀ q, k ≤ q → q < rows → ph (g' (q * 49 + r)) = 0) ∧ res = some (.int (nI 1))) ∨ (¬ (∀ q, k ≤ q → q < rows → ph (g' (q * 49 + r)) = 0) ∧ res = some (.int (nI 0))))
theorem mt_solve {σ : zWd} {li gi : Nat} {g : Nat → Nat} {pf0 : Nat → Int32} {rows r : Nat} (h0 : σ 78 = m0_ li gi) (hg : σ 84 = zN 2352 g) (hp0 : σ 85 = zI 48 pf0) (hgP : ∀ j, g j < 2147483647) (hrows : rows ≤ 48) (hr : r ≤ 48) : Ct m_mo_solve [.ref 78, .int (nI rows), .int (nI r)] 90 σ (SV σ rows r (fun q c => ph (g (q * 49 + c)))) := by
  have h0m := h0
  have h0 : σ 78 = zO 5 [.int (nI li), .int (nI gi), .ref 79, .ref 80, .ref 81, .ref 82, .ref 83, .ref 84, .ref 85, .ref 86, .ref 87, .ref 88, .ref 89] := h0
  refine Ct.of (lv := [some (.ref 78), some (.int (nI rows)), some (.int (nI r)), none, none, none]) 3 (by decide) rfl (Nat.le_of_ble_eq_true rfl) ?_
  generalize hg0 : (fun q c => ph (g (q * 49 + c))) = g0
  generalize hPo : SV σ rows r g0 = Po
  -- the right sides below the rank
  have scan : ∀ (G : Nat → Nat) (pf : Nat → Int32) (k : Nat) (pv : Nat → Option Nat) (pc : Nat → Nat) (t5 : Option Value), (∀ j, G j < 2147483647) → gi_ rows r g0 r k (fun q c => ph (G (q * 49 + c))) pv pc → (∀ c, c < r → pf c = match pv c with | some p => nI p | none => -1) → ∀ e q, q + e = rows → k ≤ q → (∀ p, k ≤ p → p < q → ph (G (p * 49 + r)) = 0) → Z m_mo_solve Po 0 0 90 (va_up (va_up σ 84 (zN 2352 G)) 85 (zI 48 pf)) 97 [some (.ref 78), some (.int (nI rows)), some (.int (nI r)), some (.int (nI k)), some (.int (nI q)), t5] [] := by
    intro G pf k pv pc t5 hGP hgi hpf e
    induction e with
    | zero =>
      intro q hq hkq hz
      obtain rfl : q = rows := by omega
      refine z_ild4 (q := 99) d_mo_solve_97 rfl ?_
      refine z_ild1 (q := 100) d_mo_solve_99 rfl ?_
      refine zn_icmp_ge (q := 103) (tgt := 128) d_mo_solve_100 rfl (by decide) (by omega) (by omega) (fun hb => ?_) (fun hb => ?_)
      · refine z_iconst (v := nI 1) (q := 129) d_mo_solve_128 rfl (by decide) ?_
        exact z_zret d_mo_solve_129 rfl rfl (Nat.le_refl _) (Nat.le_refl _) (by rw [← hPo]; exact ⟨rfl, G, pf, k, pv, pc, rfl, hGP, hgi, hpf, Or.inl ⟨hz, rfl⟩⟩)
      · exact absurd hb (by omega)
    | succ e ih =>
      intro q hq hkq hz
      have w0 : va_up (va_up σ 84 (zN 2352 G)) 85 (zI 48 pf) 78 = zO 5 [.int (nI li), .int (nI gi), .ref 79, .ref 80, .ref 81, .ref 82, .ref 83, .ref 84, .ref 85, .ref 86, .ref 87, .ref 88, .ref 89] := by rw [zu_ne (by omega), zu_ne (by omega)]; exact h0
      have w4 : va_up (va_up σ 84 (zN 2352 G)) 85 (zI 48 pf) 84 = zN 2352 G := by rw [zu_ne (by omega), zu_same]
      have q1 := hGP (q * 49 + r)
      refine z_ild4 (q := 99) d_mo_solve_97 rfl ?_
      refine z_ild1 (q := 100) d_mo_solve_99 rfl ?_
      refine zn_icmp_ge (q := 103) (tgt := 128) d_mo_solve_100 rfl (by decide) (by omega) (by omega) (fun hb => ?_) (fun hb => ?_)
      · exact absurd hb (by omega)
      · refine z_ald0 (q := 104) d_mo_solve_103 rfl ?_
        refine z_get 7 (q := 107) d_mo_solve_104 rfl fg_mo_26 (by first | assumption | omega) (by first | assumption | omega) (by rfl) ?_
        refine z_ild4 (q := 109) d_mo_solve_107 rfl ?_
        refine z_bipush (v := nI 49) (q := 111) d_mo_solve_109 rfl (by decide) ?_
        first | refine zn_imul (q := 112) d_mo_solve_111 rfl ?_ | refine z_imul (q := 112) d_mo_solve_111 rfl ?_
        refine z_ild2 (q := 113) d_mo_solve_112 rfl ?_
        first | refine zn_iadd (q := 114) d_mo_solve_113 rfl ?_ | refine z_iadd (q := 114) d_mo_solve_113 rfl ?_
        refine z_laload (q := 115) d_mo_solve_114 rfl (by first | assumption | omega) (by first | assumption | omega) (by omega) (by omega) ?_
        refine z_lconst (v := lN 0) (q := 116) d_mo_solve_115 rfl rfl ?_
        refine z_lcmp (q := 117) d_mo_solve_116 rfl ?_
        refine zc_if_eq (q := 120) (tgt := 122) d_mo_solve_117 rfl (by decide) (by omega) (by omega) (fun hb2 => ?_) (fun hb2 => ?_)
        · refine zn_iinc4 (d := 1) (q := 125) d_mo_solve_122 rfl rfl ?_
          refine z_goto (tgt := 97) d_mo_solve_125 (by decide) ?_
          refine ih (q + 1) (by omega) (by omega) (fun p p1 p2 => ?_)
          by_cases hpq : p = q
          · rw [hpq, hb2, ph_0]
          · exact hz p p1 (by omega)
        · refine z_iconst (v := nI 0) (q := 121) d_mo_solve_120 rfl (by decide) ?_
          refine z_zret d_mo_solve_121 rfl rfl (Nat.le_refl _) (Nat.le_refl _) ?_
          rw [← hPo]
          refine ⟨rfl, G, pf, k, pv, pc, rfl, hGP, hgi, hpf, Or.inr ⟨fun hh => hb2 ?_, rfl⟩⟩
          exact (ph_eq q1 (by omega)).mp ((hh q hkq (by omega)).trans ph_0.symm)
  have loop : ∀ (e col : Nat) (G : Nat → Nat) (pf : Nat → Int32) (k : Nat) (pv : Nat → Option Nat) (pc : Nat → Nat) (t5 : Option Value), col + e = r → (∀ j, G j < 2147483647) → gi_ rows r g0 col k (fun q c => ph (G (q * 49 + c))) pv pc → (∀ c, c < col → pf c = match pv c with | some p => nI p | none => -1) → Z m_mo_solve Po 0 0 90 (va_up (va_up σ 84 (zN 2352 G)) 85 (zI 48 pf)) 5 [some (.ref 78), some (.int (nI rows)), some (.int (nI r)), some (.int (nI k)), some (.int (nI col)), t5] [] := by
    intro e
    induction e with
    | zero =>
      intro col G pf k pv pc t5 hc hGP hgi hpf
      obtain rfl : col = r := by omega
      have hk := hgi.2.1
      refine z_ild4 (q := 7) d_mo_solve_5 rfl ?_
      refine z_ild2 (q := 8) d_mo_solve_7 rfl ?_
      refine zn_icmp_ge (q := 11) (tgt := 94) d_mo_solve_8 rfl (by decide) (by omega) (by omega) (fun hb => ?_) (fun hb => ?_)
      · refine z_ild3 (q := 95) d_mo_solve_94 rfl ?_
        refine z_ist4 (q := 97) d_mo_solve_95 rfl rfl ?_
        exact scan G pf k pv pc _ hGP hgi hpf (rows - k) k (by omega) (Nat.le_refl _) (fun p p1 p2 => by omega)
      · exact absurd hb (by omega)
    | succ e ih =>
      intro col G pf k pv pc t5 hc hGP hgi hpf
      have hk := hgi.2.1
      have w0 : va_up (va_up σ 84 (zN 2352 G)) 85 (zI 48 pf) 78 = zO 5 [.int (nI li), .int (nI gi), .ref 79, .ref 80, .ref 81, .ref 82, .ref 83, .ref 84, .ref 85, .ref 86, .ref 87, .ref 88, .ref 89] := by rw [zu_ne (by omega), zu_ne (by omega)]; exact h0
      have w4 : va_up (va_up σ 84 (zN 2352 G)) 85 (zI 48 pf) 84 = zN 2352 G := by rw [zu_ne (by omega), zu_same]
      have w5 : va_up (va_up σ 84 (zN 2352 G)) 85 (zI 48 pf) 85 = zI 48 pf := zu_same
      -- behind the search
      have aft : ∀ t, k ≤ t → t ≤ rows → (∀ q, k ≤ q → q < t → ph (G (q * 49 + col)) = 0) → (t < rows → ph (G (t * 49 + col)) ≠ 0) → Z m_mo_solve Po 0 0 90 (va_up (va_up σ 84 (zN 2352 G)) 85 (zI 48 pf)) 44 [some (.ref 78), some (.int (nI rows)), some (.int (nI r)), some (.int (nI k)), some (.int (nI col)), some (.int (nI t))] [] := by
        intro t hkt htr hz hnz
        by_cases htr2 : t < rows
        · refine z_ald0 (q := 45) d_mo_solve_44 rfl ?_
          refine z_get 8 (q := 48) d_mo_solve_45 rfl fg_mo_29 (by first | assumption | omega) (by first | assumption | omega) (by rfl) ?_
          refine z_ild4 (q := 50) d_mo_solve_48 rfl ?_
          refine z_ild5 (q := 52) d_mo_solve_50 rfl ?_
          refine z_ild1 (q := 53) d_mo_solve_52 rfl ?_
          refine zn_icmp_ge (q := 56) (tgt := 60) d_mo_solve_53 rfl (by decide) (by omega) (by omega) (fun hb => absurd hb (by omega)) (fun _ => ?_)
          refine z_ild3 (q := 57) d_mo_solve_56 rfl ?_
          refine z_goto (tgt := 61) d_mo_solve_57 (by decide) ?_
          refine z_iastore (q := 62) d_mo_solve_61 rfl (by first | assumption | omega) (by first | assumption | omega) (by omega) (by omega) ?_
          rw [zu_up]
          refine z_ild5 (q := 64) d_mo_solve_62 rfl ?_
          refine z_ild1 (q := 65) d_mo_solve_64 rfl ?_
          refine zn_icmp_ge (q := 68) (tgt := 88) d_mo_solve_65 rfl (by decide) (by omega) (by omega) (fun hb => absurd hb (by omega)) (fun _ => ?_)
          have v0 : va_up (va_up σ 84 (zN 2352 G)) 85 (zI 48 (va_up pf col (nI k))) 78 = zO 5 [.int (nI li), .int (nI gi), .ref 79, .ref 80, .ref 81, .ref 82, .ref 83, .ref 84, .ref 85, .ref 86, .ref 87, .ref 88, .ref 89] := by rw [zu_ne (by omega), zu_ne (by omega)]; exact h0
          have v4 : va_up (va_up σ 84 (zN 2352 G)) 85 (zI 48 (va_up pf col (nI k))) 84 = zN 2352 G := by rw [zu_ne (by omega), zu_same]
          refine z_ald0 (q := 69) d_mo_solve_68 rfl ?_
          refine z_ild5 (q := 71) d_mo_solve_69 rfl ?_
          refine z_ild3 (q := 72) d_mo_solve_71 rfl ?_
          refine z_ild2 (q := 73) d_mo_solve_72 rfl ?_
          refine z_cV3v (q := 76) d_mo_solve_73 rfl (mt_swapRows v0 v4 (show t < 48 by omega) (show k < 48 by omega) hr) (by first | assumption | omega) (by first | assumption | omega) rfl ck_mo_swapRows lk_mo_56 im_mo_swapRows sl_mo_swapRows ⟨by decide, by decide⟩ (Nat.le_of_ble_eq_true rfl) rfl rfl ?_
          rw [zu_3 (by omega)]
          have y0 : va_up (va_up σ 84 (zN 2352 (sr_ G t k (r + 1)))) 85 (zI 48 (va_up pf col (nI k))) 78 = zO 5 [.int (nI li), .int (nI gi), .ref 79, .ref 80, .ref 81, .ref 82, .ref 83, .ref 84, .ref 85, .ref 86, .ref 87, .ref 88, .ref 89] := by rw [zu_ne (by omega), zu_ne (by omega)]; exact h0
          have y4 : va_up (va_up σ 84 (zN 2352 (sr_ G t k (r + 1)))) 85 (zI 48 (va_up pf col (nI k))) 84 = zN 2352 (sr_ G t k (r + 1)) := by rw [zu_ne (by omega), zu_same]
          refine z_ald0 (q := 77) d_mo_solve_76 rfl ?_
          refine z_ild3 (q := 78) d_mo_solve_77 rfl ?_
          refine z_ild4 (q := 80) d_mo_solve_78 rfl ?_
          refine z_ild1 (q := 81) d_mo_solve_80 rfl ?_
          refine z_ild2 (q := 82) d_mo_solve_81 rfl ?_
          refine z_gV4 (q := 85) d_mo_solve_82 rfl (mt_clean y0 y4 (sr_lt hGP) (show k < rows by omega) hrows (show col ≤ r by omega) hr) (by first | assumption | omega) (by first | assumption | omega) rfl ck_mo_clean lk_mo_60 im_mo_clean sl_mo_clean ⟨by decide, by decide⟩ (Nat.le_of_ble_eq_true rfl) rfl rfl (fun r m τ hp => ?_)
          obtain ⟨rfl, rfl, g', rfl, hg'P, hg'⟩ := hp
          rw [zu_3 (by omega)]
          refine zn_iinc3 (d := 1) (q := 88) d_mo_solve_85 rfl rfl ?_
          refine zn_iinc4 (d := 1) (q := 91) d_mo_solve_88 rfl rfl ?_
          refine z_goto (tgt := 5) d_mo_solve_91 (by decide) ?_
          -- the pivot's inverse
          have hsk : sr_ G t k (r + 1) (k * 49 + col) = G (t * 49 + col) := by
            unfold sr_
            rw [show (k * 49 + col) % 49 = col by omega, show (k * 49 + col) / 49 = k by omega, if_pos (by omega)]
            by_cases hkt2 : k = t
            · rw [if_pos hkt2, hkt2]
            · rw [if_neg hkt2, if_pos rfl]
          have hinv := in_ph (hnz htr2)
          have hpiv := gi_pivot (t := t) (w := ph (in_ (G (t * 49 + col)))) hgi hkt htr2 hinv
          rw [hsk] at hg'
          generalize ph (in_ (G (t * 49 + col))) = w at hg' hpiv
          clear hinv
          refine ih (col + 1) g' _ (k + 1) (va_up pv col (some k)) (va_up pc k col) _ (by omega) hg'P (gi_congr hpiv (by omega) (fun q hq c hcr => ?_)) (fun c hcc => ?_)
          · rw [hg' q hq c hcr]
            unfold cl_
            dsimp only
            rw [sr_ph hr k c hcr, sr_ph hr q c hcr, sr_ph hr q col (by omega)]
          · by_cases hcc2 : c = col
            · subst hcc2; rw [zu_same, zu_same]
            · rw [zu_ne hcc2, zu_ne hcc2]; exact hpf c (by omega)
        · refine z_ald0 (q := 45) d_mo_solve_44 rfl ?_
          refine z_get 8 (q := 48) d_mo_solve_45 rfl fg_mo_29 (by first | assumption | omega) (by first | assumption | omega) (by rfl) ?_
          refine z_ild4 (q := 50) d_mo_solve_48 rfl ?_
          refine z_ild5 (q := 52) d_mo_solve_50 rfl ?_
          refine z_ild1 (q := 53) d_mo_solve_52 rfl ?_
          refine zn_icmp_ge (q := 56) (tgt := 60) d_mo_solve_53 rfl (by decide) (by omega) (by omega) (fun _ => ?_) (fun hb => absurd hb (by omega))
          refine z_iconst (v := (-1)) (q := 61) d_mo_solve_60 rfl (by decide) ?_
          refine z_iastore (q := 62) d_mo_solve_61 rfl (by first | assumption | omega) (by first | assumption | omega) (by omega) (by omega) ?_
          rw [zu_up]
          refine z_ild5 (q := 64) d_mo_solve_62 rfl ?_
          refine z_ild1 (q := 65) d_mo_solve_64 rfl ?_
          refine zn_icmp_ge (q := 68) (tgt := 88) d_mo_solve_65 rfl (by decide) (by omega) (by omega) (fun _ => ?_) (fun hb => absurd hb (by omega))
          refine zn_iinc4 (d := 1) (q := 91) d_mo_solve_88 rfl rfl ?_
          refine z_goto (tgt := 5) d_mo_solve_91 (by decide) ?_
          refine ih (col + 1) G _ k (va_up pv col none) pc _ (by omega) hGP (gi_none hgi (fun q q1 q2 => hz q q1 (by omega))) (fun c hcc => ?_)
          by_cases hcc2 : c = col
          · subst hcc2; rw [zu_same, zu_same]
          · rw [zu_ne hcc2, zu_ne hcc2]; exact hpf c (by omega)
      have search : ∀ e2 t, t + e2 = rows → k ≤ t → (∀ q, k ≤ q → q < t → ph (G (q * 49 + col)) = 0) → Z m_mo_solve Po 0 0 90 (va_up (va_up σ 84 (zN 2352 G)) 85 (zI 48 pf)) 14 [some (.ref 78), some (.int (nI rows)), some (.int (nI r)), some (.int (nI k)), some (.int (nI col)), some (.int (nI t))] [] := by
        intro e2
        induction e2 with
        | zero =>
          intro t ht hkt hz
          refine z_ild5 (q := 16) d_mo_solve_14 rfl ?_
          refine z_ild1 (q := 17) d_mo_solve_16 rfl ?_
          refine zn_icmp_ge (q := 20) (tgt := 44) d_mo_solve_17 rfl (by decide) (by omega) (by omega) (fun hb => ?_) (fun hb => ?_)
          · exact aft t hkt (by omega) hz (fun h => by omega)
          · exact absurd hb (by omega)
        | succ e2 ih2 =>
          intro t ht hkt hz
          have q1 := hGP (t * 49 + col)
          refine z_ild5 (q := 16) d_mo_solve_14 rfl ?_
          refine z_ild1 (q := 17) d_mo_solve_16 rfl ?_
          refine zn_icmp_ge (q := 20) (tgt := 44) d_mo_solve_17 rfl (by decide) (by omega) (by omega) (fun hb => ?_) (fun hb => ?_)
          · exact absurd hb (by omega)
          · refine z_ald0 (q := 21) d_mo_solve_20 rfl ?_
            refine z_get 7 (q := 24) d_mo_solve_21 rfl fg_mo_26 (by first | assumption | omega) (by first | assumption | omega) (by rfl) ?_
            refine z_ild5 (q := 26) d_mo_solve_24 rfl ?_
            refine z_bipush (v := nI 49) (q := 28) d_mo_solve_26 rfl (by decide) ?_
            first | refine zn_imul (q := 29) d_mo_solve_28 rfl ?_ | refine z_imul (q := 29) d_mo_solve_28 rfl ?_
            refine z_ild4 (q := 31) d_mo_solve_29 rfl ?_
            first | refine zn_iadd (q := 32) d_mo_solve_31 rfl ?_ | refine z_iadd (q := 32) d_mo_solve_31 rfl ?_
            refine z_laload (q := 33) d_mo_solve_32 rfl (by first | assumption | omega) (by first | assumption | omega) (by omega) (by omega) ?_
            refine z_lconst (v := lN 0) (q := 34) d_mo_solve_33 rfl rfl ?_
            refine z_lcmp (q := 35) d_mo_solve_34 rfl ?_
            refine zc_if_ne (q := 38) (tgt := 44) d_mo_solve_35 rfl (by decide) (by omega) (by omega) (fun hb2 => ?_) (fun hb2 => ?_)
            · exact aft t hkt (by omega) hz (fun _ h => hb2 ((ph_eq q1 (by omega)).mp (h.trans ph_0.symm)))
            · refine zn_iinc5 (d := 1) (q := 41) d_mo_solve_38 rfl rfl ?_
              refine z_goto (tgt := 14) d_mo_solve_41 (by decide) ?_
              refine ih2 (t + 1) (by omega) (by omega) (fun q p1 p2 => ?_)
              by_cases hqt : q = t
              · rw [hqt, hb2, ph_0]
              · exact hz q p1 (by omega)
      refine z_ild4 (q := 7) d_mo_solve_5 rfl ?_
      refine z_ild2 (q := 8) d_mo_solve_7 rfl ?_
      refine zn_icmp_ge (q := 11) (tgt := 94) d_mo_solve_8 rfl (by decide) (by omega) (by omega) (fun hb => ?_) (fun hb => ?_)
      · exact absurd hb (by omega)
      · refine z_ild3 (q := 12) d_mo_solve_11 rfl ?_
        refine z_ist5 (q := 14) d_mo_solve_12 rfl rfl ?_
        exact search (rows - k) k (by omega) (Nat.le_refl _) (fun q p1 p2 => by omega)
  refine z_iconst (v := nI 0) (q := 1) d_mo_solve_0 rfl (by decide) ?_
  refine z_ist3 (q := 2) d_mo_solve_1 rfl rfl ?_
  refine z_iconst (v := nI 0) (q := 3) d_mo_solve_2 rfl (by decide) ?_
  refine z_ist4 (q := 5) d_mo_solve_3 rfl rfl ?_
  refine Z.eqw ?_ (loop r 0 g pf0 0 (fun _ => none) (fun _ => 0) none (by omega) hgP (by rw [← hg0]; exact gi_start _ _ _ _ _) (fun c hc => by omega))
  rw [← zu_id hg]
  exact zu_id hp0

