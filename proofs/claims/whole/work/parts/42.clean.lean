/-! The reference: clean and solve -/
def el_ (G : Nat → Nat) (at' q gq y : Nat) : Nat → Nat := fun j => if j / 49 = q ∧ j % 49 < y then sb_m (G j) gq (G (at' * 49 + j % 49)) else G j
theorem el_0 (G : Nat → Nat) (at' q gq : Nat) : el_ G at' q gq 0 = G := by
  funext j
  unfold el_
  rw [if_neg (by omega)]
theorem el_at {G : Nat → Nat} {at' q gq y : Nat} (hy : y < 49) : el_ G at' q gq y (q * 49 + y) = G (q * 49 + y) := by
  unfold el_
  rw [if_neg (by omega)]
theorem el_o {G : Nat → Nat} {at' q gq y c p : Nat} (hp : p ≠ q) (hc : c < 49) : el_ G at' q gq y (p * 49 + c) = G (p * 49 + c) := by
  unfold el_
  rw [if_neg (by omega)]
theorem el_s {G : Nat → Nat} {at' q gq y : Nat} (hy : y < 49) : va_up (el_ G at' q gq y) (q * 49 + y) (sb_m (G (q * 49 + y)) gq (G (at' * 49 + y))) = el_ G at' q gq (y + 1) := by
  funext j
  unfold va_up el_
  by_cases h : j = q * 49 + y
  · rw [if_pos h, if_pos (by omega), h, show (q * 49 + y) % 49 = y by omega]
  · rw [if_neg h]
    by_cases h2 : j / 49 = q ∧ j % 49 < y
    · rw [if_pos h2, if_pos (by omega)]
    · rw [if_neg h2, if_neg (by omega)]
theorem el_lt {G : Nat → Nat} {at' q gq y : Nat} (hG : ∀ j, G j < 2147483647) : ∀ j, el_ G at' q gq y j < 2147483647 := by
  intro j
  unfold el_
  split
  · exact sb_m_lt _ _ _
  · exact hG _
theorem mt_clean {σ : zWd} {li gi : Nat} {g : Nat → Nat} {at' col rows r : Nat} (h0 : σ 78 = m0_ li gi) (hg : σ 84 = zN 2352 g) (hgP : ∀ j, g j < 2147483647) (hat : at' < rows) (hrows : rows ≤ 48) (hcol : col ≤ r) (hr : r ≤ 48) :
    Ct m_mo_clean [.ref 78, .int (nI at'), .int (nI col), .int (nI rows), .int (nI r)] 90 σ (fun res n' σ' => res = none ∧ n' = 90 ∧ ∃ g' : Nat → Nat, σ' = va_up σ 84 (zN 2352 g') ∧ (∀ j, g' j < 2147483647) ∧ ∀ q, q < rows → ∀ c, c ≤ r → ph (g' (q * 49 + c)) = cl_ (fun q c => ph (g (q * 49 + c))) at' col (ph (in_ (g (at' * 49 + col)))) q c) := by
  have h0 : σ 78 = zO 5 [.int (nI li), .int (nI gi), .ref 79, .ref 80, .ref 81, .ref 82, .ref 83, .ref 84, .ref 85, .ref 86, .ref 87, .ref 88, .ref 89] := h0
  refine Ct.of (lv := [some (.ref 78), some (.int (nI at')), some (.int (nI col)), some (.int (nI rows)), some (.int (nI r)), none, none, none, none, none, none, none, none]) 8 (by decide) rfl (Nat.le_of_ble_eq_true rfl) ?_
  have hct := mt_inverse 90 σ (hgP (at' * 49 + col))
  have hfP := in_lt (g (at' * 49 + col))
  generalize in_ (g (at' * 49 + col)) = f at hct hfP ⊢
  generalize hPo : (fun (res : Option Value) (n' : Nat) (σ' : zWd) => res = none ∧ n' = 90 ∧ ∃ g' : Nat → Nat, σ' = va_up σ 84 (zN 2352 g') ∧ (∀ j, g' j < 2147483647) ∧ ∀ q, q < rows → ∀ c, c ≤ r → ph (g' (q * 49 + c)) = cl_ (fun q c => ph (g (q * 49 + c))) at' col (ph f) q c) = Po
  generalize hG1 : sc_ g at' f (r + 1) = G1
  have hG1P : ∀ j, G1 j < 2147483647 := fun j => by rw [← hG1]; exact sc_lt hgP j
  have hG1a : ∀ c, c ≤ r → ph (G1 (at' * 49 + c)) = ph (g (at' * 49 + c)) * ph f := fun c hc => by
    rw [← hG1]
    unfold sc_
    rw [if_pos (by omega), ph_mod, ph_mul]
  have hG1o : ∀ q c, q ≠ at' → c < 49 → G1 (q * 49 + c) = g (q * 49 + c) := fun q c hq hc => by
    rw [← hG1]
    unfold sc_
    rw [if_neg (by omega)]
  -- the rows
  have loop : ∀ (e q : Nat) (G : Nat → Nat) (t8 t9 t10 t11 t12 : Option Value), q + e = rows → (∀ j, G j < 2147483647) → (∀ p, p < q → ∀ c, c ≤ r → ph (G (p * 49 + c)) = cl_ (fun q c => ph (g (q * 49 + c))) at' col (ph f) p c) → (∀ p c, c < 49 → (q ≤ p ∨ p = at') → G (p * 49 + c) = G1 (p * 49 + c)) → Z m_mo_clean Po 0 0 90 (va_up σ 84 (zN 2352 G)) 66 [some (.ref 78), some (.int (nI at')), some (.int (nI col)), some (.int (nI rows)), some (.int (nI r)), some (.long (lN f)), none, some (.int (nI q)), t8, t9, t10, t11, t12] [] := by
    intro e
    induction e with
    | zero =>
      intro q G t8 t9 t10 t11 t12 hq hGP hdone hrest
      obtain rfl : q = rows := by omega
      refine z_ild7 (q := 68) d_mo_clean_66 rfl ?_
      refine z_ild3 (q := 69) d_mo_clean_68 rfl ?_
      refine zn_icmp_ge (q := 72) (tgt := 187) d_mo_clean_69 rfl (by decide) (by omega) (by omega) (fun hb => ?_) (fun hb => ?_)
      · exact z_vret d_mo_clean_187 rfl (Nat.le_refl _) (Nat.le_refl _) (by rw [← hPo]; exact ⟨rfl, rfl, G, rfl, hGP, hdone⟩)
      · exact absurd hb (by omega)
    | succ e ih =>
      intro q G t8 t9 t10 t11 t12 hq hGP hdone hrest
      have w0 : va_up σ 84 (zN 2352 G) 78 = zO 5 [.int (nI li), .int (nI gi), .ref 79, .ref 80, .ref 81, .ref 82, .ref 83, .ref 84, .ref 85, .ref 86, .ref 87, .ref 88, .ref 89] := by rw [zu_ne (by omega)]; exact h0
      have w4 : va_up σ 84 (zN 2352 G) 84 = zN 2352 G := zu_same
      generalize hgq : G (q * 49 + col) = gq
      have hgqP : gq < 2147483647 := by rw [← hgq]; exact hGP _
      -- nothing to do in this row
      have skip : ∀ t10 t11 t12 : Option Value, (∀ c, c ≤ r → ph (G (q * 49 + c)) = cl_ (fun q c => ph (g (q * 49 + c))) at' col (ph f) q c) → Z m_mo_clean Po 0 0 90 (va_up σ 84 (zN 2352 G)) 181 [some (.ref 78), some (.int (nI at')), some (.int (nI col)), some (.int (nI rows)), some (.int (nI r)), some (.long (lN f)), none, some (.int (nI q)), some (.long (lN gq)), none, t10, t11, t12] [] := by
        intro t10 t11 t12 hrow
        refine zn_iinc7 (d := 1) (q := 184) d_mo_clean_181 rfl rfl ?_
        refine z_goto (tgt := 66) d_mo_clean_184 (by decide) ?_
        refine ih (q + 1) G _ _ _ _ _ (by omega) hGP (fun p hp c hc => ?_) (fun p c hc hp => hrest p c hc (by omega))
        by_cases hpq : p = q
        · rw [hpq]; exact hrow c hc
        · exact hdone p (by omega) c hc
      refine z_ild7 (q := 68) d_mo_clean_66 rfl ?_
      refine z_ild3 (q := 69) d_mo_clean_68 rfl ?_
      refine zn_icmp_ge (q := 72) (tgt := 187) d_mo_clean_69 rfl (by decide) (by omega) (by omega) (fun hb => ?_) (fun hb => ?_)
      · exact absurd hb (by omega)
      · refine z_ald0 (q := 73) d_mo_clean_72 rfl ?_
        refine z_get 7 (q := 76) d_mo_clean_73 rfl fg_mo_26 (by first | assumption | omega) (by first | assumption | omega) (by rfl) ?_
        refine z_ild7 (q := 78) d_mo_clean_76 rfl ?_
        refine z_bipush (v := nI 49) (q := 80) d_mo_clean_78 rfl (by decide) ?_
        first | refine zn_imul (q := 81) d_mo_clean_80 rfl ?_ | refine z_imul (q := 81) d_mo_clean_80 rfl ?_
        refine z_ild2 (q := 82) d_mo_clean_81 rfl ?_
        first | refine zn_iadd (q := 83) d_mo_clean_82 rfl ?_ | refine z_iadd (q := 83) d_mo_clean_82 rfl ?_
        refine z_laload (q := 84) d_mo_clean_83 rfl (by first | assumption | omega) (by first | assumption | omega) (by omega) (by omega) ?_
        rw [hgq]
        refine z_lst8 (q := 86) d_mo_clean_84 rfl rfl ?_
        refine z_iconst (v := nI 0) (q := 87) d_mo_clean_86 rfl (by decide) ?_
        refine z_ist10 (q := 89) d_mo_clean_87 rfl rfl ?_
        by_cases hqa : q = at'
        · refine z_ild10 (q := 91) d_mo_clean_89 rfl ?_
          refine z_ild4 (q := 93) d_mo_clean_91 rfl ?_
          refine zn_icmp_gt (q := 96) (tgt := 181) d_mo_clean_93 rfl (by decide) (by omega) (by omega) (fun hb => absurd hb (by omega)) (fun _ => ?_)
          refine z_ild7 (q := 98) d_mo_clean_96 rfl ?_
          refine z_ild1 (q := 99) d_mo_clean_98 rfl ?_
          refine zn_icmp_eq (q := 102) (tgt := 181) d_mo_clean_99 rfl (by decide) (by omega) (by omega) (fun _ => ?_) (fun h => absurd hqa h)
          refine skip _ _ _ (fun c hc => ?_)
          rw [hqa, hrest at' c (by omega) (Or.inr rfl), hG1a c hc]
          unfold cl_
          rw [if_pos rfl]
        · have hrowq : ∀ c, c < 49 → G (q * 49 + c) = g (q * 49 + c) := fun c hc => by rw [hrest q c hc (Or.inl (Nat.le_refl q)), hG1o q c hqa hc]
          have hgq' : ph gq = ph (g (q * 49 + col)) := by rw [← hgq, hrowq col (by omega)]
          by_cases hb2 : gq = 0
          · refine z_ild10 (q := 91) d_mo_clean_89 rfl ?_
            refine z_ild4 (q := 93) d_mo_clean_91 rfl ?_
            refine zn_icmp_gt (q := 96) (tgt := 181) d_mo_clean_93 rfl (by decide) (by omega) (by omega) (fun hb => absurd hb (by omega)) (fun _ => ?_)
            refine z_ild7 (q := 98) d_mo_clean_96 rfl ?_
            refine z_ild1 (q := 99) d_mo_clean_98 rfl ?_
            refine zn_icmp_eq (q := 102) (tgt := 181) d_mo_clean_99 rfl (by decide) (by omega) (by omega) (fun h => absurd h hqa) (fun _ => ?_)
            refine z_lld8 (q := 104) d_mo_clean_102 rfl ?_
            refine z_lconst (v := lN 0) (q := 105) d_mo_clean_104 rfl rfl ?_
            refine z_lcmp (q := 106) d_mo_clean_105 rfl ?_
            refine zc_if_eq (q := 109) (tgt := 181) d_mo_clean_106 rfl (by decide) (by omega) (by omega) (fun _ => ?_) (fun h => absurd hb2 h)
            refine skip _ _ _ (fun c hc => ?_)
            rw [hrowq c (by omega)]
            unfold cl_
            dsimp only
            rw [if_neg hqa, ← hgq', hb2, ph_0]
            grind
          · -- the row is changed
            have inner : ∀ (e2 y : Nat) (t11 t12 : Option Value), y + e2 = r + 1 → Z m_mo_clean Po 0 0 90 (va_up σ 84 (zN 2352 (el_ G at' q gq y))) 89 [some (.ref 78), some (.int (nI at')), some (.int (nI col)), some (.int (nI rows)), some (.int (nI r)), some (.long (lN f)), none, some (.int (nI q)), some (.long (lN gq)), none, some (.int (nI y)), t11, t12] [] := by
              intro e2
              induction e2 with
              | zero =>
                intro y t11 t12 hy
                obtain rfl : y = r + 1 := by omega
                refine z_ild10 (q := 91) d_mo_clean_89 rfl ?_
                refine z_ild4 (q := 93) d_mo_clean_91 rfl ?_
                refine zn_icmp_gt (q := 96) (tgt := 181) d_mo_clean_93 rfl (by decide) (by omega) (by omega) (fun _ => ?_) (fun hb => absurd hb (by omega))
                refine zn_iinc7 (d := 1) (q := 184) d_mo_clean_181 rfl rfl ?_
                refine z_goto (tgt := 66) d_mo_clean_184 (by decide) ?_
                refine ih (q + 1) _ _ _ _ _ _ (by omega) (el_lt hGP) (fun p hp c hc => ?_) (fun p c hc hp => ?_)
                · by_cases hpq : p = q
                  · rw [hpq]
                    have e1 : el_ G at' q gq (r + 1) (q * 49 + c) = sb_m (G (q * 49 + c)) gq (G (at' * 49 + c)) := by
                      unfold el_
                      rw [if_pos (by omega), show (q * 49 + c) % 49 = c by omega]
                    rw [e1, sb_m_ph, hrowq c (by omega), hrest at' c (by omega) (Or.inr rfl), hG1a c hc, hgq']
                    unfold cl_
                    rw [if_neg hqa]
                  · rw [el_o hpq (by omega)]; exact hdone p (by omega) c hc
                · rw [el_o (by omega) hc]; exact hrest p c hc (by omega)
              | succ e2 ih2 =>
                intro y t11 t12 hy
                have v0 : va_up σ 84 (zN 2352 (el_ G at' q gq y)) 78 = zO 5 [.int (nI li), .int (nI gi), .ref 79, .ref 80, .ref 81, .ref 82, .ref 83, .ref 84, .ref 85, .ref 86, .ref 87, .ref 88, .ref 89] := by rw [zu_ne (by omega)]; exact h0
                have v4 : va_up σ 84 (zN 2352 (el_ G at' q gq y)) 84 = zN 2352 (el_ G at' q gq y) := zu_same
                have q1 := hGP (q * 49 + y)
                have q2 := hGP (at' * 49 + y)
                have hrm := zr_subm q1 hgqP q2
                refine z_ild10 (q := 91) d_mo_clean_89 rfl ?_
                refine z_ild4 (q := 93) d_mo_clean_91 rfl ?_
                refine zn_icmp_gt (q := 96) (tgt := 181) d_mo_clean_93 rfl (by decide) (by omega) (by omega) (fun hb => absurd hb (by omega)) (fun _ => ?_)
                refine z_ild7 (q := 98) d_mo_clean_96 rfl ?_
                refine z_ild1 (q := 99) d_mo_clean_98 rfl ?_
                refine zn_icmp_eq (q := 102) (tgt := 181) d_mo_clean_99 rfl (by decide) (by omega) (by omega) (fun h => absurd h hqa) (fun _ => ?_)
                refine z_lld8 (q := 104) d_mo_clean_102 rfl ?_
                refine z_lconst (v := lN 0) (q := 105) d_mo_clean_104 rfl rfl ?_
                refine z_lcmp (q := 106) d_mo_clean_105 rfl ?_
                refine zc_if_eq (q := 109) (tgt := 181) d_mo_clean_106 rfl (by decide) (by omega) (by omega) (fun h => absurd h hb2) (fun _ => ?_)
                refine z_ald0 (q := 110) d_mo_clean_109 rfl ?_
                refine z_get 7 (q := 113) d_mo_clean_110 rfl fg_mo_26 (by first | assumption | omega) (by first | assumption | omega) (by rfl) ?_
                refine z_ild7 (q := 115) d_mo_clean_113 rfl ?_
                refine z_bipush (v := nI 49) (q := 117) d_mo_clean_115 rfl (by decide) ?_
                first | refine zn_imul (q := 118) d_mo_clean_117 rfl ?_ | refine z_imul (q := 118) d_mo_clean_117 rfl ?_
                refine z_ild10 (q := 120) d_mo_clean_118 rfl ?_
                first | refine zn_iadd (q := 121) d_mo_clean_120 rfl ?_ | refine z_iadd (q := 121) d_mo_clean_120 rfl ?_
                refine z_laload (q := 122) d_mo_clean_121 rfl (by first | assumption | omega) (by first | assumption | omega) (by omega) (by omega) ?_
                rw [el_at (by omega)]
                refine z_lld8 (q := 124) d_mo_clean_122 rfl ?_
                refine z_ald0 (q := 125) d_mo_clean_124 rfl ?_
                refine z_get 7 (q := 128) d_mo_clean_125 rfl fg_mo_26 (by first | assumption | omega) (by first | assumption | omega) (by rfl) ?_
                refine z_ild1 (q := 129) d_mo_clean_128 rfl ?_
                refine z_bipush (v := nI 49) (q := 131) d_mo_clean_129 rfl (by decide) ?_
                first | refine zn_imul (q := 132) d_mo_clean_131 rfl ?_ | refine z_imul (q := 132) d_mo_clean_131 rfl ?_
                refine z_ild10 (q := 134) d_mo_clean_132 rfl ?_
                first | refine zn_iadd (q := 135) d_mo_clean_134 rfl ?_ | refine z_iadd (q := 135) d_mo_clean_134 rfl ?_
                refine z_laload (q := 136) d_mo_clean_135 rfl (by first | assumption | omega) (by first | assumption | omega) (by omega) (by omega) ?_
                rw [el_o (fun h => hqa h.symm) (by omega)]
                refine zn_lmul (q := 137) d_mo_clean_136 rfl ?_
                refine z_lsub (q := 138) d_mo_clean_137 rfl ?_
                refine z_ldc2 (q := 141) d_mo_clean_138 rfl cl_mo_44 ?_
                refine z_lrem (q := 142) d_mo_clean_141 rfl (z_lne0 (by decide) (by decide)) ?_
                generalize lN (G (q * 49 + y)) - lN (gq * G (at' * 49 + y)) - (lN (G (q * 49 + y)) - lN (gq * G (at' * 49 + y))) / lN 2147483647 * lN 2147483647 = D at hrm ⊢
                have fin : Z m_mo_clean Po 0 0 90 (va_up σ 84 (zN 2352 (el_ G at' q gq y))) 174 [some (.ref 78), some (.int (nI at')), some (.int (nI col)), some (.int (nI rows)), some (.int (nI r)), some (.long (lN f)), none, some (.int (nI q)), some (.long (lN gq)), none, some (.int (nI y)), some (.long D), none] [.long (lN (sb_m (G (q * 49 + y)) gq (G (at' * 49 + y)))), .int (nI (q * 49 + y)), .ref 84] := by
                  refine z_lastore (q := 175) d_mo_clean_174 rfl (by first | assumption | omega) (by first | assumption | omega) (by omega) (by omega) ?_
                  refine zn_iinc10 (d := 1) (q := 178) d_mo_clean_175 rfl rfl ?_
                  refine z_goto (tgt := 89) d_mo_clean_178 (by decide) ?_
                  refine Z.eqw ?_ (ih2 (y + 1) _ _ (by omega))
                  rw [zu_up, el_s (by omega)]
                refine z_lst11 (q := 144) d_mo_clean_142 rfl rfl ?_
                refine z_ald0 (q := 145) d_mo_clean_144 rfl ?_
                refine z_get 7 (q := 148) d_mo_clean_145 rfl fg_mo_26 (by first | assumption | omega) (by first | assumption | omega) (by rfl) ?_
                refine z_ild7 (q := 150) d_mo_clean_148 rfl ?_
                refine z_bipush (v := nI 49) (q := 152) d_mo_clean_150 rfl (by decide) ?_
                first | refine zn_imul (q := 153) d_mo_clean_152 rfl ?_ | refine z_imul (q := 153) d_mo_clean_152 rfl ?_
                refine z_ild10 (q := 155) d_mo_clean_153 rfl ?_
                first | refine zn_iadd (q := 156) d_mo_clean_155 rfl ?_ | refine z_iadd (q := 156) d_mo_clean_155 rfl ?_
                refine z_lld11 (q := 158) d_mo_clean_156 rfl ?_
                refine z_lconst (v := lN 0) (q := 159) d_mo_clean_158 rfl rfl ?_
                refine z_lcmp (q := 160) d_mo_clean_159 rfl ?_
                refine z_if_ge (q := 163) (tgt := 172) d_mo_clean_160 rfl (by decide) (fun hb => ?_) (fun hb => ?_)
                · have hd0 : 0 ≤ D.toInt := by
                    have := (lg_cmp_ge D (lN 0)).mp hb
                    rw [Int64.le_iff_toInt_le] at this
                    exact this
                  have e : D = lN (sb_m (G (q * 49 + y)) gq (G (at' * 49 + y))) := zr_num (by have := sb_m_lt (G (q * 49 + y)) gq (G (at' * 49 + y)); omega) (sb_m_pos hrm hd0)
                  refine z_lld11 (q := 174) d_mo_clean_172 rfl ?_
                  rw [← e] at fin
                  exact fin
                · have hd0 : D.toInt < 0 := by
                    refine Int.not_le.mp (fun h => hb ((lg_cmp_ge D (lN 0)).mpr ?_))
                    rw [Int64.le_iff_toInt_le]
                    exact h
                  have h9 := sb_m_neg hrm hd0
                  have h8 := sb_m_lt (G (q * 49 + y)) gq (G (at' * 49 + y))
                  have e : D + lN 2147483647 = lN (sb_m (G (q * 49 + y)) gq (G (at' * 49 + y))) := zr_num (by omega) (by
                    have e2 : (lN 2147483647).toInt = 2147483647 := pk_lT (by decide)
                    rw [Jvm.Kit.i64_add (by rw [e2]; omega) (by rw [e2]; omega), e2]
                    exact h9)
                  refine z_lld11 (q := 165) d_mo_clean_163 rfl ?_
                  refine z_ldc2 (q := 168) d_mo_clean_165 rfl cl_mo_44 ?_
                  refine z_ladd (q := 169) d_mo_clean_168 rfl ?_
                  rw [e]
                  refine z_goto (tgt := 174) d_mo_clean_169 (by decide) ?_
                  exact fin
            exact (Z.eqw (by rw [el_0]) (inner (r + 1) 0 _ _ (by omega)))
  -- the pivot's row
  have loop1 : ∀ (e x : Nat) (t8 t9 t10 t11 t12 : Option Value), x + e = r + 1 → Z m_mo_clean Po 0 0 90 (va_up σ 84 (zN 2352 (sc_ g at' f x))) 19 [some (.ref 78), some (.int (nI at')), some (.int (nI col)), some (.int (nI rows)), some (.int (nI r)), some (.long (lN f)), none, some (.int (nI x)), t8, t9, t10, t11, t12] [] := by
    intro e
    induction e with
    | zero =>
      intro x t8 t9 t10 t11 t12 hx
      obtain rfl : x = r + 1 := by omega
      refine z_ild7 (q := 21) d_mo_clean_19 rfl ?_
      refine z_ild4 (q := 23) d_mo_clean_21 rfl ?_
      refine zn_icmp_gt (q := 26) (tgt := 63) d_mo_clean_23 rfl (by decide) (by omega) (by omega) (fun hb => ?_) (fun hb => ?_)
      · rw [hG1]
        refine z_iconst (v := nI 0) (q := 64) d_mo_clean_63 rfl (by decide) ?_
        refine z_ist7 (q := 66) d_mo_clean_64 rfl rfl ?_
        exact loop rows 0 G1 _ _ _ _ _ (by omega) hG1P (fun p hp => by omega) (fun p c hc _ => rfl)
      · exact absurd hb (by omega)
    | succ e ih =>
      intro x t8 t9 t10 t11 t12 hx
      have w0 : va_up σ 84 (zN 2352 (sc_ g at' f x)) 78 = zO 5 [.int (nI li), .int (nI gi), .ref 79, .ref 80, .ref 81, .ref 82, .ref 83, .ref 84, .ref 85, .ref 86, .ref 87, .ref 88, .ref 89] := by rw [zu_ne (by omega)]; exact h0
      have w4 : va_up σ 84 (zN 2352 (sc_ g at' f x)) 84 = zN 2352 (sc_ g at' f x) := zu_same
      have q1 := mul_lt (hgP (at' * 49 + x)) hfP
      refine z_ild7 (q := 21) d_mo_clean_19 rfl ?_
      refine z_ild4 (q := 23) d_mo_clean_21 rfl ?_
      refine zn_icmp_gt (q := 26) (tgt := 63) d_mo_clean_23 rfl (by decide) (by omega) (by omega) (fun hb => ?_) (fun hb => ?_)
      · exact absurd hb (by omega)
      · refine z_ald0 (q := 27) d_mo_clean_26 rfl ?_
        refine z_get 7 (q := 30) d_mo_clean_27 rfl fg_mo_26 (by first | assumption | omega) (by first | assumption | omega) (by rfl) ?_
        refine z_ild1 (q := 31) d_mo_clean_30 rfl ?_
        refine z_bipush (v := nI 49) (q := 33) d_mo_clean_31 rfl (by decide) ?_
        first | refine zn_imul (q := 34) d_mo_clean_33 rfl ?_ | refine z_imul (q := 34) d_mo_clean_33 rfl ?_
        refine z_ild7 (q := 36) d_mo_clean_34 rfl ?_
        first | refine zn_iadd (q := 37) d_mo_clean_36 rfl ?_ | refine z_iadd (q := 37) d_mo_clean_36 rfl ?_
        refine z_ald0 (q := 38) d_mo_clean_37 rfl ?_
        refine z_get 7 (q := 41) d_mo_clean_38 rfl fg_mo_26 (by first | assumption | omega) (by first | assumption | omega) (by rfl) ?_
        refine z_ild1 (q := 42) d_mo_clean_41 rfl ?_
        refine z_bipush (v := nI 49) (q := 44) d_mo_clean_42 rfl (by decide) ?_
        first | refine zn_imul (q := 45) d_mo_clean_44 rfl ?_ | refine z_imul (q := 45) d_mo_clean_44 rfl ?_
        refine z_ild7 (q := 47) d_mo_clean_45 rfl ?_
        first | refine zn_iadd (q := 48) d_mo_clean_47 rfl ?_ | refine z_iadd (q := 48) d_mo_clean_47 rfl ?_
        refine z_laload (q := 49) d_mo_clean_48 rfl (by first | assumption | omega) (by first | assumption | omega) (by omega) (by omega) ?_
        rw [sc_at (by omega)]
        refine z_lld5 (q := 51) d_mo_clean_49 rfl ?_
        first | refine zn_lmul (q := 52) d_mo_clean_51 rfl ?_ | refine z_lmul (q := 52) d_mo_clean_51 rfl ?_
        refine z_ldc2 (q := 55) d_mo_clean_52 rfl cl_mo_44 ?_
        refine zn_lrem (q := 56) d_mo_clean_55 rfl (by omega) (by omega) (by omega) ?_
        refine z_lastore (q := 57) d_mo_clean_56 rfl (by first | assumption | omega) (by first | assumption | omega) (by omega) (by omega) ?_
        refine zn_iinc7 (d := 1) (q := 60) d_mo_clean_57 rfl rfl ?_
        refine z_goto (tgt := 19) d_mo_clean_60 (by decide) ?_
        refine Z.eqw ?_ (ih (x + 1) _ _ _ _ _ (by omega))
        rw [zu_up, sc_s (by omega)]
  refine z_ald0 (q := 1) d_mo_clean_0 rfl ?_
  refine z_get 7 (q := 4) d_mo_clean_1 rfl fg_mo_26 (by first | assumption | omega) (by first | assumption | omega) (by rfl) ?_
  refine z_ild1 (q := 5) d_mo_clean_4 rfl ?_
  refine z_bipush (v := nI 49) (q := 7) d_mo_clean_5 rfl (by decide) ?_
  first | refine zn_imul (q := 8) d_mo_clean_7 rfl ?_ | refine z_imul (q := 8) d_mo_clean_7 rfl ?_
  refine z_ild2 (q := 9) d_mo_clean_8 rfl ?_
  first | refine zn_iadd (q := 10) d_mo_clean_9 rfl ?_ | refine z_iadd (q := 10) d_mo_clean_9 rfl ?_
  refine z_laload (q := 11) d_mo_clean_10 rfl (by first | assumption | omega) (by first | assumption | omega) (by omega) (by omega) ?_
  refine z_cS1 (q := 14) d_mo_clean_11 rfl (hct) ck_mo_inverse lk_mo_52 st_mo_inverse ⟨by decide, by decide⟩ (Nat.le_of_ble_eq_true rfl) rfl rfl ?_
  refine z_lst5 (q := 16) d_mo_clean_14 rfl rfl ?_
  refine z_iconst (v := nI 0) (q := 17) d_mo_clean_16 rfl (by decide) ?_
  refine z_ist7 (q := 19) d_mo_clean_17 rfl rfl ?_
  exact (Z.eqw (by rw [sc_0]; exact zu_id hg) (loop1 (r + 1) 0 none none none none none (by omega)))

