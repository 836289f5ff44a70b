/-! term of the reference -/
def dt_ (u v : Nat → Nat) : Nat → Nat
  | 0 => 0
  | i + 1 => (dt_ u v i + u i * v i) % 2147483647
theorem dt_lt (u v : Nat → Nat) (r : Nat) : dt_ u v r < 2147483647 := by
  cases r with
  | zero => show 0 < 2147483647; omega
  | succ r => exact Nat.mod_lt _ (by omega)
theorem dt_ph (u v : Nat → Nat) (r : Nat) : ph (dt_ u v r) = sm r (fun i => ph (u i) * ph (v i)) := by
  induction r with
  | zero => rfl
  | succ r ih => show ph ((dt_ u v r + u r * v r) % 2147483647) = _; rw [ph_mod, ph_add, ph_mul, ih, sm_s]
/-- the step of a recurrence -/
def stv_ (c : Nat → Nat) (r p q : Nat) : Nat := if p = r - 1 then c (r - 1 - q) else if q = p + 1 then 1 else 0
theorem stv_lt {c : Nat → Nat} {r p q : Nat} (hc : ∀ i, c i < 2147483647) : stv_ c r p q < 2147483647 := by
  unfold stv_
  split
  · exact hc _
  · split <;> omega
theorem up_at {f : Nat → Nat} {k x : Nat} : va_up f k x k = x := by unfold va_up; rw [if_pos rfl]
theorem up_ne {f : Nat → Nat} {k x j : Nat} (h : j ≠ k) : va_up f k x j = f j := by unfold va_up; rw [if_neg h]
theorem mt_makeStep {σ : zWd} {li gi a r : Nat} {g1 gs c : Nat → Nat} (h0 : σ 78 = m0_ li gi) (h81 : σ 81 = zN 480 g1) (h86 : σ 86 = zN 576 gs) (hgs : ∀ j, gs j < 2147483647) (ha : a < 20) (hr : r ≤ 24) (hr0 : 0 < r) (hc : ∀ i, i < r → g1 (24 * a + i) = c i) (hcP : ∀ i, c i < 2147483647) :
    Ct m_mo_makeStep [.ref 78, .int (nI a), .int (nI r)] 90 σ (fun res n' σ' => n' = 90 ∧ res = none ∧ ∃ g' : Nat → Nat, σ' = va_up σ 86 (zN 576 g') ∧ (∀ j, g' j < 2147483647) ∧ ∀ p q, p < r → q < r → g' (24 * p + q) = stv_ c r p q) := by
  have h0 : σ 78 = zO 5 [.int (nI li), .int (nI gi), .ref 79, .ref 80, .ref 81, .ref 82, .ref 83, .ref 84, .ref 85, .ref 86, .ref 87, .ref 88, .ref 89] := h0
  refine Ct.of (lv := [some (.ref 78), some (.int (nI a)), some (.int (nI r)), none, none]) 2 (by decide) rfl (Nat.le_of_ble_eq_true rfl) ?_
  generalize hPo : (fun (res : Option Value) (n' : Nat) (σ' : zWd) => n' = 90 ∧ res = none ∧ ∃ g' : Nat → Nat, σ' = va_up σ 86 (zN 576 g') ∧ (∀ j, g' j < 2147483647) ∧ ∀ p q, p < r → q < r → g' (24 * p + q) = stv_ c r p q) = Po
  have loop : ∀ (e x : Nat) (t4 : Option Value) (g : Nat → Nat), x + e = r → (∀ j, g j < 2147483647) → (∀ p q, p < x → q < r → g (24 * p + q) = stv_ c r p q) → Z m_mo_makeStep Po 0 0 90 (va_up σ 86 (zN 576 g)) 2 [some (.ref 78), some (.int (nI a)), some (.int (nI r)), some (.int (nI x)), t4] [] := by
    intro e
    induction e with
    | zero =>
      intro x t4 g hx hg hm
      obtain rfl : x = r := by omega
      refine z_ild3 (q := 3) d_mo_makeStep_2 rfl ?_
      refine z_ild2 (q := 4) d_mo_makeStep_3 rfl ?_
      refine zn_icmp_ge (q := 7) (tgt := 79) d_mo_makeStep_4 rfl (by decide) (by omega) (by omega) (fun hb => ?_) (fun hb => ?_)
      · exact z_vret d_mo_makeStep_79 rfl (Nat.le_refl _) (Nat.le_refl _) (by rw [← hPo]; exact ⟨rfl, rfl, g, rfl, hg, hm⟩)
      · exact absurd hb (by omega)
    | succ e ih =>
      intro x t4 g hx hg hm
      have inner : ∀ (e2 y : Nat) (g : Nat → Nat), y + e2 = r → (∀ j, g j < 2147483647) → (∀ p q, p < x → q < r → g (24 * p + q) = stv_ c r p q) → (∀ q, q < y → g (24 * x + q) = stv_ c r x q) → Z m_mo_makeStep Po 0 0 90 (va_up σ 86 (zN 576 g)) 10 [some (.ref 78), some (.int (nI a)), some (.int (nI r)), some (.int (nI x)), some (.int (nI y))] [] := by
        intro e2
        induction e2 with
        | zero =>
          intro y g hy hg hm hy2
          obtain rfl : y = r := by omega
          refine z_ild4 (q := 12) d_mo_makeStep_10 rfl ?_
          refine z_ild2 (q := 13) d_mo_makeStep_12 rfl ?_
          refine zn_icmp_ge (q := 16) (tgt := 73) d_mo_makeStep_13 rfl (by decide) (by omega) (by omega) (fun hb => ?_) (fun hb => ?_)
          · refine zn_iinc3 (d := 1) (q := 76) d_mo_makeStep_73 rfl rfl ?_
            refine z_goto (tgt := 2) d_mo_makeStep_76 (by decide) ?_
            refine ih (x + 1) _ g (by omega) hg (fun p q hp hq => ?_)
            by_cases hpx : p = x
            · rw [hpx]; exact hy2 q hq
            · exact hm p q (by omega) hq
          · exact absurd hb (by omega)
        | succ e2 ih2 =>
          intro y g hy hg hm hy2
          have y0 : va_up σ 86 (zN 576 g) 78 = zO 5 [.int (nI li), .int (nI gi), .ref 79, .ref 80, .ref 81, .ref 82, .ref 83, .ref 84, .ref 85, .ref 86, .ref 87, .ref 88, .ref 89] := by rw [zu_ne (by omega)]; exact h0
          have y1 : va_up σ 86 (zN 576 g) 81 = zN 480 g1 := by rw [zu_ne (by omega)]; exact h81
          have y6 : va_up σ 86 (zN 576 g) 86 = zN 576 g := zu_same
          have fin : ∀ v, v = stv_ c r x y → Z m_mo_makeStep Po 0 0 90 (va_up σ 86 (zN 576 g)) 66 [some (.ref 78), some (.int (nI a)), some (.int (nI r)), some (.int (nI x)), some (.int (nI y))] [.long (lN v), .int (nI (24 * x + y)), .ref 86] := by
            intro v hv
            refine z_lastore (q := 67) d_mo_makeStep_66 rfl (by first | assumption | omega) (by first | assumption | omega) (by omega) (by omega) ?_
            refine zn_iinc4 (d := 1) (q := 70) d_mo_makeStep_67 rfl rfl ?_
            refine z_goto (tgt := 10) d_mo_makeStep_70 (by decide) ?_
            rw [zu_up]
            refine ih2 (y + 1) (va_up g (24 * x + y) v) (by omega) (up_lt hg (by rw [hv]; exact stv_lt hcP)) (fun p q hp hq => ?_) (fun q hq => ?_)
            · rw [up_ne (by omega)]; exact hm p q hp hq
            · by_cases hqy : q = y
              · rw [hqy, up_at, hv]
              · rw [up_ne (by omega)]; exact hy2 q (by omega)
          refine z_ild4 (q := 12) d_mo_makeStep_10 rfl ?_
          refine z_ild2 (q := 13) d_mo_makeStep_12 rfl ?_
          refine zn_icmp_ge (q := 16) (tgt := 73) d_mo_makeStep_13 rfl (by decide) (by omega) (by omega) (fun hb => ?_) (fun hb => ?_)
          · exact absurd hb (by omega)
          · refine z_ald0 (q := 17) d_mo_makeStep_16 rfl ?_
            refine z_get 9 (q := 20) d_mo_makeStep_17 rfl fg_mo_32 (by first | assumption | omega) (by first | assumption | omega) (by rfl) ?_
            refine z_bipush (v := nI 24) (q := 22) d_mo_makeStep_20 rfl (by decide) ?_
            refine z_ild3 (q := 23) d_mo_makeStep_22 rfl ?_
            first | refine zn_imul (q := 24) d_mo_makeStep_23 rfl ?_ | refine z_imul (q := 24) d_mo_makeStep_23 rfl ?_
            refine z_ild4 (q := 26) d_mo_makeStep_24 rfl ?_
            first | refine zn_iadd (q := 27) d_mo_makeStep_26 rfl ?_ | refine z_iadd (q := 27) d_mo_makeStep_26 rfl ?_
            refine z_ild3 (q := 28) d_mo_makeStep_27 rfl ?_
            refine z_ild2 (q := 29) d_mo_makeStep_28 rfl ?_
            refine z_iconst (v := nI 1) (q := 30) d_mo_makeStep_29 rfl (by decide) ?_
            first | refine zn_isub (q := 31) d_mo_makeStep_30 rfl (by omega) ?_ | refine z_isub (q := 31) d_mo_makeStep_30 rfl ?_
            refine zn_icmp_ne (q := 34) (tgt := 53) d_mo_makeStep_31 rfl (by decide) (by omega) (by omega) (fun hb2 => ?_) (fun hb2 => ?_)
            · refine z_ild4 (q := 55) d_mo_makeStep_53 rfl ?_
              refine z_ild3 (q := 56) d_mo_makeStep_55 rfl ?_
              refine z_iconst (v := nI 1) (q := 57) d_mo_makeStep_56 rfl (by decide) ?_
              first | refine zn_iadd (q := 58) d_mo_makeStep_57 rfl ?_ | refine z_iadd (q := 58) d_mo_makeStep_57 rfl ?_
              refine zn_icmp_ne (q := 61) (tgt := 65) d_mo_makeStep_58 rfl (by decide) (by omega) (by omega) (fun hb3 => ?_) (fun hb3 => ?_)
              · refine z_lconst (v := lN 0) (q := 66) d_mo_makeStep_65 rfl rfl ?_
                exact fin 0 (by unfold stv_; rw [if_neg hb2, if_neg hb3])
              · refine z_lconst (v := lN 1) (q := 62) d_mo_makeStep_61 rfl rfl ?_
                refine z_goto (tgt := 66) d_mo_makeStep_62 (by decide) ?_
                exact fin 1 (by unfold stv_; rw [if_neg hb2, if_pos (by omega)])
            · refine z_ald0 (q := 35) d_mo_makeStep_34 rfl ?_
              refine z_get 4 (q := 38) d_mo_makeStep_35 rfl fg_mo_17 (by first | assumption | omega) (by first | assumption | omega) (by rfl) ?_
              refine z_bipush (v := nI 24) (q := 40) d_mo_makeStep_38 rfl (by decide) ?_
              refine z_ild1 (q := 41) d_mo_makeStep_40 rfl ?_
              first | refine zn_imul (q := 42) d_mo_makeStep_41 rfl ?_ | refine z_imul (q := 42) d_mo_makeStep_41 rfl ?_
              refine z_ild2 (q := 43) d_mo_makeStep_42 rfl ?_
              first | refine zn_iadd (q := 44) d_mo_makeStep_43 rfl ?_ | refine z_iadd (q := 44) d_mo_makeStep_43 rfl ?_
              refine z_iconst (v := nI 1) (q := 45) d_mo_makeStep_44 rfl (by decide) ?_
              first | refine zn_isub (q := 46) d_mo_makeStep_45 rfl (by omega) ?_ | refine z_isub (q := 46) d_mo_makeStep_45 rfl ?_
              refine z_ild4 (q := 48) d_mo_makeStep_46 rfl ?_
              first | refine zn_isub (q := 49) d_mo_makeStep_48 rfl (by omega) ?_ | refine z_isub (q := 49) d_mo_makeStep_48 rfl ?_
              refine z_laload (q := 50) d_mo_makeStep_49 rfl (by first | assumption | omega) (by first | assumption | omega) (by omega) (by omega) ?_
              rw [show 24 * a + r - 1 - y = 24 * a + (r - 1 - y) by omega, hc _ (by omega)]
              refine z_goto (tgt := 66) d_mo_makeStep_50 (by decide) ?_
              exact fin _ (by unfold stv_; rw [if_pos (by omega)])
      refine z_ild3 (q := 3) d_mo_makeStep_2 rfl ?_
      refine z_ild2 (q := 4) d_mo_makeStep_3 rfl ?_
      refine zn_icmp_ge (q := 7) (tgt := 79) d_mo_makeStep_4 rfl (by decide) (by omega) (by omega) (fun hb => ?_) (fun hb => ?_)
      · exact absurd hb (by omega)
      · refine z_iconst (v := nI 0) (q := 8) d_mo_makeStep_7 rfl (by decide) ?_
        refine z_ist4 (q := 10) d_mo_makeStep_8 rfl rfl ?_
        exact inner r 0 g (by omega) hg hm (fun q hq => by omega)
  refine z_iconst (v := nI 0) (q := 1) d_mo_makeStep_0 rfl (by decide) ?_
  refine z_ist3 (q := 2) d_mo_makeStep_1 rfl rfl ?_
  exact (Z.eqw (zu_id h86) (loop r 0 none gs (by omega) hgs (fun p q hp => by omega)))
theorem mt_applyStep {σ : zWd} {li gi r : Nat} {st vec mv : Nat → Nat} (h0 : σ 78 = m0_ li gi) (h86 : σ 86 = zN 576 st) (h88 : σ 88 = zN 24 vec) (h89 : σ 89 = zN 24 mv) (hst : ∀ j, st j < 2147483647) (hvec : ∀ j, vec j < 2147483647) (hmv : ∀ j, mv j < 2147483647) (hr : r ≤ 24) :
    Ct m_mo_applyStep [.ref 78, .int (nI r)] 90 σ (fun res n' σ' => n' = 90 ∧ res = none ∧ ∃ v' m' : Nat → Nat, σ' = va_up (va_up σ 89 (zN 24 m')) 88 (zN 24 v') ∧ (∀ j, v' j < 2147483647) ∧ (∀ j, m' j < 2147483647) ∧ ∀ p, p < r → v' p = dt_ (fun q => st (24 * p + q)) vec r) := by
  have h0 : σ 78 = zO 5 [.int (nI li), .int (nI gi), .ref 79, .ref 80, .ref 81, .ref 82, .ref 83, .ref 84, .ref 85, .ref 86, .ref 87, .ref 88, .ref 89] := h0
  refine Ct.of (lv := [some (.ref 78), some (.int (nI r)), none, none, none, none]) 4 (by decide) rfl (Nat.le_of_ble_eq_true rfl) ?_
  generalize hPo : (fun (res : Option Value) (n' : Nat) (σ' : zWd) => n' = 90 ∧ res = none ∧ ∃ v' m' : Nat → Nat, σ' = va_up (va_up σ 89 (zN 24 m')) 88 (zN 24 v') ∧ (∀ j, v' j < 2147483647) ∧ (∀ j, m' j < 2147483647) ∧ ∀ p, p < r → v' p = dt_ (fun q => st (24 * p + q)) vec r) = Po
  have copy : ∀ (m : Nat → Nat), (∀ j, m j < 2147483647) → (∀ p, p < r → m p = dt_ (fun q => st (24 * p + q)) vec r) → ∀ (e x : Nat) (t3 t4 t5 : Option Value) (v : Nat → Nat), x + e = r → (∀ j, v j < 2147483647) → (∀ p, p < x → v p = m p) → Z m_mo_applyStep Po 0 0 90 (va_up (va_up σ 89 (zN 24 m)) 88 (zN 24 v)) 66 [some (.ref 78), some (.int (nI r)), some (.int (nI x)), t3, t4, t5] [] := by
    intro m hm hme e
    induction e with
    | zero =>
      intro x t3 t4 t5 v hx hv hve
      obtain rfl : x = r := by omega
      refine z_ild2 (q := 67) d_mo_applyStep_66 rfl ?_
      refine z_ild1 (q := 68) d_mo_applyStep_67 rfl ?_
      refine zn_icmp_ge (q := 71) (tgt := 89) d_mo_applyStep_68 rfl (by decide) (by omega) (by omega) (fun hb => ?_) (fun hb => ?_)
      · exact z_vret d_mo_applyStep_89 rfl (Nat.le_refl _) (Nat.le_refl _) (by rw [← hPo]; exact ⟨rfl, rfl, v, m, rfl, hv, hm, fun p hp => by rw [hve p hp, hme p hp]⟩)
      · exact absurd hb (by omega)
    | succ e ih =>
      intro x t3 t4 t5 v hx hv hve
      have y0 : va_up (va_up σ 89 (zN 24 m)) 88 (zN 24 v) 78 = zO 5 [.int (nI li), .int (nI gi), .ref 79, .ref 80, .ref 81, .ref 82, .ref 83, .ref 84, .ref 85, .ref 86, .ref 87, .ref 88, .ref 89] := by rw [zu_ne (by omega), zu_ne (by omega)]; exact h0
      have y8 : va_up (va_up σ 89 (zN 24 m)) 88 (zN 24 v) 88 = zN 24 v := zu_same
      have y9 : va_up (va_up σ 89 (zN 24 m)) 88 (zN 24 v) 89 = zN 24 m := by rw [zu_ne (by omega), zu_same]
      refine z_ild2 (q := 67) d_mo_applyStep_66 rfl ?_
      refine z_ild1 (q := 68) d_mo_applyStep_67 rfl ?_
      refine zn_icmp_ge (q := 71) (tgt := 89) d_mo_applyStep_68 rfl (by decide) (by omega) (by omega) (fun hb => ?_) (fun hb => ?_)
      · exact absurd hb (by omega)
      · refine z_ald0 (q := 72) d_mo_applyStep_71 rfl ?_
        refine z_get 11 (q := 75) d_mo_applyStep_72 rfl fg_mo_38 (by first | assumption | omega) (by first | assumption | omega) (by rfl) ?_
        refine z_ild2 (q := 76) d_mo_applyStep_75 rfl ?_
        refine z_ald0 (q := 77) d_mo_applyStep_76 rfl ?_
        refine z_get 12 (q := 80) d_mo_applyStep_77 rfl fg_mo_41 (by first | assumption | omega) (by first | assumption | omega) (by rfl) ?_
        refine z_ild2 (q := 81) d_mo_applyStep_80 rfl ?_
        refine z_laload (q := 82) d_mo_applyStep_81 rfl (by first | assumption | omega) (by first | assumption | omega) (by omega) (by omega) ?_
        refine z_lastore (q := 83) d_mo_applyStep_82 rfl (by first | assumption | omega) (by first | assumption | omega) (by omega) (by omega) ?_
        refine zn_iinc2 (d := 1) (q := 86) d_mo_applyStep_83 rfl rfl ?_
        refine z_goto (tgt := 66) d_mo_applyStep_86 (by decide) ?_
        rw [zu_up]
        refine ih (x + 1) _ _ _ (va_up v x (m x)) (by omega) (up_lt hv (hm x)) (fun p hp => ?_)
        by_cases hpx : p = x
        · rw [hpx, up_at]
        · rw [up_ne hpx]; exact hve p (by omega)
  have loop : ∀ (e x : Nat) (t3 t4 t5 : Option Value) (m : Nat → Nat), x + e = r → (∀ j, m j < 2147483647) → (∀ p, p < x → m p = dt_ (fun q => st (24 * p + q)) vec r) → Z m_mo_applyStep Po 0 0 90 (va_up σ 89 (zN 24 m)) 2 [some (.ref 78), some (.int (nI r)), some (.int (nI x)), t3, t4, t5] [] := by
    intro e
    induction e with
    | zero =>
      intro x t3 t4 t5 m hx hm hme
      obtain rfl : x = r := by omega
      refine z_ild2 (q := 3) d_mo_applyStep_2 rfl ?_
      refine z_ild1 (q := 4) d_mo_applyStep_3 rfl ?_
      refine zn_icmp_ge (q := 7) (tgt := 64) d_mo_applyStep_4 rfl (by decide) (by omega) (by omega) (fun hb => ?_) (fun hb => ?_)
      · refine z_iconst (v := nI 0) (q := 65) d_mo_applyStep_64 rfl (by decide) ?_
        refine z_ist2 (q := 66) d_mo_applyStep_65 rfl rfl ?_
        exact (Z.eqw (zu_id (show va_up σ 89 (zN 24 m) 88 = zN 24 vec by rw [zu_ne (by omega)]; exact h88)) (copy m hm hme x 0 _ _ _ vec (by omega) hvec (fun p hp => by omega)))
      · exact absurd hb (by omega)
    | succ e ih =>
      intro x t3 t4 t5 m hx hm hme
      have y0 : va_up σ 89 (zN 24 m) 78 = zO 5 [.int (nI li), .int (nI gi), .ref 79, .ref 80, .ref 81, .ref 82, .ref 83, .ref 84, .ref 85, .ref 86, .ref 87, .ref 88, .ref 89] := by rw [zu_ne (by omega)]; exact h0
      have y6 : va_up σ 89 (zN 24 m) 86 = zN 576 st := by rw [zu_ne (by omega)]; exact h86
      have y8 : va_up σ 89 (zN 24 m) 88 = zN 24 vec := by rw [zu_ne (by omega)]; exact h88
      have y9 : va_up σ 89 (zN 24 m) 89 = zN 24 m := zu_same
      have inner : ∀ e2 z, z + e2 = r → Z m_mo_applyStep Po 0 0 90 (va_up σ 89 (zN 24 m)) 12 [some (.ref 78), some (.int (nI r)), some (.int (nI x)), some (.long (lN (dt_ (fun q => st (24 * x + q)) vec z))), none, some (.int (nI z))] [] := by
        intro e2
        induction e2 with
        | zero =>
          intro z hz
          obtain rfl : z = r := by omega
          refine z_ild5 (q := 14) d_mo_applyStep_12 rfl ?_
          refine z_ild1 (q := 15) d_mo_applyStep_14 rfl ?_
          refine zn_icmp_ge (q := 18) (tgt := 51) d_mo_applyStep_15 rfl (by decide) (by omega) (by omega) (fun hb => ?_) (fun hb => ?_)
          · refine z_ald0 (q := 52) d_mo_applyStep_51 rfl ?_
            refine z_get 12 (q := 55) d_mo_applyStep_52 rfl fg_mo_41 (by first | assumption | omega) (by first | assumption | omega) (by rfl) ?_
            refine z_ild2 (q := 56) d_mo_applyStep_55 rfl ?_
            refine z_lld3 (q := 57) d_mo_applyStep_56 rfl ?_
            refine z_lastore (q := 58) d_mo_applyStep_57 rfl (by first | assumption | omega) (by first | assumption | omega) (by omega) (by omega) ?_
            refine zn_iinc2 (d := 1) (q := 61) d_mo_applyStep_58 rfl rfl ?_
            refine z_goto (tgt := 2) d_mo_applyStep_61 (by decide) ?_
            rw [zu_up]
            refine ih (x + 1) _ _ _ (va_up m x (dt_ (fun q => st (24 * x + q)) vec z)) (by omega) (up_lt hm (dt_lt _ _ _)) (fun p hp => ?_)
            by_cases hpx : p = x
            · rw [hpx, up_at]
            · rw [up_ne hpx]; exact hme p (by omega)
          · exact absurd hb (by omega)
        | succ e2 ih2 =>
          intro z hz
          have q1 := dt_lt (fun q => st (24 * x + q)) vec z
          have q4 := mul_lt (hst (24 * x + z)) (hvec z)
          refine z_ild5 (q := 14) d_mo_applyStep_12 rfl ?_
          refine z_ild1 (q := 15) d_mo_applyStep_14 rfl ?_
          refine zn_icmp_ge (q := 18) (tgt := 51) d_mo_applyStep_15 rfl (by decide) (by omega) (by omega) (fun hb => ?_) (fun hb => ?_)
          · exact absurd hb (by omega)
          · refine z_lld3 (q := 19) d_mo_applyStep_18 rfl ?_
            refine z_ald0 (q := 20) d_mo_applyStep_19 rfl ?_
            refine z_get 9 (q := 23) d_mo_applyStep_20 rfl fg_mo_32 (by first | assumption | omega) (by first | assumption | omega) (by rfl) ?_
            refine z_bipush (v := nI 24) (q := 25) d_mo_applyStep_23 rfl (by decide) ?_
            refine z_ild2 (q := 26) d_mo_applyStep_25 rfl ?_
            first | refine zn_imul (q := 27) d_mo_applyStep_26 rfl ?_ | refine z_imul (q := 27) d_mo_applyStep_26 rfl ?_
            refine z_ild5 (q := 29) d_mo_applyStep_27 rfl ?_
            first | refine zn_iadd (q := 30) d_mo_applyStep_29 rfl ?_ | refine z_iadd (q := 30) d_mo_applyStep_29 rfl ?_
            refine z_laload (q := 31) d_mo_applyStep_30 rfl (by first | assumption | omega) (by first | assumption | omega) (by omega) (by omega) ?_
            refine z_ald0 (q := 32) d_mo_applyStep_31 rfl ?_
            refine z_get 11 (q := 35) d_mo_applyStep_32 rfl fg_mo_38 (by first | assumption | omega) (by first | assumption | omega) (by rfl) ?_
            refine z_ild5 (q := 37) d_mo_applyStep_35 rfl ?_
            refine z_laload (q := 38) d_mo_applyStep_37 rfl (by first | assumption | omega) (by first | assumption | omega) (by omega) (by omega) ?_
            first | refine zn_lmul (q := 39) d_mo_applyStep_38 rfl ?_ | refine z_lmul (q := 39) d_mo_applyStep_38 rfl ?_
            first | refine zn_ladd (q := 40) d_mo_applyStep_39 rfl ?_ | refine z_ladd (q := 40) d_mo_applyStep_39 rfl ?_
            refine z_ldc2 (q := 43) d_mo_applyStep_40 rfl cl_mo_44 ?_
            refine zn_lrem (q := 44) d_mo_applyStep_43 rfl (by omega) (by omega) (by omega) ?_
            refine z_lst3 (q := 45) d_mo_applyStep_44 rfl rfl ?_
            refine zn_iinc5 (d := 1) (q := 48) d_mo_applyStep_45 rfl rfl ?_
            refine z_goto (tgt := 12) d_mo_applyStep_48 (by decide) ?_
            exact ih2 (z + 1) (by omega)
      refine z_ild2 (q := 3) d_mo_applyStep_2 rfl ?_
      refine z_ild1 (q := 4) d_mo_applyStep_3 rfl ?_
      refine zn_icmp_ge (q := 7) (tgt := 64) d_mo_applyStep_4 rfl (by decide) (by omega) (by omega) (fun hb => ?_) (fun hb => ?_)
      · exact absurd hb (by omega)
      · refine z_lconst (v := lN 0) (q := 8) d_mo_applyStep_7 rfl rfl ?_
        refine z_lst3 (q := 9) d_mo_applyStep_8 rfl rfl ?_
        refine z_iconst (v := nI 0) (q := 10) d_mo_applyStep_9 rfl (by decide) ?_
        refine z_ist5 (q := 12) d_mo_applyStep_10 rfl rfl ?_
        exact inner r 0 (by omega)
  refine z_iconst (v := nI 0) (q := 1) d_mo_applyStep_0 rfl (by decide) ?_
  refine z_ist2 (q := 2) d_mo_applyStep_1 rfl rfl ?_
  exact (Z.eqw (zu_id h89) (loop r 0 none none none mv (by omega) hmv (fun p hp => by omega)))
theorem mt_squareStep {σ : zWd} {li gi r : Nat} {st sq : Nat → Nat} (h0 : σ 78 = m0_ li gi) (h86 : σ 86 = zN 576 st) (h87 : σ 87 = zN 576 sq) (hst : ∀ j, st j < 2147483647) (hsq : ∀ j, sq j < 2147483647) (hr : r ≤ 24) :
    Ct m_mo_squareStep [.ref 78, .int (nI r)] 90 σ (fun res n' σ' => n' = 90 ∧ res = none ∧ ∃ g' s' : Nat → Nat, σ' = va_up (va_up σ 87 (zN 576 s')) 86 (zN 576 g') ∧ (∀ j, g' j < 2147483647) ∧ (∀ j, s' j < 2147483647) ∧ ∀ p q, p < r → q < r → g' (24 * p + q) = dt_ (fun k => st (24 * p + k)) (fun k => st (24 * k + q)) r) := by
  have h0 : σ 78 = zO 5 [.int (nI li), .int (nI gi), .ref 79, .ref 80, .ref 81, .ref 82, .ref 83, .ref 84, .ref 85, .ref 86, .ref 87, .ref 88, .ref 89] := h0
  refine Ct.of (lv := [some (.ref 78), some (.int (nI r)), none, none, none, none, none]) 5 (by decide) rfl (Nat.le_of_ble_eq_true rfl) ?_
  generalize hPo : (fun (res : Option Value) (n' : Nat) (σ' : zWd) => n' = 90 ∧ res = none ∧ ∃ g' s' : Nat → Nat, σ' = va_up (va_up σ 87 (zN 576 s')) 86 (zN 576 g') ∧ (∀ j, g' j < 2147483647) ∧ (∀ j, s' j < 2147483647) ∧ ∀ p q, p < r → q < r → g' (24 * p + q) = dt_ (fun k => st (24 * p + k)) (fun k => st (24 * k + q)) r) = Po
  have copy : ∀ (m : Nat → Nat), (∀ j, m j < 2147483647) → (∀ p q, p < r → q < r → m (24 * p + q) = dt_ (fun k => st (24 * p + k)) (fun k => st (24 * k + q)) r) → ∀ (e x : Nat) (t3 t4 t5 t6 : Option Value) (v : Nat → Nat), x + e = 576 → (∀ j, v j < 2147483647) → (∀ p, p < x → v p = m p) → Z m_mo_squareStep Po 0 0 90 (va_up (va_up σ 87 (zN 576 m)) 86 (zN 576 v)) 93 [some (.ref 78), some (.int (nI r)), some (.int (nI x)), t3, t4, t5, t6] [] := by
    intro m hm hme e
    induction e with
    | zero =>
      intro x t3 t4 t5 t6 v hx hv hve
      obtain rfl : x = 576 := by omega
      refine z_ild2 (q := 94) d_mo_squareStep_93 rfl ?_
      refine z_sipush (v := nI 576) (q := 97) d_mo_squareStep_94 rfl (by decide) ?_
      refine zn_icmp_ge (q := 100) (tgt := 118) d_mo_squareStep_97 rfl (by decide) (by omega) (by omega) (fun hb => ?_) (fun hb => ?_)
      · exact z_vret d_mo_squareStep_118 rfl (Nat.le_refl _) (Nat.le_refl _) (by rw [← hPo]; exact ⟨rfl, rfl, v, m, rfl, hv, hm, fun p q hp hq => by rw [hve _ (by omega), hme p q hp hq]⟩)
      · exact absurd hb (by omega)
    | succ e ih =>
      intro x t3 t4 t5 t6 v hx hv hve
      have y0 : va_up (va_up σ 87 (zN 576 m)) 86 (zN 576 v) 78 = zO 5 [.int (nI li), .int (nI gi), .ref 79, .ref 80, .ref 81, .ref 82, .ref 83, .ref 84, .ref 85, .ref 86, .ref 87, .ref 88, .ref 89] := by rw [zu_ne (by omega), zu_ne (by omega)]; exact h0
      have y8 : va_up (va_up σ 87 (zN 576 m)) 86 (zN 576 v) 86 = zN 576 v := zu_same
      have y9 : va_up (va_up σ 87 (zN 576 m)) 86 (zN 576 v) 87 = zN 576 m := by rw [zu_ne (by omega), zu_same]
      refine z_ild2 (q := 94) d_mo_squareStep_93 rfl ?_
      refine z_sipush (v := nI 576) (q := 97) d_mo_squareStep_94 rfl (by decide) ?_
      refine zn_icmp_ge (q := 100) (tgt := 118) d_mo_squareStep_97 rfl (by decide) (by omega) (by omega) (fun hb => ?_) (fun hb => ?_)
      · exact absurd hb (by omega)
      · refine z_ald0 (q := 101) d_mo_squareStep_100 rfl ?_
        refine z_get 9 (q := 104) d_mo_squareStep_101 rfl fg_mo_32 (by first | assumption | omega) (by first | assumption | omega) (by rfl) ?_
        refine z_ild2 (q := 105) d_mo_squareStep_104 rfl ?_
        refine z_ald0 (q := 106) d_mo_squareStep_105 rfl ?_
        refine z_get 10 (q := 109) d_mo_squareStep_106 rfl fg_mo_35 (by first | assumption | omega) (by first | assumption | omega) (by rfl) ?_
        refine z_ild2 (q := 110) d_mo_squareStep_109 rfl ?_
        refine z_laload (q := 111) d_mo_squareStep_110 rfl (by first | assumption | omega) (by first | assumption | omega) (by omega) (by omega) ?_
        refine z_lastore (q := 112) d_mo_squareStep_111 rfl (by first | assumption | omega) (by first | assumption | omega) (by omega) (by omega) ?_
        refine zn_iinc2 (d := 1) (q := 115) d_mo_squareStep_112 rfl rfl ?_
        refine z_goto (tgt := 93) d_mo_squareStep_115 (by decide) ?_
        rw [zu_up]
        refine ih (x + 1) _ _ _ _ (va_up v x (m x)) (by omega) (up_lt hv (hm x)) (fun p hp => ?_)
        by_cases hpx : p = x
        · rw [hpx, up_at]
        · rw [up_ne hpx]; exact hve p (by omega)
  have loop : ∀ (e x : Nat) (t3 t4 t5 t6 : Option Value) (m : Nat → Nat), x + e = r → (∀ j, m j < 2147483647) → (∀ p q, p < x → q < r → m (24 * p + q) = dt_ (fun k => st (24 * p + k)) (fun k => st (24 * k + q)) r) → Z m_mo_squareStep Po 0 0 90 (va_up σ 87 (zN 576 m)) 2 [some (.ref 78), some (.int (nI r)), some (.int (nI x)), t3, t4, t5, t6] [] := by
    intro e
    induction e with
    | zero =>
      intro x t3 t4 t5 t6 m hx hm hme
      obtain rfl : x = r := by omega
      refine z_ild2 (q := 3) d_mo_squareStep_2 rfl ?_
      refine z_ild1 (q := 4) d_mo_squareStep_3 rfl ?_
      refine zn_icmp_ge (q := 7) (tgt := 91) d_mo_squareStep_4 rfl (by decide) (by omega) (by omega) (fun hb => ?_) (fun hb => ?_)
      · refine z_iconst (v := nI 0) (q := 92) d_mo_squareStep_91 rfl (by decide) ?_
        refine z_ist2 (q := 93) d_mo_squareStep_92 rfl rfl ?_
        exact (Z.eqw (zu_id (show va_up σ 87 (zN 576 m) 86 = zN 576 st by rw [zu_ne (by omega)]; exact h86)) (copy m hm hme 576 0 _ _ _ _ st (by omega) hst (fun p hp => by omega)))
      · exact absurd hb (by omega)
    | succ e ih =>
      intro x t3 t4 t5 t6 m hx hm hme
      have mid : ∀ (e1 y : Nat) (t4 t5 t6 : Option Value) (m : Nat → Nat), y + e1 = r → (∀ j, m j < 2147483647) → (∀ p q, p < x → q < r → m (24 * p + q) = dt_ (fun k => st (24 * p + k)) (fun k => st (24 * k + q)) r) → (∀ q, q < y → m (24 * x + q) = dt_ (fun k => st (24 * x + k)) (fun k => st (24 * k + q)) r) → Z m_mo_squareStep Po 0 0 90 (va_up σ 87 (zN 576 m)) 9 [some (.ref 78), some (.int (nI r)), some (.int (nI x)), some (.int (nI y)), t4, t5, t6] [] := by
        intro e1
        induction e1 with
        | zero =>
          intro y t4 t5 t6 m hy hm hme hmy
          obtain rfl : y = r := by omega
          refine z_ild3 (q := 10) d_mo_squareStep_9 rfl ?_
          refine z_ild1 (q := 11) d_mo_squareStep_10 rfl ?_
          refine zn_icmp_ge (q := 14) (tgt := 85) d_mo_squareStep_11 rfl (by decide) (by omega) (by omega) (fun hb => ?_) (fun hb => ?_)
          · refine zn_iinc2 (d := 1) (q := 88) d_mo_squareStep_85 rfl rfl ?_
            refine z_goto (tgt := 2) d_mo_squareStep_88 (by decide) ?_
            refine ih (x + 1) _ _ _ _ m (by omega) hm (fun p q hp hq => ?_)
            by_cases hpx : p = x
            · rw [hpx]; exact hmy q hq
            · exact hme p q (by omega) hq
          · exact absurd hb (by omega)
        | succ e1 ih1 =>
          intro y t4 t5 t6 m hy hm hme hmy
          have y0 : va_up σ 87 (zN 576 m) 78 = zO 5 [.int (nI li), .int (nI gi), .ref 79, .ref 80, .ref 81, .ref 82, .ref 83, .ref 84, .ref 85, .ref 86, .ref 87, .ref 88, .ref 89] := by rw [zu_ne (by omega)]; exact h0
          have y6 : va_up σ 87 (zN 576 m) 86 = zN 576 st := by rw [zu_ne (by omega)]; exact h86
          have y7 : va_up σ 87 (zN 576 m) 87 = zN 576 m := zu_same
          have inner : ∀ e2 z, z + e2 = r → Z m_mo_squareStep Po 0 0 90 (va_up σ 87 (zN 576 m)) 20 [some (.ref 78), some (.int (nI r)), some (.int (nI x)), some (.int (nI y)), some (.long (lN (dt_ (fun k => st (24 * x + k)) (fun k => st (24 * k + y)) z))), none, some (.int (nI z))] [] := by
            intro e2
            induction e2 with
            | zero =>
              intro z hz
              obtain rfl : z = r := by omega
              refine z_ild6 (q := 22) d_mo_squareStep_20 rfl ?_
              refine z_ild1 (q := 23) d_mo_squareStep_22 rfl ?_
              refine zn_icmp_ge (q := 26) (tgt := 66) d_mo_squareStep_23 rfl (by decide) (by omega) (by omega) (fun hb => ?_) (fun hb => ?_)
              · refine z_ald0 (q := 67) d_mo_squareStep_66 rfl ?_
                refine z_get 10 (q := 70) d_mo_squareStep_67 rfl fg_mo_35 (by first | assumption | omega) (by first | assumption | omega) (by rfl) ?_
                refine z_bipush (v := nI 24) (q := 72) d_mo_squareStep_70 rfl (by decide) ?_
                refine z_ild2 (q := 73) d_mo_squareStep_72 rfl ?_
                first | refine zn_imul (q := 74) d_mo_squareStep_73 rfl ?_ | refine z_imul (q := 74) d_mo_squareStep_73 rfl ?_
                refine z_ild3 (q := 75) d_mo_squareStep_74 rfl ?_
                first | refine zn_iadd (q := 76) d_mo_squareStep_75 rfl ?_ | refine z_iadd (q := 76) d_mo_squareStep_75 rfl ?_
                refine z_lld4 (q := 78) d_mo_squareStep_76 rfl ?_
                refine z_lastore (q := 79) d_mo_squareStep_78 rfl (by first | assumption | omega) (by first | assumption | omega) (by omega) (by omega) ?_
                refine zn_iinc3 (d := 1) (q := 82) d_mo_squareStep_79 rfl rfl ?_
                refine z_goto (tgt := 9) d_mo_squareStep_82 (by decide) ?_
                rw [zu_up]
                refine ih1 (y + 1) _ _ _ (va_up m (24 * x + y) (dt_ (fun k => st (24 * x + k)) (fun k => st (24 * k + y)) z)) (by omega) (up_lt hm (dt_lt _ _ _)) (fun p q hp hq => ?_) (fun q hq => ?_)
                · rw [up_ne (by omega)]; exact hme p q hp hq
                · by_cases hqy : q = y
                  · rw [hqy, up_at]
                  · rw [up_ne (by omega)]; exact hmy q (by omega)
              · exact absurd hb (by omega)
            | succ e2 ih2 =>
              intro z hz
              have q1 := dt_lt (fun k => st (24 * x + k)) (fun k => st (24 * k + y)) z
              have q4 := mul_lt (hst (24 * x + z)) (hst (24 * z + y))
              refine z_ild6 (q := 22) d_mo_squareStep_20 rfl ?_
              refine z_ild1 (q := 23) d_mo_squareStep_22 rfl ?_
              refine zn_icmp_ge (q := 26) (tgt := 66) d_mo_squareStep_23 rfl (by decide) (by omega) (by omega) (fun hb => ?_) (fun hb => ?_)
              · exact absurd hb (by omega)
              · refine z_lld4 (q := 28) d_mo_squareStep_26 rfl ?_
                refine z_ald0 (q := 29) d_mo_squareStep_28 rfl ?_
                refine z_get 9 (q := 32) d_mo_squareStep_29 rfl fg_mo_32 (by first | assumption | omega) (by first | assumption | omega) (by rfl) ?_
                refine z_bipush (v := nI 24) (q := 34) d_mo_squareStep_32 rfl (by decide) ?_
                refine z_ild2 (q := 35) d_mo_squareStep_34 rfl ?_
                first | refine zn_imul (q := 36) d_mo_squareStep_35 rfl ?_ | refine z_imul (q := 36) d_mo_squareStep_35 rfl ?_
                refine z_ild6 (q := 38) d_mo_squareStep_36 rfl ?_
                first | refine zn_iadd (q := 39) d_mo_squareStep_38 rfl ?_ | refine z_iadd (q := 39) d_mo_squareStep_38 rfl ?_
                refine z_laload (q := 40) d_mo_squareStep_39 rfl (by first | assumption | omega) (by first | assumption | omega) (by omega) (by omega) ?_
                refine z_ald0 (q := 41) d_mo_squareStep_40 rfl ?_
                refine z_get 9 (q := 44) d_mo_squareStep_41 rfl fg_mo_32 (by first | assumption | omega) (by first | assumption | omega) (by rfl) ?_
                refine z_bipush (v := nI 24) (q := 46) d_mo_squareStep_44 rfl (by decide) ?_
                refine z_ild6 (q := 48) d_mo_squareStep_46 rfl ?_
                first | refine zn_imul (q := 49) d_mo_squareStep_48 rfl ?_ | refine z_imul (q := 49) d_mo_squareStep_48 rfl ?_
                refine z_ild3 (q := 50) d_mo_squareStep_49 rfl ?_
                first | refine zn_iadd (q := 51) d_mo_squareStep_50 rfl ?_ | refine z_iadd (q := 51) d_mo_squareStep_50 rfl ?_
                refine z_laload (q := 52) d_mo_squareStep_51 rfl (by first | assumption | omega) (by first | assumption | omega) (by omega) (by omega) ?_
                first | refine zn_lmul (q := 53) d_mo_squareStep_52 rfl ?_ | refine z_lmul (q := 53) d_mo_squareStep_52 rfl ?_
                first | refine zn_ladd (q := 54) d_mo_squareStep_53 rfl ?_ | refine z_ladd (q := 54) d_mo_squareStep_53 rfl ?_
                refine z_ldc2 (q := 57) d_mo_squareStep_54 rfl cl_mo_44 ?_
                refine zn_lrem (q := 58) d_mo_squareStep_57 rfl (by omega) (by omega) (by omega) ?_
                refine z_lst4 (q := 60) d_mo_squareStep_58 rfl rfl ?_
                refine zn_iinc6 (d := 1) (q := 63) d_mo_squareStep_60 rfl rfl ?_
                refine z_goto (tgt := 20) d_mo_squareStep_63 (by decide) ?_
                exact ih2 (z + 1) (by omega)
          refine z_ild3 (q := 10) d_mo_squareStep_9 rfl ?_
          refine z_ild1 (q := 11) d_mo_squareStep_10 rfl ?_
          refine zn_icmp_ge (q := 14) (tgt := 85) d_mo_squareStep_11 rfl (by decide) (by omega) (by omega) (fun hb => ?_) (fun hb => ?_)
          · exact absurd hb (by omega)
          · refine z_lconst (v := lN 0) (q := 15) d_mo_squareStep_14 rfl rfl ?_
            refine z_lst4 (q := 17) d_mo_squareStep_15 rfl rfl ?_
            refine z_iconst (v := nI 0) (q := 18) d_mo_squareStep_17 rfl (by decide) ?_
            refine z_ist6 (q := 20) d_mo_squareStep_18 rfl rfl ?_
            exact inner r 0 (by omega)
      refine z_ild2 (q := 3) d_mo_squareStep_2 rfl ?_
      refine z_ild1 (q := 4) d_mo_squareStep_3 rfl ?_
      refine zn_icmp_ge (q := 7) (tgt := 91) d_mo_squareStep_4 rfl (by decide) (by omega) (by omega) (fun hb => ?_) (fun hb => ?_)
      · exact absurd hb (by omega)
      · refine z_iconst (v := nI 0) (q := 8) d_mo_squareStep_7 rfl (by decide) ?_
        refine z_ist3 (q := 9) d_mo_squareStep_8 rfl rfl ?_
        exact mid r 0 _ _ _ m (by omega) hm hme (fun q hq => by omega)
  refine z_iconst (v := nI 0) (q := 1) d_mo_squareStep_0 rfl (by decide) ?_
  refine z_ist2 (q := 2) d_mo_squareStep_1 rfl rfl ?_
  exact (Z.eqw (zu_id h87) (loop r 0 none none none none sq (by omega) hsq (fun p q hp => by omega)))
/-- a matrix that moves a series by m places -/
def mv_ (S : Nat → FP) (r m : Nat) (st : Nat → Nat) : Prop := ∀ n p, p < r → sm r (fun q => ph (st (24 * p + q)) * S (n + q)) = S (n + m + p)
theorem mv_make {S : Nat → FP} {r : Nat} {c st : Nat → Nat} (hob : ob r (fun i => ph (c i)) S) (h : ∀ p q, p < r → q < r → st (24 * p + q) = stv_ c r p q) : mv_ S r 1 st := by
  intro n p hp
  by_cases hpr : p = r - 1
  · rw [show n + 1 + p = n + r by omega, hob n, sm_rev r (fun i => ph (c i) * S (n + r - 1 - i))]
    refine sm_congr (fun q hq => ?_)
    rw [h p q hp hq]
    unfold stv_
    rw [if_pos hpr, show n + r - 1 - (r - 1 - q) = n + q by omega]
  · rw [sm_one (p := p + 1) (by omega) (fun q hq hqp => ?_)]
    · rw [h p (p + 1) hp (by omega)]
      unfold stv_
      rw [if_neg hpr, if_pos rfl, ph_1, show n + 1 + p = n + (p + 1) by omega]
      grind
    · rw [h p q hp hq]
      unfold stv_
      rw [if_neg hpr, if_neg hqp, ph_0]
      grind
theorem mv_square {S : Nat → FP} {r m : Nat} {st g : Nat → Nat} (hs : mv_ S r m st) (h : ∀ p q, p < r → q < r → g (24 * p + q) = dt_ (fun k => st (24 * p + k)) (fun k => st (24 * k + q)) r) : mv_ S r (2 * m) g := by
  intro n p hp
  have e1 : sm r (fun q => ph (g (24 * p + q)) * S (n + q)) = sm r (fun q => sm r (fun k => ph (st (24 * p + k)) * (ph (st (24 * k + q)) * S (n + q)))) := sm_congr (fun q hq => by
    rw [h p q hp hq, dt_ph, ← sm_mulr]
    exact sm_congr (fun k _ => by grind))
  rw [e1, sm_swap]
  have e2 : sm r (fun k => sm r (fun q => ph (st (24 * p + k)) * (ph (st (24 * k + q)) * S (n + q)))) = sm r (fun k => ph (st (24 * p + k)) * S (n + m + k)) := sm_congr (fun k hk => by
    rw [sm_mul, hs n k hk])
  rw [e2, hs (n + m) p hp, show n + m + m + p = n + 2 * m + p by omega]
theorem mv_apply {s st vec : Nat → Nat} {r m t : Nat} (hsP : ∀ n, s n < 2147483647) (hs : mv_ (fun n => ph (s n)) r m st) (hv : ∀ p, p < r → vec p = s (t + p)) : ∀ p, p < r → dt_ (fun q => st (24 * p + q)) vec r = s (t + m + p) := by
  intro p hp
  refine (ph_eq (dt_lt _ _ _) (hsP _)).mp ?_
  refine (dt_ph _ _ _).trans (Eq.trans (sm_congr (fun q hq => ?_)) (hs t p hp))
  rw [hv q hq]

theorem mm_term {σ : zWd} {li gi : Nat} {row od : Nat → Nat} {cf ts : Nat → Nat → Nat} (h : MS li gi row od cf ts σ) (k : Int32) (n : Int64) : Ct m_mo_term [.ref 78, .int k, .long n] 90 σ (AS MS FrM σ li gi row od cf ts (qTe li ts k n)) := by
  have hms := h
  obtain ⟨hMc, hMs⟩ := h
  have hMc' := hMc
  have hMs' := hMs
  obtain ⟨h0, ⟨h1, h1'⟩, ⟨fo, h2, h2'⟩, ⟨g1, h3, h3', h3''⟩, ⟨g2, h4, h4', h4''⟩, h5, h6, h7⟩ := hMc
  have h0' : σ 78 = zO 5 [.int (nI li), .int (nI gi), .ref 79, .ref 80, .ref 81, .ref 82, .ref 83, .ref 84, .ref 85, .ref 86, .ref 87, .ref 88, .ref 89] := h0
  obtain ⟨s83, s84, s85, ⟨st0, hst0, hst0P⟩, ⟨sq0, hsq0, hsq0P⟩, ⟨v0, hv0, hv0P⟩, ⟨m0, hm0, hm0P⟩⟩ := hMs
  refine Ct.of (lv := [some (.ref 78), some (.int k), some (.long n), none, none, none, none]) 3 (by decide) rfl (Nat.le_of_ble_eq_true rfl) ?_
  have bad : ¬ (isL li k ∧ ¬ n < 0) → Z m_mo_term (AS MS FrM σ li gi row od cf ts (qTe li ts k n)) 0 0 90 σ 14 [some (.ref 78), some (.int k), some (.long n), none, none, none, none] [] := by
    intro hbad
    refine z_iconst (v := (-1)) (q := 15) d_mo_term_14 rfl (by decide) ?_
    exact z_iret d_mo_term_15 rfl (Nat.le_refl _) (Nat.le_refl _) ⟨rfl, fun _ _ => rfl, ⟨_, rfl, Or.inl ⟨hbad, rfl⟩⟩, hms⟩
  by_cases hk : isL li k
  · by_cases hn : n < 0
    · have hbad := bad (fun hh => hh.2 hn)
      obtain ⟨a, ha, rfl⟩ := hk
      refine z_ald0 (q := 1) d_mo_term_0 rfl ?_
      refine z_ild1 (q := 2) d_mo_term_1 rfl ?_
      refine z_cV1 (q := 5) d_mo_term_2 rfl (mt_isIn_yes h0 (by omega) h6 ha) (by first | assumption | omega) (by first | assumption | omega) rfl ck_mo_isIn lk_mo_82 im_mo_isIn sl_mo_isIn ⟨by decide, by decide⟩ (Nat.le_of_ble_eq_true rfl) rfl rfl ?_
      refine zi_if_eq (q := 8) (tgt := 14) d_mo_term_5 rfl (by decide) (by omega) (fun hb => absurd hb (by omega)) (fun _ => ?_)
      refine z_lld2 (q := 9) d_mo_term_8 rfl ?_
      refine z_lconst (v := lN 0) (q := 10) d_mo_term_9 rfl rfl ?_
      refine z_lcmp (q := 11) d_mo_term_10 rfl ?_
      refine z_if_ge (q := 14) (tgt := 16) d_mo_term_11 rfl (by decide) (fun hb => ?_) (fun _ => hbad)
      exfalso
      have h5 := (lg_cmp_ge n (lN 0)).mp hb
      rw [Int64.le_iff_toInt_le] at h5
      rw [Int64.lt_iff_toInt_lt] at hn
      have e0 : (lN 0).toInt = 0 := pk_lT (by decide)
      have e1 : (0 : Int64).toInt = 0 := by decide
      omega
    · have hgood : isL li k ∧ ¬ n < 0 := ⟨hk, hn⟩
      clear bad
      obtain ⟨N, hN, rfl⟩ := pk_lOf hn
      obtain ⟨a, ha, rfl⟩ := hk
      have ea : (nI a).toNatClampNeg = a := nI_clamp (by omega)
      have eN : (lN N).toInt.toNat = N := by rw [pk_lT hN]; exact Int.toNat_natCast N
      have hSa := h5 a ha
      have hoa := hSa.1
      generalize hPo : AS MS FrM σ li gi row od cf ts (qTe li ts (nI a) (lN N)) = Po
      have good : ∀ W, FrM σ W → MS li gi row od cf ts W → Po (some (.int (nI (ts a N)))) 90 W := fun W q1 q2 => by rw [← hPo]; exact ⟨rfl, q1, ⟨_, rfl, Or.inr ⟨hgood, by rw [ea, eN]⟩⟩, q2⟩
      clear hPo hgood eN ea
      refine z_ald0 (q := 1) d_mo_term_0 rfl ?_
      refine z_ild1 (q := 2) d_mo_term_1 rfl ?_
      refine z_cV1 (q := 5) d_mo_term_2 rfl (mt_isIn_yes h0 (by omega) h6 ha) (by first | assumption | omega) (by first | assumption | omega) rfl ck_mo_isIn lk_mo_82 im_mo_isIn sl_mo_isIn ⟨by decide, by decide⟩ (Nat.le_of_ble_eq_true rfl) rfl rfl ?_
      refine zi_if_eq (q := 8) (tgt := 14) d_mo_term_5 rfl (by decide) (by omega) (fun hb => absurd hb (by omega)) (fun _ => ?_)
      refine z_lld2 (q := 9) d_mo_term_8 rfl ?_
      refine z_lconst (v := lN 0) (q := 10) d_mo_term_9 rfl rfl ?_
      refine z_lcmp (q := 11) d_mo_term_10 rfl ?_
      refine zc_if_ge (q := 14) (tgt := 16) d_mo_term_11 rfl (by decide) (by omega) (by omega) (fun _ => ?_) (fun hb => absurd (Nat.zero_le _) hb)
      refine z_ald0 (q := 17) d_mo_term_16 rfl ?_
      refine z_get 3 (q := 20) d_mo_term_17 rfl fg_mo_13 (by first | assumption | omega) (by first | assumption | omega) (by rfl) ?_
      refine z_ild1 (q := 21) d_mo_term_20 rfl ?_
      refine z_iaload (q := 22) d_mo_term_21 rfl (by first | assumption | omega) (by first | assumption | omega) (by omega) (by omega) ?_
      rw [h2' a ha]
      refine z_ist4 (q := 24) d_mo_term_22 rfl rfl ?_
      refine z_ild4 (q := 26) d_mo_term_24 rfl ?_
      refine zi_if_ne (q := 29) (tgt := 31) d_mo_term_26 rfl (by decide) (by omega) (fun hr0 => ?_) (fun hr0 => ?_)
      · have hr0 : 0 < od a := by omega
        refine z_ald0 (q := 32) d_mo_term_31 rfl ?_
        refine z_ild1 (q := 33) d_mo_term_32 rfl ?_
        refine z_ild4 (q := 35) d_mo_term_33 rfl ?_
        refine z_gV2 (q := 38) d_mo_term_35 rfl (mt_makeStep h0 h3 hst0 hst0P (by omega) hoa hr0 (h3'' a ha) hSa.2.2.1) (by first | assumption | omega) (by first | assumption | omega) rfl ck_mo_makeStep lk_mo_100 im_mo_makeStep sl_mo_makeStep ⟨by decide, by decide⟩ (Nat.le_of_ble_eq_true rfl) rfl rfl (fun r m τ hp => ?_)
        obtain ⟨rfl, rfl, st1, rfl, hst1, hst1e⟩ := hp
        have hmv1 := mv_make (S := fun n => ph (ts a n)) (ob_of hSa) hst1e
        clear hst1e
        refine z_iconst (v := nI 0) (q := 39) d_mo_term_38 rfl (by decide) ?_
        refine z_ist5 (q := 41) d_mo_term_39 rfl rfl ?_
        have main : ∀ (f L t m : Nat) (st sq vec mv : Nat → Nat) (W : zWd), L < 2 ^ f → L < 2 ^ 63 → (∀ j, j ≠ 86 → j ≠ 87 → j ≠ 88 → j ≠ 89 → W j = σ j) → W 86 = zN 576 st → W 87 = zN 576 sq → W 88 = zN 24 vec → W 89 = zN 24 mv → (∀ j, st j < 2147483647) → (∀ j, sq j < 2147483647) → (∀ j, vec j < 2147483647) → (∀ j, mv j < 2147483647) → (0 < L → mv_ (fun n => ph (ts a n)) (od a) m st) → (∀ p, p < od a → vec p = ts a (t + p)) → t + m * L = N → Z m_mo_term Po 0 0 90 W 76 [some (.ref 78), some (.int (nI a)), some (.long (lN N)), none, some (.int (nI (od a))), some (.long (lN L)), none] [] := by
          intro f
          induction f with
          | zero =>
            intro L t m st sq vec mv W hL1 hL2 hW w6 w7 w8 w9 p6 p7 p8 p9 hmv hve hacc
            obtain rfl : L = 0 := by simp at hL1; omega
            have w0 : W 78 = zO 5 [.int (nI li), .int (nI gi), .ref 79, .ref 80, .ref 81, .ref 82, .ref 83, .ref 84, .ref 85, .ref 86, .ref 87, .ref 88, .ref 89] := by rw [hW 78 (by omega) (by omega) (by omega) (by omega)]; exact h0
            have e0 : vec 0 = ts a N := by rw [hve 0 hr0, ← hacc, Nat.mul_zero]
            refine z_lld5 (q := 78) d_mo_term_76 rfl ?_
            refine z_lconst (v := lN 0) (q := 79) d_mo_term_78 rfl rfl ?_
            refine z_lcmp (q := 80) d_mo_term_79 rfl ?_
            refine zc_if_le (q := 83) (tgt := 120) d_mo_term_80 rfl (by decide) (by omega) (by omega) (fun _ => ?_) (fun hb => absurd (Nat.le_refl 0) hb)
            refine z_ald0 (q := 121) d_mo_term_120 rfl ?_
            refine z_get 11 (q := 124) d_mo_term_121 rfl fg_mo_38 (by first | assumption | omega) (by first | assumption | omega) (by rfl) ?_
            refine z_iconst (v := nI 0) (q := 125) d_mo_term_124 rfl (by decide) ?_
            refine z_laload (q := 126) d_mo_term_125 rfl (by first | assumption | omega) (by first | assumption | omega) (by omega) (by omega) ?_
            rw [e0]
            first | refine zn_l2i (q := 127) d_mo_term_126 rfl ?_ | refine z_l2i (q := 127) d_mo_term_126 rfl ?_
            refine z_iret d_mo_term_127 rfl (Nat.le_refl _) (Nat.le_refl _) (good W (fun j hj => hW j (by omega) (by omega) (by omega) (by omega)) ⟨hMc'.congr (fun j q1 q2 => hW j (by omega) (by omega) (by omega) (by omega)), s83.congr (hW _ (by omega) (by omega) (by omega) (by omega)), s84.congr (hW _ (by omega) (by omega) (by omega) (by omega)), ?_, ⟨st, w6, p6⟩, ⟨sq, w7, p7⟩, ⟨vec, w8, p8⟩, ⟨mv, w9, p9⟩⟩)
            obtain ⟨f5, s85⟩ := s85
            exact ⟨f5, by rw [hW 85 (by omega) (by omega) (by omega) (by omega)]; exact s85⟩
          | succ f ih =>
            intro L t m st sq vec mv W hL1 hL2 hW w6 w7 w8 w9 p6 p7 p8 p9 hmv hve hacc
            have w0 : W 78 = zO 5 [.int (nI li), .int (nI gi), .ref 79, .ref 80, .ref 81, .ref 82, .ref 83, .ref 84, .ref 85, .ref 86, .ref 87, .ref 88, .ref 89] := by rw [hW 78 (by omega) (by omega) (by omega) (by omega)]; exact h0
            refine z_lld5 (q := 78) d_mo_term_76 rfl ?_
            refine z_lconst (v := lN 0) (q := 79) d_mo_term_78 rfl rfl ?_
            refine z_lcmp (q := 80) d_mo_term_79 rfl ?_
            refine zc_if_le (q := 83) (tgt := 120) d_mo_term_80 rfl (by decide) (by omega) (by omega) (fun hb => ?_) (fun hb => ?_)
            · obtain rfl : L = 0 := by omega
              have e0 : vec 0 = ts a N := by rw [hve 0 hr0, ← hacc, Nat.mul_zero]
              refine z_ald0 (q := 121) d_mo_term_120 rfl ?_
              refine z_get 11 (q := 124) d_mo_term_121 rfl fg_mo_38 (by first | assumption | omega) (by first | assumption | omega) (by rfl) ?_
              refine z_iconst (v := nI 0) (q := 125) d_mo_term_124 rfl (by decide) ?_
              refine z_laload (q := 126) d_mo_term_125 rfl (by first | assumption | omega) (by first | assumption | omega) (by omega) (by omega) ?_
              rw [e0]
              first | refine zn_l2i (q := 127) d_mo_term_126 rfl ?_ | refine z_l2i (q := 127) d_mo_term_126 rfl ?_
              refine z_iret d_mo_term_127 rfl (Nat.le_refl _) (Nat.le_refl _) (good W (fun j hj => hW j (by omega) (by omega) (by omega) (by omega)) ⟨hMc'.congr (fun j q1 q2 => hW j (by omega) (by omega) (by omega) (by omega)), s83.congr (hW _ (by omega) (by omega) (by omega) (by omega)), s84.congr (hW _ (by omega) (by omega) (by omega) (by omega)), ?_, ⟨st, w6, p6⟩, ⟨sq, w7, p7⟩, ⟨vec, w8, p8⟩, ⟨mv, w9, p9⟩⟩)
              obtain ⟨f5, s85⟩ := s85
              exact ⟨f5, by rw [hW 85 (by omega) (by omega) (by omega) (by omega)]; exact s85⟩
            · have hL0 : 0 < L := by omega
              have hmv := hmv hL0
              have half : ∀ (t' : Nat) (vec mv : Nat → Nat) (W : zWd), (∀ j, j ≠ 86 → j ≠ 87 → j ≠ 88 → j ≠ 89 → W j = σ j) → W 86 = zN 576 st → W 87 = zN 576 sq → W 88 = zN 24 vec → W 89 = zN 24 mv → (∀ j, vec j < 2147483647) → (∀ j, mv j < 2147483647) → (∀ p, p < od a → vec p = ts a (t' + p)) → t' + 2 * m * (L / 2 ^ 1) = N → Z m_mo_term Po 0 0 90 W 98 [some (.ref 78), some (.int (nI a)), some (.long (lN N)), none, some (.int (nI (od a))), some (.long (lN L)), none] [] := by
                intro t' vec mv W hW w6 w7 w8 w9 p8 p9 hve hacc
                have w0 : W 78 = zO 5 [.int (nI li), .int (nI gi), .ref 79, .ref 80, .ref 81, .ref 82, .ref 83, .ref 84, .ref 85, .ref 86, .ref 87, .ref 88, .ref 89] := by rw [hW 78 (by omega) (by omega) (by omega) (by omega)]; exact h0
                refine z_lld5 (q := 100) d_mo_term_98 rfl ?_
                refine z_lconst (v := lN 1) (q := 101) d_mo_term_100 rfl rfl ?_
                refine z_lcmp (q := 102) d_mo_term_101 rfl ?_
                refine zc_if_le (q := 105) (tgt := 111) d_mo_term_102 rfl (by decide) (by omega) (by omega) (fun hb => ?_) (fun hb => ?_)
                · refine z_lld5 (q := 113) d_mo_term_111 rfl ?_
                  refine z_iconst (v := nI 1) (q := 114) d_mo_term_113 rfl (by decide) ?_
                  refine zn_lshr (q := 115) d_mo_term_114 rfl (by omega) (by omega) ?_
                  refine z_lst5 (q := 117) d_mo_term_115 rfl rfl ?_
                  refine z_goto (tgt := 76) d_mo_term_117 (by decide) ?_
                  exact ih (L / 2 ^ 1) t' (2 * m) st sq vec mv W (by rw [Nat.pow_succ] at hL1; omega) (by omega) hW w6 w7 w8 w9 p6 p7 p8 p9 (fun h => by omega) hve hacc
                · refine z_ald0 (q := 106) d_mo_term_105 rfl ?_
                  refine z_ild4 (q := 108) d_mo_term_106 rfl ?_
                  refine z_gV1 (q := 111) d_mo_term_108 rfl (mt_squareStep w0 w6 w7 p6 p7 hoa) (by first | assumption | omega) (by first | assumption | omega) rfl ck_mo_squareStep lk_mo_108 im_mo_squareStep sl_mo_squareStep ⟨by decide, by decide⟩ (Nat.le_of_ble_eq_true rfl) rfl rfl (fun r m τ hp => ?_)
                  obtain ⟨rfl, rfl, g', s', rfl, hg', hs', hge⟩ := hp
                  have hmv2 := mv_square hmv hge
                  clear hge
                  refine z_lld5 (q := 113) d_mo_term_111 rfl ?_
                  refine z_iconst (v := nI 1) (q := 114) d_mo_term_113 rfl (by decide) ?_
                  refine zn_lshr (q := 115) d_mo_term_114 rfl (by omega) (by omega) ?_
                  refine z_lst5 (q := 117) d_mo_term_115 rfl rfl ?_
                  refine z_goto (tgt := 76) d_mo_term_117 (by decide) ?_
                  exact ih (L / 2 ^ 1) t' (2 * m) g' s' vec mv _ (by rw [Nat.pow_succ] at hL1; omega) (by omega) (fun j q6 q7 q8 q9 => by rw [zu_ne q6, zu_ne q7]; exact hW j q6 q7 q8 q9) zu_same (by rw [zu_ne (by omega), zu_same]) (by rw [zu_ne (by omega), zu_ne (by omega)]; exact w8) (by rw [zu_ne (by omega), zu_ne (by omega)]; exact w9) hg' hs' p8 p9 (fun _ => hmv2) hve hacc
              have eL : m * L = m * (L % 2) + 2 * m * (L / 2 ^ 1) := by
                have e1 := Nat.mod_add_div L 2
                calc m * L = m * (L % 2 + 2 * (L / 2)) := by rw [e1]
                  _ = m * (L % 2) + m * (2 * (L / 2)) := Nat.mul_add _ _ _
                  _ = m * (L % 2) + 2 * m * (L / 2 ^ 1) := by rw [Nat.pow_one, ← Nat.mul_assoc, Nat.mul_comm m 2]
              refine z_lld5 (q := 85) d_mo_term_83 rfl ?_
              refine z_lconst (v := lN 1) (q := 86) d_mo_term_85 rfl rfl ?_
              refine zn_land1 (q := 87) d_mo_term_86 rfl (by omega) ?_
              refine z_lconst (v := lN 1) (q := 88) d_mo_term_87 rfl rfl ?_
              refine z_lcmp (q := 89) d_mo_term_88 rfl ?_
              refine zc_if_ne (q := 92) (tgt := 98) d_mo_term_89 rfl (by decide) (by omega) (by omega) (fun hb2 => ?_) (fun hb2 => ?_)
              · rw [show L % 2 = 0 by omega, Nat.mul_zero, Nat.zero_add] at eL
                exact half t vec mv W hW w6 w7 w8 w9 p8 p9 hve (by rw [← eL]; exact hacc)
              · rw [hb2, Nat.mul_one] at eL
                refine z_ald0 (q := 93) d_mo_term_92 rfl ?_
                refine z_ild4 (q := 95) d_mo_term_93 rfl ?_
                refine z_gV1 (q := 98) d_mo_term_95 rfl (mt_applyStep w0 w6 w8 w9 p6 p8 p9 hoa) (by first | assumption | omega) (by first | assumption | omega) rfl ck_mo_applyStep lk_mo_104 im_mo_applyStep sl_mo_applyStep ⟨by decide, by decide⟩ (Nat.le_of_ble_eq_true rfl) rfl rfl (fun r m τ hp => ?_)
                obtain ⟨rfl, rfl, v', m', rfl, hv', hm', hve'⟩ := hp
                exact half (t + m) v' m' _ (fun j q6 q7 q8 q9 => by rw [zu_ne q8, zu_ne q9]; exact hW j q6 q7 q8 q9) (by rw [zu_ne (by omega), zu_ne (by omega)]; exact w6) (by rw [zu_ne (by omega), zu_ne (by omega)]; exact w7) zu_same (by rw [zu_ne (by omega), zu_same]) hv' hm' (fun p hp => by rw [hve' p hp]; exact mv_apply hSa.2.1 hmv hve p hp) (by rw [← hacc, eL, Nat.add_assoc])
        have fill : ∀ (e x : Nat) (t6 : Option Value) (v : Nat → Nat), x + e = od a → (∀ j, v j < 2147483647) → (∀ p, p < x → v p = ts a p) → Z m_mo_term Po 0 0 90 (va_up (va_up σ 86 (zN 576 st1)) 88 (zN 24 v)) 41 [some (.ref 78), some (.int (nI a)), some (.long (lN N)), none, some (.int (nI (od a))), some (.int (nI x)), t6] [] := by
          intro e
          induction e with
          | zero =>
            intro x t6 v hx hv hve
            obtain rfl : x = od a := by omega
            refine z_ild5 (q := 43) d_mo_term_41 rfl ?_
            refine z_ild4 (q := 45) d_mo_term_43 rfl ?_
            refine zn_icmp_ge (q := 48) (tgt := 73) d_mo_term_45 rfl (by decide) (by omega) (by omega) (fun hb => ?_) (fun hb => ?_)
            · refine z_lld2 (q := 74) d_mo_term_73 rfl ?_
              refine z_lst5 (q := 76) d_mo_term_74 rfl rfl ?_
              exact main 63 N 0 1 st1 sq0 v m0 _ hN hN (fun j q6 q7 q8 q9 => by rw [zu_ne q8, zu_ne q6]) (by rw [zu_ne (by omega), zu_same]) (by rw [zu_ne (by omega), zu_ne (by omega)]; exact hsq0) zu_same (by rw [zu_ne (by omega), zu_ne (by omega)]; exact hm0) hst1 hsq0P hv hm0P (fun _ => hmv1) (fun p hp => by rw [Nat.zero_add]; exact hve p hp) (by omega)
            · exact absurd hb (by omega)
          | succ e ih =>
            intro x t6 v hx hv hve
            have y0 : va_up (va_up σ 86 (zN 576 st1)) 88 (zN 24 v) 78 = zO 5 [.int (nI li), .int (nI gi), .ref 79, .ref 80, .ref 81, .ref 82, .ref 83, .ref 84, .ref 85, .ref 86, .ref 87, .ref 88, .ref 89] := by rw [zu_ne (by omega), zu_ne (by omega)]; exact h0
            have y2 : va_up (va_up σ 86 (zN 576 st1)) 88 (zN 24 v) 82 = zN 480 g2 := by rw [zu_ne (by omega), zu_ne (by omega)]; exact h4
            have y8 : va_up (va_up σ 86 (zN 576 st1)) 88 (zN 24 v) 88 = zN 24 v := zu_same
            refine z_ild5 (q := 43) d_mo_term_41 rfl ?_
            refine z_ild4 (q := 45) d_mo_term_43 rfl ?_
            refine zn_icmp_ge (q := 48) (tgt := 73) d_mo_term_45 rfl (by decide) (by omega) (by omega) (fun hb => ?_) (fun hb => ?_)
            · exact absurd hb (by omega)
            · refine z_ald0 (q := 49) d_mo_term_48 rfl ?_
              refine z_get 11 (q := 52) d_mo_term_49 rfl fg_mo_38 (by first | assumption | omega) (by first | assumption | omega) (by rfl) ?_
              refine z_ild5 (q := 54) d_mo_term_52 rfl ?_
              refine z_ald0 (q := 55) d_mo_term_54 rfl ?_
              refine z_get 5 (q := 58) d_mo_term_55 rfl fg_mo_20 (by first | assumption | omega) (by first | assumption | omega) (by rfl) ?_
              refine z_bipush (v := nI 24) (q := 60) d_mo_term_58 rfl (by decide) ?_
              refine z_ild1 (q := 61) d_mo_term_60 rfl ?_
              first | refine zn_imul (q := 62) d_mo_term_61 rfl ?_ | refine z_imul (q := 62) d_mo_term_61 rfl ?_
              refine z_ild5 (q := 64) d_mo_term_62 rfl ?_
              first | refine zn_iadd (q := 65) d_mo_term_64 rfl ?_ | refine z_iadd (q := 65) d_mo_term_64 rfl ?_
              refine z_laload (q := 66) d_mo_term_65 rfl (by first | assumption | omega) (by first | assumption | omega) (by omega) (by omega) ?_
              rw [h4'' a ha x (by omega)]
              refine z_lastore (q := 67) d_mo_term_66 rfl (by first | assumption | omega) (by first | assumption | omega) (by omega) (by omega) ?_
              refine zn_iinc5 (d := 1) (q := 70) d_mo_term_67 rfl rfl ?_
              refine z_goto (tgt := 41) d_mo_term_70 (by decide) ?_
              rw [zu_up]
              refine ih (x + 1) _ (va_up v x (ts a x)) (by omega) (up_lt hv (hSa.2.1 x)) (fun p hp => ?_)
              by_cases hpx : p = x
              · rw [hpx, up_at]
              · rw [up_ne hpx]; exact hve p (by omega)
        exact (Z.eqw (zu_id (show va_up σ 86 (zN 576 st1) 88 = zN 24 v0 by rw [zu_ne (by omega)]; exact hv0)) (fill (od a) 0 none v0 (by omega) hv0P (fun p hp => by omega)))
      · have e0 : ts a N = 0 := by
          have := hSa.2.2.2.1 N (by omega)
          rw [hr0] at this
          exact this
        rw [e0] at good
        refine z_iconst (v := nI 0) (q := 30) d_mo_term_29 rfl (by decide) ?_
        exact z_iret d_mo_term_30 rfl (Nat.le_refl _) (Nat.le_refl _) (good σ (fun _ _ => rfl) hms)
  · have hbad := bad (fun hh => hk hh.1)
    refine z_ald0 (q := 1) d_mo_term_0 rfl ?_
    refine z_ild1 (q := 2) d_mo_term_1 rfl ?_
    refine z_cV1 (q := 5) d_mo_term_2 rfl (mt_isIn_no h0 (by omega) h6 hk) (by first | assumption | omega) (by first | assumption | omega) rfl ck_mo_isIn lk_mo_82 im_mo_isIn sl_mo_isIn ⟨by decide, by decide⟩ (Nat.le_of_ble_eq_true rfl) rfl rfl ?_
    exact zi_if_eq (q := 8) (tgt := 14) d_mo_term_5 rfl (by decide) (by omega) (fun _ => hbad) (fun hb => absurd rfl hb)


