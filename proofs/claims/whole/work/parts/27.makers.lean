/-! More making methods of the class: combine, product, pairwise, spread, section -/
/-- an int between two bounds -/
def isR (lo hi : Nat) (m : Int32) : Prop := ∃ b, lo ≤ b ∧ b ≤ hi ∧ m = nI b
theorem isR_of {lo hi : Nat} {m : Int32} (hh : hi < 2 ^ 31) (h1 : ¬ m < nI lo) (h2 : m ≤ nI hi) (hl : lo ≤ hi) : isR lo hi m := by
  have e0 : (nI lo).toInt = (lo : Int) := nI_toInt (by omega)
  have e1 : (nI hi).toInt = (hi : Int) := nI_toInt hh
  rw [Int32.lt_iff_toInt_lt, e0] at h1
  rw [Int32.le_iff_toInt_le, e1] at h2
  refine ⟨m.toInt.toNat, by omega, by omega, Int32.toInt_inj.mp ?_⟩
  rw [nI_toInt (by omega)]
  omega
theorem cc_combine {σ : zWd} {li gi : Nat} {row od : Nat → Nat} {cf ts : Nat → Nat → Nat} (h : CS li gi row od cf ts σ) (j k u v : Int32) : Ct m_rs_combine [.ref 0, .int j, .int k, .int u, .int v] 90 σ (MK CS FrC σ li gi row od cf ts (isL li j ∧ isL li k) (od j.toNatClampNeg + od k.toNatClampNeg) (fun n => (nu_ u * ts j.toNatClampNeg n + nu_ v * ts k.toNatClampNeg n) % 2147483647)) := by
  have hcs := h
  obtain ⟨h0, ⟨f, hf1, hf2⟩, ⟨h2, h2'⟩, ⟨g3, h3, h3P⟩, ⟨g4, h4, h4P⟩, hFI, hSK, hDV, h8, h9, h10, h11, h12⟩ := h
  have h0' : σ 0 = zO 0 [.ref 1, .ref 2, .ref 3, .ref 4, .ref 5, .ref 9, .ref 15, .int (nI li), .int (nI gi)] := h0
  by_cases hj : isL li j
  · by_cases hk : isL li k
    · obtain ⟨a, ha, rfl⟩ := hj
      obtain ⟨b, hb, rfl⟩ := hk
      rw [nI_clamp (by omega), nI_clamp (by omega)]
      obtain ⟨ca, fa, ⟨a1, a2, a3, a4, a5⟩, a6, a7⟩ := h9 a ha
      have hSa := h10 a ha
      have hfa := hf2 a (by omega)
      have hoa := hSa.1
      obtain ⟨cb, fb, ⟨b1, b2, b3, b4, b5⟩, b6, b7⟩ := h9 b hb
      have hSb := h10 b hb
      have hfb := hf2 b (by omega)
      have hob := hSb.1

      refine Ct.of (lv := [some (.ref 0), some (.int (nI a)), some (.int (nI b)), some (.int u), some (.int v), none, none, none, none, none, none, none, none, none]) 9 (by decide) rfl (Nat.le_of_ble_eq_true rfl) ?_
      have hgood : isL li (nI a) ∧ isL li (nI b) := ⟨⟨a, ha, rfl⟩, ⟨b, hb, rfl⟩⟩
      generalize hPo : MK CS FrC σ li gi row od cf ts (isL li (nI a) ∧ isL li (nI b)) (od a + od b) (fun n => (nu_ u * ts a n + nu_ v * ts b n) % 2147483647) = Po
      generalize hs : (fun n => (nu_ u * ts a n + nu_ v * ts b n) % 2147483647) = s at hPo
      have hsP : ∀ n, s n < 2147483647 := fun n => by rw [← hs]; exact Nat.mod_lt _ (by omega)
      refine z_ald0 (q := 1) d_rs_combine_0 rfl ?_
      refine z_ild1 (q := 2) d_rs_combine_1 rfl ?_
      refine z_cV1 (q := 5) d_rs_combine_2 rfl (ct_isListed_yes h0 (by omega) h11 ha) (by first | assumption | omega) (by first | assumption | omega) rfl ck_rs_isListed lk_rs_75 im_rs_isListed sl_rs_isListed ⟨by decide, by decide⟩ (Nat.le_of_ble_eq_true rfl) rfl rfl ?_
      refine zi_if_eq (q := 8) (tgt := 16) d_rs_combine_5 rfl (by decide) (by omega) (fun hb9 => absurd hb9 (by omega)) (fun _ => ?_)
      refine z_ald0 (q := 9) d_rs_combine_8 rfl ?_
      refine z_ild2 (q := 10) d_rs_combine_9 rfl ?_
      refine z_cV1 (q := 13) d_rs_combine_10 rfl (ct_isListed_yes h0 (by omega) h11 hb) (by first | assumption | omega) (by first | assumption | omega) rfl ck_rs_isListed lk_rs_75 im_rs_isListed sl_rs_isListed ⟨by decide, by decide⟩ (Nat.le_of_ble_eq_true rfl) rfl rfl ?_
      refine zi_if_ne (q := 16) (tgt := 18) d_rs_combine_13 rfl (by decide) (by omega) (fun _ => ?_) (fun hb9 => absurd hb9 (by omega))
      refine z_ald0 (q := 19) d_rs_combine_18 rfl ?_
      refine z_get 0 (q := 22) d_rs_combine_19 rfl fg_rs_11 (by first | assumption | omega) (by first | assumption | omega) (by rfl) ?_
      refine z_ild1 (q := 23) d_rs_combine_22 rfl ?_
      refine z_aaload (q := 24) d_rs_combine_23 rfl (by first | assumption | omega) (by first | assumption | omega) (by omega) (by omega) (by first | assumption | omega) ?_
      refine z_ast5 (q := 26) d_rs_combine_24 rfl rfl ?_
      refine z_ald0 (q := 27) d_rs_combine_26 rfl ?_
      refine z_get 0 (q := 30) d_rs_combine_27 rfl fg_rs_11 (by first | assumption | omega) (by first | assumption | omega) (by rfl) ?_
      refine z_ild2 (q := 31) d_rs_combine_30 rfl ?_
      refine z_aaload (q := 32) d_rs_combine_31 rfl (by first | assumption | omega) (by first | assumption | omega) (by omega) (by omega) (by first | assumption | omega) ?_
      refine z_ast6 (q := 34) d_rs_combine_32 rfl rfl ?_
      refine z_ald5 (q := 36) d_rs_combine_34 rfl ?_
      refine z_get 0 (q := 39) d_rs_combine_36 rfl fg_rs_78 (by first | assumption | omega) (by first | assumption | omega) (by rfl) ?_
      refine z_ald6 (q := 41) d_rs_combine_39 rfl ?_
      refine z_get 0 (q := 44) d_rs_combine_41 rfl fg_rs_78 (by first | assumption | omega) (by first | assumption | omega) (by rfl) ?_
      first | refine zn_iadd (q := 45) d_rs_combine_44 rfl ?_ | refine z_iadd (q := 45) d_rs_combine_44 rfl ?_
      refine z_ist7 (q := 47) d_rs_combine_45 rfl rfl ?_
      refine z_ald0 (q := 48) d_rs_combine_47 rfl ?_
      refine z_ild7 (q := 50) d_rs_combine_48 rfl ?_
      refine z_cV1 (q := 53) d_rs_combine_50 rfl (ct_numberFor h0 (by omega) h11 (by omega)) (by first | assumption | omega) (by first | assumption | omega) rfl ck_rs_numberFor lk_rs_60 im_rs_numberFor sl_rs_numberFor ⟨by decide, by decide⟩ (Nat.le_of_ble_eq_true rfl) rfl rfl ?_
      refine z_ist8 (q := 55) d_rs_combine_53 rfl rfl ?_
      refine z_ild8 (q := 57) d_rs_combine_55 rfl ?_
      by_cases hn : 20 ≤ li ∨ 24 < od a + od b
      · refine z_if_ge (q := 60) (tgt := 63) d_rs_combine_57 rfl (by decide) (fun hb => absurd hb (nf_neg hn)) (fun _ => ?_)
        refine z_ild8 (q := 62) d_rs_combine_60 rfl ?_
        exact z_iret d_rs_combine_62 rfl (Nat.le_refl _) (Nat.le_refl _) (by rw [← hPo]; exact Or.inr (Or.inl ⟨hgood, hn, rfl, rfl, fun _ _ => rfl, hcs⟩))
      rw [nf_pos (by omega) (by omega)]
      refine zi_if_ge (tgt := 63) d_rs_combine_57 (by decide) (by omega) ?_
      have hl20 : li < 20 := by omega
      have hB24 : od a + od b ≤ 24 := by omega
      refine z_ild3 (q := 64) d_rs_combine_63 rfl ?_
      refine z_cS1 (q := 67) d_rs_combine_64 rfl (ct_of 90 σ u) ck_nu_of lk_rs_54 st_nu_of ⟨by decide, by decide⟩ (Nat.le_of_ble_eq_true rfl) rfl rfl ?_
      refine z_lst9 (q := 69) d_rs_combine_67 rfl rfl ?_
      refine z_ild4 (q := 71) d_rs_combine_69 rfl ?_
      refine z_cS1 (q := 74) d_rs_combine_71 rfl (ct_of 90 σ v) ck_nu_of lk_rs_54 st_nu_of ⟨by decide, by decide⟩ (Nat.le_of_ble_eq_true rfl) rfl rfl ?_
      refine z_lst11 (q := 76) d_rs_combine_74 rfl rfl ?_
      refine z_iconst (v := nI 0) (q := 77) d_rs_combine_76 rfl (by decide) ?_
      refine z_ist13 (q := 79) d_rs_combine_77 rfl rfl ?_
      have loop : ∀ (e x : Nat) (t8 t9 t10 : Option Value), x + e = 2 * (od a + od b) → Z m_rs_combine Po 0 0 90 (va_up σ 3 (zN 48 (fl_ s g3 x))) 79 [some (.ref 0), some (.int (nI a)), some (.int (nI b)), some (.int u), some (.int v), some (.ref (18 + 3 * a)), some (.ref (18 + 3 * b)), some (.int (nI (od a + od b))), some (.int (nI li)), some (.long (lN (nu_ u))), none, some (.long (lN (nu_ v))), none, some (.int (nI x))] [] := by
        intro e
        induction e with
        | zero =>
          intro x t8 t9 t10 hx
          obtain rfl : x = 2 * (od a + od b) := by omega
          refine z_ild13 (q := 81) d_rs_combine_79 rfl ?_
          refine z_iconst (v := nI 2) (q := 82) d_rs_combine_81 rfl (by decide) ?_
          refine z_ild7 (q := 84) d_rs_combine_82 rfl ?_
          first | refine zn_imul (q := 85) d_rs_combine_84 rfl ?_ | refine z_imul (q := 85) d_rs_combine_84 rfl ?_
          refine zn_icmp_ge (q := 88) (tgt := 127) d_rs_combine_85 rfl (by decide) (by omega) (by omega) (fun hb => ?_) (fun hb => ?_)
          · have y0 : va_up σ 3 (zN 48 (fl_ s g3 (2 * (od a + od b)))) 0 = zO 0 [.ref 1, .ref 2, .ref 3, .ref 4, .ref 5, .ref 9, .ref 15, .int (nI li), .int (nI gi)] := by rw [zu_ne (by omega)]; exact h0
            refine z_ald0 (q := 128) d_rs_combine_127 rfl ?_
            refine z_ild7 (q := 130) d_rs_combine_128 rfl ?_
            have hcm := hcs.made (g := fl_ s g3 (2 * (od a + od b))) (fl_lt hsP h3P)
            refine z_gV1 (q := 133) d_rs_combine_130 rfl (ct_enlist hcm (by omega) hB24 zu_same (fl_lt hsP h3P) (fun j hj => fl_lo (by omega)) hsP (by rw [← hs]; have := bd_combine fp_inv (ob_of hSa) (ob_of hSb) (ph (nu_ u)) (ph (nu_ v)); simp only [ph_mod, ph_add, ph_mul]; exact this)) (by first | assumption | omega) (by first | assumption | omega) rfl ck_rs_enlist lk_rs_72 im_rs_enlist sl_rs_enlist ⟨by decide, by decide⟩ (Nat.le_of_ble_eq_true rfl) rfl rfl (fun r m τ hp => ?_)
            have hen := EN_made (σ := σ) (fun j hj => zu_ne (by omega)) hp
            obtain ⟨rfl, -, rfl, -⟩ := hp
            exact z_iret d_rs_combine_133 rfl (Nat.le_refl _) (Nat.le_refl _) (by rw [← hPo]; exact Or.inr (Or.inr ⟨hgood, hl20, hB24, hen⟩))
          · exact absurd hb (by omega)
        | succ e ih =>
          intro x t8 t9 t10 hx
          have y0 : va_up σ 3 (zN 48 (fl_ s g3 x)) 0 = zO 0 [.ref 1, .ref 2, .ref 3, .ref 4, .ref 5, .ref 9, .ref 15, .int (nI li), .int (nI gi)] := by rw [zu_ne (by omega)]; exact h0
          have y3 : va_up σ 3 (zN 48 (fl_ s g3 x)) 3 = zN 48 (fl_ s g3 x) := zu_same
          have ya : va_up σ 3 (zN 48 (fl_ s g3 x)) (18 + 3 * a) = zO 1 [.int (nI (od a)), .ref (19 + 3 * a), .ref (20 + 3 * a)] := by rw [zu_ne (by omega)]; exact a1
          have yta : va_up σ 3 (zN 48 (fl_ s g3 x)) (20 + 3 * a) = zN 88 fa := by rw [zu_ne (by omega)]; exact a3
          have yb : va_up σ 3 (zN 48 (fl_ s g3 x)) (18 + 3 * b) = zO 1 [.int (nI (od b)), .ref (19 + 3 * b), .ref (20 + 3 * b)] := by rw [zu_ne (by omega)]; exact b1
          have ytb : va_up σ 3 (zN 48 (fl_ s g3 x)) (20 + 3 * b) = zN 88 fb := by rw [zu_ne (by omega)]; exact b3
          refine z_ild13 (q := 81) d_rs_combine_79 rfl ?_
          refine z_iconst (v := nI 2) (q := 82) d_rs_combine_81 rfl (by decide) ?_
          refine z_ild7 (q := 84) d_rs_combine_82 rfl ?_
          first | refine zn_imul (q := 85) d_rs_combine_84 rfl ?_ | refine z_imul (q := 85) d_rs_combine_84 rfl ?_
          refine zn_icmp_ge (q := 88) (tgt := 127) d_rs_combine_85 rfl (by decide) (by omega) (by omega) (fun hb => ?_) (fun hb => ?_)
          · exact absurd hb (by omega)
          · refine z_ald0 (q := 89) d_rs_combine_88 rfl ?_
            refine z_get 2 (q := 92) d_rs_combine_89 rfl fg_rs_19 (by first | assumption | omega) (by first | assumption | omega) (by rfl) ?_
            refine z_ild13 (q := 94) d_rs_combine_92 rfl ?_
            refine z_lld9 (q := 96) d_rs_combine_94 rfl ?_
            refine z_ald5 (q := 98) d_rs_combine_96 rfl ?_
            refine z_get 2 (q := 101) d_rs_combine_98 rfl fg_rs_81 (by first | assumption | omega) (by first | assumption | omega) (by rfl) ?_
            refine z_ild13 (q := 103) d_rs_combine_101 rfl ?_
            refine z_laload (q := 104) d_rs_combine_103 rfl (by first | assumption | omega) (by first | assumption | omega) (by omega) (by omega) ?_
            refine z_cS2 (q := 107) d_rs_combine_104 rfl (ct_times 90 _ (nu_lt u) (a5 x)) ck_nu_times lk_rs_84 st_nu_times ⟨by decide, by decide⟩ (Nat.le_of_ble_eq_true rfl) rfl rfl ?_
            refine z_lld11 (q := 109) d_rs_combine_107 rfl ?_
            refine z_ald6 (q := 111) d_rs_combine_109 rfl ?_
            refine z_get 2 (q := 114) d_rs_combine_111 rfl fg_rs_81 (by first | assumption | omega) (by first | assumption | omega) (by rfl) ?_
            refine z_ild13 (q := 116) d_rs_combine_114 rfl ?_
            refine z_laload (q := 117) d_rs_combine_116 rfl (by first | assumption | omega) (by first | assumption | omega) (by omega) (by omega) ?_
            refine z_cS3 (q := 120) d_rs_combine_117 rfl (ct_plusTimes 90 _ (Nat.mod_lt _ (by omega)) (nu_lt v) (b5 x)) ck_nu_plusTimes lk_rs_88 st_nu_plusTimes ⟨by decide, by decide⟩ (Nat.le_of_ble_eq_true rfl) rfl rfl ?_
            refine z_lastore (q := 121) d_rs_combine_120 rfl (by first | assumption | omega) (by first | assumption | omega) (by omega) (by omega) ?_
            refine zn_iinc13 (d := 1) (q := 124) d_rs_combine_121 rfl rfl ?_
            refine z_goto (tgt := 79) d_rs_combine_124 (by decide) ?_
            refine Z.eqw ?_ (ih (x + 1) t8 t9 t10 (by omega))
            rw [zu_up, ← fl_s, ← hs, a7 x (by omega), b7 x (by omega), Nat.mod_add_mod]
      exact (Z.eqw (by rw [fl_0]; exact zu_id h3) (loop (2 * (od a + od b)) 0 none none none (by omega)))
    · obtain ⟨a, ha, rfl⟩ := hj
      refine Ct.of (lv := [some (.ref 0), some (.int (nI a)), some (.int k), some (.int u), some (.int v), none, none, none, none, none, none, none, none, none]) 9 (by decide) rfl (Nat.le_of_ble_eq_true rfl) ?_
      refine z_ald0 (q := 1) d_rs_combine_0 rfl ?_
      refine z_ild1 (q := 2) d_rs_combine_1 rfl ?_
      refine z_cV1 (q := 5) d_rs_combine_2 rfl (ct_isListed_yes h0 (by omega) h11 ha) (by first | assumption | omega) (by first | assumption | omega) rfl ck_rs_isListed lk_rs_75 im_rs_isListed sl_rs_isListed ⟨by decide, by decide⟩ (Nat.le_of_ble_eq_true rfl) rfl rfl ?_
      refine zi_if_eq (q := 8) (tgt := 16) d_rs_combine_5 rfl (by decide) (by omega) (fun hb9 => absurd hb9 (by omega)) (fun _ => ?_)
      refine z_ald0 (q := 9) d_rs_combine_8 rfl ?_
      refine z_ild2 (q := 10) d_rs_combine_9 rfl ?_
      refine z_cV1 (q := 13) d_rs_combine_10 rfl (ct_isListed_no h0 (by omega) h11 hk) (by first | assumption | omega) (by first | assumption | omega) rfl ck_rs_isListed lk_rs_75 im_rs_isListed sl_rs_isListed ⟨by decide, by decide⟩ (Nat.le_of_ble_eq_true rfl) rfl rfl ?_
      refine zi_if_ne (q := 16) (tgt := 18) d_rs_combine_13 rfl (by decide) (by omega) (fun hb9 => absurd rfl hb9) (fun _ => ?_)
      refine z_iconst (v := (-1)) (q := 17) d_rs_combine_16 rfl (by decide) ?_
      exact z_iret d_rs_combine_17 rfl (Nat.le_refl _) (Nat.le_refl _) (Or.inl ⟨fun hh => hk hh.2, rfl, rfl, fun _ _ => rfl, hcs⟩)
  · refine Ct.of (lv := [some (.ref 0), some (.int j), some (.int k), some (.int u), some (.int v), none, none, none, none, none, none, none, none, none]) 9 (by decide) rfl (Nat.le_of_ble_eq_true rfl) ?_
    refine z_ald0 (q := 1) d_rs_combine_0 rfl ?_
    refine z_ild1 (q := 2) d_rs_combine_1 rfl ?_
    refine z_cV1 (q := 5) d_rs_combine_2 rfl (ct_isListed_no h0 (by omega) h11 hj) (by first | assumption | omega) (by first | assumption | omega) rfl ck_rs_isListed lk_rs_75 im_rs_isListed sl_rs_isListed ⟨by decide, by decide⟩ (Nat.le_of_ble_eq_true rfl) rfl rfl ?_
    refine zi_if_eq (q := 8) (tgt := 16) d_rs_combine_5 rfl (by decide) (by omega) (fun _ => ?_) (fun hb9 => absurd rfl hb9)
    refine z_iconst (v := (-1)) (q := 17) d_rs_combine_16 rfl (by decide) ?_
    exact z_iret d_rs_combine_17 rfl (Nat.le_refl _) (Nat.le_refl _) (Or.inl ⟨fun hh => hj hh.1, rfl, rfl, fun _ _ => rfl, hcs⟩)
theorem cc_product {σ : zWd} {li gi : Nat} {row od : Nat → Nat} {cf ts : Nat → Nat → Nat} (h : CS li gi row od cf ts σ) (j k : Int32) : Ct m_rs_product [.ref 0, .int j, .int k] 90 σ (MK CS FrC σ li gi row od cf ts (isL li j ∧ isL li k) (od j.toNatClampNeg + od k.toNatClampNeg) (fun n => pd_ (ts j.toNatClampNeg) (ts k.toNatClampNeg) n (n + 1))) := by
  have hcs := h
  obtain ⟨h0, ⟨f, hf1, hf2⟩, ⟨h2, h2'⟩, ⟨g3, h3, h3P⟩, ⟨g4, h4, h4P⟩, hFI, hSK, hDV, h8, h9, h10, h11, h12⟩ := h
  have h0' : σ 0 = zO 0 [.ref 1, .ref 2, .ref 3, .ref 4, .ref 5, .ref 9, .ref 15, .int (nI li), .int (nI gi)] := h0
  by_cases hj : isL li j
  · by_cases hk : isL li k
    · obtain ⟨a, ha, rfl⟩ := hj
      obtain ⟨b, hb, rfl⟩ := hk
      rw [nI_clamp (by omega), nI_clamp (by omega)]
      obtain ⟨ca, fa, ⟨a1, a2, a3, a4, a5⟩, a6, a7⟩ := h9 a ha
      have hSa := h10 a ha
      have hfa := hf2 a (by omega)
      have hoa := hSa.1
      obtain ⟨cb, fb, ⟨b1, b2, b3, b4, b5⟩, b6, b7⟩ := h9 b hb
      have hSb := h10 b hb
      have hfb := hf2 b (by omega)
      have hob := hSb.1

      refine Ct.of (lv := [some (.ref 0), some (.int (nI a)), some (.int (nI b)), none, none, none, none, none, none, none, none]) 8 (by decide) rfl (Nat.le_of_ble_eq_true rfl) ?_
      have hgood : isL li (nI a) ∧ isL li (nI b) := ⟨⟨a, ha, rfl⟩, ⟨b, hb, rfl⟩⟩
      generalize hPo : MK CS FrC σ li gi row od cf ts (isL li (nI a) ∧ isL li (nI b)) (od a + od b) (fun n => pd_ (ts a) (ts b) n (n + 1)) = Po
      generalize hs : (fun n => pd_ (ts a) (ts b) n (n + 1)) = s at hPo
      have hsP : ∀ n, s n < 2147483647 := fun n => by rw [← hs]; exact pd_lt _ _ _ _
      refine z_ald0 (q := 1) d_rs_product_0 rfl ?_
      refine z_ild1 (q := 2) d_rs_product_1 rfl ?_
      refine z_cV1 (q := 5) d_rs_product_2 rfl (ct_isListed_yes h0 (by omega) h11 ha) (by first | assumption | omega) (by first | assumption | omega) rfl ck_rs_isListed lk_rs_75 im_rs_isListed sl_rs_isListed ⟨by decide, by decide⟩ (Nat.le_of_ble_eq_true rfl) rfl rfl ?_
      refine zi_if_eq (q := 8) (tgt := 16) d_rs_product_5 rfl (by decide) (by omega) (fun hb9 => absurd hb9 (by omega)) (fun _ => ?_)
      refine z_ald0 (q := 9) d_rs_product_8 rfl ?_
      refine z_ild2 (q := 10) d_rs_product_9 rfl ?_
      refine z_cV1 (q := 13) d_rs_product_10 rfl (ct_isListed_yes h0 (by omega) h11 hb) (by first | assumption | omega) (by first | assumption | omega) rfl ck_rs_isListed lk_rs_75 im_rs_isListed sl_rs_isListed ⟨by decide, by decide⟩ (Nat.le_of_ble_eq_true rfl) rfl rfl ?_
      refine zi_if_ne (q := 16) (tgt := 18) d_rs_product_13 rfl (by decide) (by omega) (fun _ => ?_) (fun hb9 => absurd hb9 (by omega))
      refine z_ald0 (q := 19) d_rs_product_18 rfl ?_
      refine z_get 0 (q := 22) d_rs_product_19 rfl fg_rs_11 (by first | assumption | omega) (by first | assumption | omega) (by rfl) ?_
      refine z_ild1 (q := 23) d_rs_product_22 rfl ?_
      refine z_aaload (q := 24) d_rs_product_23 rfl (by first | assumption | omega) (by first | assumption | omega) (by omega) (by omega) (by first | assumption | omega) ?_
      refine z_ast3 (q := 25) d_rs_product_24 rfl rfl ?_
      refine z_ald0 (q := 26) d_rs_product_25 rfl ?_
      refine z_get 0 (q := 29) d_rs_product_26 rfl fg_rs_11 (by first | assumption | omega) (by first | assumption | omega) (by rfl) ?_
      refine z_ild2 (q := 30) d_rs_product_29 rfl ?_
      refine z_aaload (q := 31) d_rs_product_30 rfl (by first | assumption | omega) (by first | assumption | omega) (by omega) (by omega) (by first | assumption | omega) ?_
      refine z_ast4 (q := 33) d_rs_product_31 rfl rfl ?_
      refine z_ald3 (q := 34) d_rs_product_33 rfl ?_
      refine z_get 0 (q := 37) d_rs_product_34 rfl fg_rs_78 (by first | assumption | omega) (by first | assumption | omega) (by rfl) ?_
      refine z_ald4 (q := 39) d_rs_product_37 rfl ?_
      refine z_get 0 (q := 42) d_rs_product_39 rfl fg_rs_78 (by first | assumption | omega) (by first | assumption | omega) (by rfl) ?_
      first | refine zn_iadd (q := 43) d_rs_product_42 rfl ?_ | refine z_iadd (q := 43) d_rs_product_42 rfl ?_
      refine z_ist5 (q := 45) d_rs_product_43 rfl rfl ?_
      refine z_ald0 (q := 46) d_rs_product_45 rfl ?_
      refine z_ild5 (q := 48) d_rs_product_46 rfl ?_
      refine z_cV1 (q := 51) d_rs_product_48 rfl (ct_numberFor h0 (by omega) h11 (by omega)) (by first | assumption | omega) (by first | assumption | omega) rfl ck_rs_numberFor lk_rs_60 im_rs_numberFor sl_rs_numberFor ⟨by decide, by decide⟩ (Nat.le_of_ble_eq_true rfl) rfl rfl ?_
      refine z_ist6 (q := 53) d_rs_product_51 rfl rfl ?_
      refine z_ild6 (q := 55) d_rs_product_53 rfl ?_
      by_cases hn : 20 ≤ li ∨ 24 < od a + od b
      · refine z_if_ge (q := 58) (tgt := 61) d_rs_product_55 rfl (by decide) (fun hb => absurd hb (nf_neg hn)) (fun _ => ?_)
        refine z_ild6 (q := 60) d_rs_product_58 rfl ?_
        exact z_iret d_rs_product_60 rfl (Nat.le_refl _) (Nat.le_refl _) (by rw [← hPo]; exact Or.inr (Or.inl ⟨hgood, hn, rfl, rfl, fun _ _ => rfl, hcs⟩))
      rw [nf_pos (by omega) (by omega)]
      refine zi_if_ge (tgt := 61) d_rs_product_55 (by decide) (by omega) ?_
      have hl20 : li < 20 := by omega
      have hB24 : od a + od b ≤ 24 := by omega
      refine z_iconst (v := nI 0) (q := 62) d_rs_product_61 rfl (by decide) ?_
      refine z_ist7 (q := 64) d_rs_product_62 rfl rfl ?_
      have loop : ∀ (e x : Nat) (t8 t9 t10 : Option Value), x + e = 2 * (od a + od b) → Z m_rs_product Po 0 0 90 (va_up σ 3 (zN 48 (fl_ s g3 x))) 64 [some (.ref 0), some (.int (nI a)), some (.int (nI b)), some (.ref (18 + 3 * a)), some (.ref (18 + 3 * b)), some (.int (nI (od a + od b))), some (.int (nI li)), some (.int (nI x)), t8, t9, t10] [] := by
        intro e
        induction e with
        | zero =>
          intro x t8 t9 t10 hx
          obtain rfl : x = 2 * (od a + od b) := by omega
          refine z_ild7 (q := 66) d_rs_product_64 rfl ?_
          refine z_iconst (v := nI 2) (q := 67) d_rs_product_66 rfl (by decide) ?_
          refine z_ild5 (q := 69) d_rs_product_67 rfl ?_
          first | refine zn_imul (q := 70) d_rs_product_69 rfl ?_ | refine z_imul (q := 70) d_rs_product_69 rfl ?_
          refine zn_icmp_ge (q := 73) (tgt := 132) d_rs_product_70 rfl (by decide) (by omega) (by omega) (fun hb => ?_) (fun hb => ?_)
          · have y0 : va_up σ 3 (zN 48 (fl_ s g3 (2 * (od a + od b)))) 0 = zO 0 [.ref 1, .ref 2, .ref 3, .ref 4, .ref 5, .ref 9, .ref 15, .int (nI li), .int (nI gi)] := by rw [zu_ne (by omega)]; exact h0
            refine z_ald0 (q := 133) d_rs_product_132 rfl ?_
            refine z_ild5 (q := 135) d_rs_product_133 rfl ?_
            have hcm := hcs.made (g := fl_ s g3 (2 * (od a + od b))) (fl_lt hsP h3P)
            refine z_gV1 (q := 138) d_rs_product_135 rfl (ct_enlist hcm (by omega) hB24 zu_same (fl_lt hsP h3P) (fun j hj => fl_lo (by omega)) hsP (by rw [← hs]; have := bd_product fp_inv (ob_of hSa) (ob_of hSb); simp only [pd_ph]; exact this)) (by first | assumption | omega) (by first | assumption | omega) rfl ck_rs_enlist lk_rs_72 im_rs_enlist sl_rs_enlist ⟨by decide, by decide⟩ (Nat.le_of_ble_eq_true rfl) rfl rfl (fun r m τ hp => ?_)
            have hen := EN_made (σ := σ) (fun j hj => zu_ne (by omega)) hp
            obtain ⟨rfl, -, rfl, -⟩ := hp
            exact z_iret d_rs_product_138 rfl (Nat.le_refl _) (Nat.le_refl _) (by rw [← hPo]; exact Or.inr (Or.inr ⟨hgood, hl20, hB24, hen⟩))
          · exact absurd hb (by omega)
        | succ e ih =>
          intro x t8 t9 t10 hx
          have y0 : va_up σ 3 (zN 48 (fl_ s g3 x)) 0 = zO 0 [.ref 1, .ref 2, .ref 3, .ref 4, .ref 5, .ref 9, .ref 15, .int (nI li), .int (nI gi)] := by rw [zu_ne (by omega)]; exact h0
          have y3 : va_up σ 3 (zN 48 (fl_ s g3 x)) 3 = zN 48 (fl_ s g3 x) := zu_same
          have ya : va_up σ 3 (zN 48 (fl_ s g3 x)) (18 + 3 * a) = zO 1 [.int (nI (od a)), .ref (19 + 3 * a), .ref (20 + 3 * a)] := by rw [zu_ne (by omega)]; exact a1
          have yta : va_up σ 3 (zN 48 (fl_ s g3 x)) (20 + 3 * a) = zN 88 fa := by rw [zu_ne (by omega)]; exact a3
          have yb : va_up σ 3 (zN 48 (fl_ s g3 x)) (18 + 3 * b) = zO 1 [.int (nI (od b)), .ref (19 + 3 * b), .ref (20 + 3 * b)] := by rw [zu_ne (by omega)]; exact b1
          have ytb : va_up σ 3 (zN 48 (fl_ s g3 x)) (20 + 3 * b) = zN 88 fb := by rw [zu_ne (by omega)]; exact b3
          refine z_ild7 (q := 66) d_rs_product_64 rfl ?_
          refine z_iconst (v := nI 2) (q := 67) d_rs_product_66 rfl (by decide) ?_
          refine z_ild5 (q := 69) d_rs_product_67 rfl ?_
          first | refine zn_imul (q := 70) d_rs_product_69 rfl ?_ | refine z_imul (q := 70) d_rs_product_69 rfl ?_
          refine zn_icmp_ge (q := 73) (tgt := 132) d_rs_product_70 rfl (by decide) (by omega) (by omega) (fun hb => ?_) (fun hb => ?_)
          · exact absurd hb (by omega)
          · have inner : ∀ e2 z, z + e2 = x + 1 → Z m_rs_product Po 0 0 90 (va_up σ 3 (zN 48 (fl_ s g3 x))) 79 [some (.ref 0), some (.int (nI a)), some (.int (nI b)), some (.ref (18 + 3 * a)), some (.ref (18 + 3 * b)), some (.int (nI (od a + od b))), some (.int (nI li)), some (.int (nI x)), some (.long (lN (pd_ (ts a) (ts b) x z))), none, some (.int (nI z))] [] := by
              intro e2
              induction e2 with
              | zero =>
                intro z hz
                obtain rfl : z = x + 1 := by omega
                refine z_ild10 (q := 81) d_rs_product_79 rfl ?_
                refine z_ild7 (q := 83) d_rs_product_81 rfl ?_
                refine zn_icmp_gt (q := 86) (tgt := 117) d_rs_product_83 rfl (by decide) (by omega) (by omega) (fun hb => ?_) (fun hb => ?_)
                · refine z_ald0 (q := 118) d_rs_product_117 rfl ?_
                  refine z_get 2 (q := 121) d_rs_product_118 rfl fg_rs_19 (by first | assumption | omega) (by first | assumption | omega) (by rfl) ?_
                  refine z_ild7 (q := 123) d_rs_product_121 rfl ?_
                  refine z_lld8 (q := 125) d_rs_product_123 rfl ?_
                  refine z_lastore (q := 126) d_rs_product_125 rfl (by first | assumption | omega) (by first | assumption | omega) (by omega) (by omega) ?_
                  refine zn_iinc7 (d := 1) (q := 129) d_rs_product_126 rfl rfl ?_
                  refine z_goto (tgt := 64) d_rs_product_129 (by decide) ?_
                  refine Z.eqw ?_ (ih (x + 1) _ _ _ (by omega))
                  rw [zu_up, ← fl_s, ← hs]
                · exact absurd hb (by omega)
              | succ e2 ih2 =>
                intro z hz
                refine z_ild10 (q := 81) d_rs_product_79 rfl ?_
                refine z_ild7 (q := 83) d_rs_product_81 rfl ?_
                refine zn_icmp_gt (q := 86) (tgt := 117) d_rs_product_83 rfl (by decide) (by omega) (by omega) (fun hb => ?_) (fun hb => ?_)
                · exact absurd hb (by omega)
                · refine z_lld8 (q := 88) d_rs_product_86 rfl ?_
                  refine z_ald3 (q := 89) d_rs_product_88 rfl ?_
                  refine z_get 2 (q := 92) d_rs_product_89 rfl fg_rs_81 (by first | assumption | omega) (by first | assumption | omega) (by rfl) ?_
                  refine z_ild10 (q := 94) d_rs_product_92 rfl ?_
                  refine z_laload (q := 95) d_rs_product_94 rfl (by first | assumption | omega) (by first | assumption | omega) (by omega) (by omega) ?_
                  refine z_ald4 (q := 97) d_rs_product_95 rfl ?_
                  refine z_get 2 (q := 100) d_rs_product_97 rfl fg_rs_81 (by first | assumption | omega) (by first | assumption | omega) (by rfl) ?_
                  refine z_ild7 (q := 102) d_rs_product_100 rfl ?_
                  refine z_ild10 (q := 104) d_rs_product_102 rfl ?_
                  first | refine zn_isub (q := 105) d_rs_product_104 rfl (by omega) ?_ | refine z_isub (q := 105) d_rs_product_104 rfl ?_
                  refine z_laload (q := 106) d_rs_product_105 rfl (by first | assumption | omega) (by first | assumption | omega) (by omega) (by omega) ?_
                  refine z_cS3 (q := 109) d_rs_product_106 rfl (ct_plusTimes 90 _ (pd_lt (ts a) (ts b) x z) (a5 z) (b5 (x - z))) ck_nu_plusTimes lk_rs_88 st_nu_plusTimes ⟨by decide, by decide⟩ (Nat.le_of_ble_eq_true rfl) rfl rfl ?_
                  rw [a7 z (by omega), b7 (x - z) (by omega)]
                  refine z_lst8 (q := 111) d_rs_product_109 rfl rfl ?_
                  refine zn_iinc10 (d := 1) (q := 114) d_rs_product_111 rfl rfl ?_
                  refine z_goto (tgt := 79) d_rs_product_114 (by decide) ?_
                  exact ih2 (z + 1) (by omega)
            refine z_lconst (v := lN 0) (q := 74) d_rs_product_73 rfl rfl ?_
            refine z_lst8 (q := 76) d_rs_product_74 rfl rfl ?_
            refine z_iconst (v := nI 0) (q := 77) d_rs_product_76 rfl (by decide) ?_
            refine z_ist10 (q := 79) d_rs_product_77 rfl rfl ?_
            exact inner (x + 1) 0 (by omega)
      exact (Z.eqw (by rw [fl_0]; exact zu_id h3) (loop (2 * (od a + od b)) 0 _ _ _ (by omega)))
    · obtain ⟨a, ha, rfl⟩ := hj
      refine Ct.of (lv := [some (.ref 0), some (.int (nI a)), some (.int k), none, none, none, none, none, none, none, none]) 8 (by decide) rfl (Nat.le_of_ble_eq_true rfl) ?_
      refine z_ald0 (q := 1) d_rs_product_0 rfl ?_
      refine z_ild1 (q := 2) d_rs_product_1 rfl ?_
      refine z_cV1 (q := 5) d_rs_product_2 rfl (ct_isListed_yes h0 (by omega) h11 ha) (by first | assumption | omega) (by first | assumption | omega) rfl ck_rs_isListed lk_rs_75 im_rs_isListed sl_rs_isListed ⟨by decide, by decide⟩ (Nat.le_of_ble_eq_true rfl) rfl rfl ?_
      refine zi_if_eq (q := 8) (tgt := 16) d_rs_product_5 rfl (by decide) (by omega) (fun hb9 => absurd hb9 (by omega)) (fun _ => ?_)
      refine z_ald0 (q := 9) d_rs_product_8 rfl ?_
      refine z_ild2 (q := 10) d_rs_product_9 rfl ?_
      refine z_cV1 (q := 13) d_rs_product_10 rfl (ct_isListed_no h0 (by omega) h11 hk) (by first | assumption | omega) (by first | assumption | omega) rfl ck_rs_isListed lk_rs_75 im_rs_isListed sl_rs_isListed ⟨by decide, by decide⟩ (Nat.le_of_ble_eq_true rfl) rfl rfl ?_
      refine zi_if_ne (q := 16) (tgt := 18) d_rs_product_13 rfl (by decide) (by omega) (fun hb9 => absurd rfl hb9) (fun _ => ?_)
      refine z_iconst (v := (-1)) (q := 17) d_rs_product_16 rfl (by decide) ?_
      exact z_iret d_rs_product_17 rfl (Nat.le_refl _) (Nat.le_refl _) (Or.inl ⟨fun hh => hk hh.2, rfl, rfl, fun _ _ => rfl, hcs⟩)
  · refine Ct.of (lv := [some (.ref 0), some (.int j), some (.int k), none, none, none, none, none, none, none, none]) 8 (by decide) rfl (Nat.le_of_ble_eq_true rfl) ?_
    refine z_ald0 (q := 1) d_rs_product_0 rfl ?_
    refine z_ild1 (q := 2) d_rs_product_1 rfl ?_
    refine z_cV1 (q := 5) d_rs_product_2 rfl (ct_isListed_no h0 (by omega) h11 hj) (by first | assumption | omega) (by first | assumption | omega) rfl ck_rs_isListed lk_rs_75 im_rs_isListed sl_rs_isListed ⟨by decide, by decide⟩ (Nat.le_of_ble_eq_true rfl) rfl rfl ?_
    refine zi_if_eq (q := 8) (tgt := 16) d_rs_product_5 rfl (by decide) (by omega) (fun _ => ?_) (fun hb9 => absurd rfl hb9)
    refine z_iconst (v := (-1)) (q := 17) d_rs_product_16 rfl (by decide) ?_
    exact z_iret d_rs_product_17 rfl (Nat.le_refl _) (Nat.le_refl _) (Or.inl ⟨fun hh => hj hh.1, rfl, rfl, fun _ _ => rfl, hcs⟩)
theorem cc_pairwise {σ : zWd} {li gi : Nat} {row od : Nat → Nat} {cf ts : Nat → Nat → Nat} (h : CS li gi row od cf ts σ) (j k : Int32) : Ct m_rs_pairwise [.ref 0, .int j, .int k] 90 σ (MK CS FrC σ li gi row od cf ts (isL li j ∧ isL li k) (od j.toNatClampNeg * od k.toNatClampNeg) (fun n => ts j.toNatClampNeg n * ts k.toNatClampNeg n % 2147483647)) := by
  have hcs := h
  obtain ⟨h0, ⟨f, hf1, hf2⟩, ⟨h2, h2'⟩, ⟨g3, h3, h3P⟩, ⟨g4, h4, h4P⟩, hFI, hSK, hDV, h8, h9, h10, h11, h12⟩ := h
  have h0' : σ 0 = zO 0 [.ref 1, .ref 2, .ref 3, .ref 4, .ref 5, .ref 9, .ref 15, .int (nI li), .int (nI gi)] := h0
  by_cases hj : isL li j
  · by_cases hk : isL li k
    · obtain ⟨a, ha, rfl⟩ := hj
      obtain ⟨b, hb, rfl⟩ := hk
      rw [nI_clamp (by omega), nI_clamp (by omega)]
      obtain ⟨ca, fa, ⟨a1, a2, a3, a4, a5⟩, a6, a7⟩ := h9 a ha
      have hSa := h10 a ha
      have hfa := hf2 a (by omega)
      have hoa := hSa.1
      obtain ⟨cb, fb, ⟨b1, b2, b3, b4, b5⟩, b6, b7⟩ := h9 b hb
      have hSb := h10 b hb
      have hfb := hf2 b (by omega)
      have hob := hSb.1
      have hab : od a * od b ≤ 24 * 24 := Nat.mul_le_mul hoa hob
      refine Ct.of (lv := [some (.ref 0), some (.int (nI a)), some (.int (nI b)), none, none, none, none, none]) 5 (by decide) rfl (Nat.le_of_ble_eq_true rfl) ?_
      have hgood : isL li (nI a) ∧ isL li (nI b) := ⟨⟨a, ha, rfl⟩, ⟨b, hb, rfl⟩⟩
      generalize hPo : MK CS FrC σ li gi row od cf ts (isL li (nI a) ∧ isL li (nI b)) (od a * od b) (fun n => ts a n * ts b n % 2147483647) = Po
      generalize hs : (fun n => ts a n * ts b n % 2147483647) = s at hPo
      have hsP : ∀ n, s n < 2147483647 := fun n => by rw [← hs]; exact Nat.mod_lt _ (by omega)
      refine z_ald0 (q := 1) d_rs_pairwise_0 rfl ?_
      refine z_ild1 (q := 2) d_rs_pairwise_1 rfl ?_
      refine z_cV1 (q := 5) d_rs_pairwise_2 rfl (ct_isListed_yes h0 (by omega) h11 ha) (by first | assumption | omega) (by first | assumption | omega) rfl ck_rs_isListed lk_rs_75 im_rs_isListed sl_rs_isListed ⟨by decide, by decide⟩ (Nat.le_of_ble_eq_true rfl) rfl rfl ?_
      refine zi_if_eq (q := 8) (tgt := 16) d_rs_pairwise_5 rfl (by decide) (by omega) (fun hb9 => absurd hb9 (by omega)) (fun _ => ?_)
      refine z_ald0 (q := 9) d_rs_pairwise_8 rfl ?_
      refine z_ild2 (q := 10) d_rs_pairwise_9 rfl ?_
      refine z_cV1 (q := 13) d_rs_pairwise_10 rfl (ct_isListed_yes h0 (by omega) h11 hb) (by first | assumption | omega) (by first | assumption | omega) rfl ck_rs_isListed lk_rs_75 im_rs_isListed sl_rs_isListed ⟨by decide, by decide⟩ (Nat.le_of_ble_eq_true rfl) rfl rfl ?_
      refine zi_if_ne (q := 16) (tgt := 18) d_rs_pairwise_13 rfl (by decide) (by omega) (fun _ => ?_) (fun hb9 => absurd hb9 (by omega))
      refine z_ald0 (q := 19) d_rs_pairwise_18 rfl ?_
      refine z_get 0 (q := 22) d_rs_pairwise_19 rfl fg_rs_11 (by first | assumption | omega) (by first | assumption | omega) (by rfl) ?_
      refine z_ild1 (q := 23) d_rs_pairwise_22 rfl ?_
      refine z_aaload (q := 24) d_rs_pairwise_23 rfl (by first | assumption | omega) (by first | assumption | omega) (by omega) (by omega) (by first | assumption | omega) ?_
      refine z_ast3 (q := 25) d_rs_pairwise_24 rfl rfl ?_
      refine z_ald0 (q := 26) d_rs_pairwise_25 rfl ?_
      refine z_get 0 (q := 29) d_rs_pairwise_26 rfl fg_rs_11 (by first | assumption | omega) (by first | assumption | omega) (by rfl) ?_
      refine z_ild2 (q := 30) d_rs_pairwise_29 rfl ?_
      refine z_aaload (q := 31) d_rs_pairwise_30 rfl (by first | assumption | omega) (by first | assumption | omega) (by omega) (by omega) (by first | assumption | omega) ?_
      refine z_ast4 (q := 33) d_rs_pairwise_31 rfl rfl ?_
      refine z_ald3 (q := 34) d_rs_pairwise_33 rfl ?_
      refine z_get 0 (q := 37) d_rs_pairwise_34 rfl fg_rs_78 (by first | assumption | omega) (by first | assumption | omega) (by rfl) ?_
      refine z_ald4 (q := 39) d_rs_pairwise_37 rfl ?_
      refine z_get 0 (q := 42) d_rs_pairwise_39 rfl fg_rs_78 (by first | assumption | omega) (by first | assumption | omega) (by rfl) ?_
      first | refine zn_imul (q := 43) d_rs_pairwise_42 rfl ?_ | refine z_imul (q := 43) d_rs_pairwise_42 rfl ?_
      refine z_ist5 (q := 45) d_rs_pairwise_43 rfl rfl ?_
      refine z_ald0 (q := 46) d_rs_pairwise_45 rfl ?_
      refine z_ild5 (q := 48) d_rs_pairwise_46 rfl ?_
      refine z_cV1 (q := 51) d_rs_pairwise_48 rfl (ct_numberFor h0 (by omega) h11 (by omega)) (by first | assumption | omega) (by first | assumption | omega) rfl ck_rs_numberFor lk_rs_60 im_rs_numberFor sl_rs_numberFor ⟨by decide, by decide⟩ (Nat.le_of_ble_eq_true rfl) rfl rfl ?_
      refine z_ist6 (q := 53) d_rs_pairwise_51 rfl rfl ?_
      refine z_ild6 (q := 55) d_rs_pairwise_53 rfl ?_
      by_cases hn : 20 ≤ li ∨ 24 < od a * od b
      · refine z_if_ge (q := 58) (tgt := 61) d_rs_pairwise_55 rfl (by decide) (fun hb => absurd hb (nf_neg hn)) (fun _ => ?_)
        refine z_ild6 (q := 60) d_rs_pairwise_58 rfl ?_
        exact z_iret d_rs_pairwise_60 rfl (Nat.le_refl _) (Nat.le_refl _) (by rw [← hPo]; exact Or.inr (Or.inl ⟨hgood, hn, rfl, rfl, fun _ _ => rfl, hcs⟩))
      rw [nf_pos (by omega) (by omega)]
      refine zi_if_ge (tgt := 61) d_rs_pairwise_55 (by decide) (by omega) ?_
      have hl20 : li < 20 := by omega
      have hB24 : od a * od b ≤ 24 := by omega
      refine z_iconst (v := nI 0) (q := 62) d_rs_pairwise_61 rfl (by decide) ?_
      refine z_ist7 (q := 64) d_rs_pairwise_62 rfl rfl ?_
      have loop : ∀ (e x : Nat) (t8 t9 t10 : Option Value), x + e = 2 * (od a * od b) → Z m_rs_pairwise Po 0 0 90 (va_up σ 3 (zN 48 (fl_ s g3 x))) 64 [some (.ref 0), some (.int (nI a)), some (.int (nI b)), some (.ref (18 + 3 * a)), some (.ref (18 + 3 * b)), some (.int (nI (od a * od b))), some (.int (nI li)), some (.int (nI x))] [] := by
        intro e
        induction e with
        | zero =>
          intro x t8 t9 t10 hx
          obtain rfl : x = 2 * (od a * od b) := by omega
          refine z_ild7 (q := 66) d_rs_pairwise_64 rfl ?_
          refine z_iconst (v := nI 2) (q := 67) d_rs_pairwise_66 rfl (by decide) ?_
          refine z_ild5 (q := 69) d_rs_pairwise_67 rfl ?_
          first | refine zn_imul (q := 70) d_rs_pairwise_69 rfl ?_ | refine z_imul (q := 70) d_rs_pairwise_69 rfl ?_
          refine zn_icmp_ge (q := 73) (tgt := 104) d_rs_pairwise_70 rfl (by decide) (by omega) (by omega) (fun hb => ?_) (fun hb => ?_)
          · have y0 : va_up σ 3 (zN 48 (fl_ s g3 (2 * (od a * od b)))) 0 = zO 0 [.ref 1, .ref 2, .ref 3, .ref 4, .ref 5, .ref 9, .ref 15, .int (nI li), .int (nI gi)] := by rw [zu_ne (by omega)]; exact h0
            refine z_ald0 (q := 105) d_rs_pairwise_104 rfl ?_
            refine z_ild5 (q := 107) d_rs_pairwise_105 rfl ?_
            have hcm := hcs.made (g := fl_ s g3 (2 * (od a * od b))) (fl_lt hsP h3P)
            refine z_gV1 (q := 110) d_rs_pairwise_107 rfl (ct_enlist hcm (by omega) hB24 zu_same (fl_lt hsP h3P) (fun j hj => fl_lo (by omega)) hsP (by rw [← hs]; have := bd_pairwise fp_inv (ob_of hSa) (ob_of hSb); simp only [ph_mod, ph_mul]; exact this)) (by first | assumption | omega) (by first | assumption | omega) rfl ck_rs_enlist lk_rs_72 im_rs_enlist sl_rs_enlist ⟨by decide, by decide⟩ (Nat.le_of_ble_eq_true rfl) rfl rfl (fun r m τ hp => ?_)
            have hen := EN_made (σ := σ) (fun j hj => zu_ne (by omega)) hp
            obtain ⟨rfl, -, rfl, -⟩ := hp
            exact z_iret d_rs_pairwise_110 rfl (Nat.le_refl _) (Nat.le_refl _) (by rw [← hPo]; exact Or.inr (Or.inr ⟨hgood, hl20, hB24, hen⟩))
          · exact absurd hb (by omega)
        | succ e ih =>
          intro x t8 t9 t10 hx
          have y0 : va_up σ 3 (zN 48 (fl_ s g3 x)) 0 = zO 0 [.ref 1, .ref 2, .ref 3, .ref 4, .ref 5, .ref 9, .ref 15, .int (nI li), .int (nI gi)] := by rw [zu_ne (by omega)]; exact h0
          have y3 : va_up σ 3 (zN 48 (fl_ s g3 x)) 3 = zN 48 (fl_ s g3 x) := zu_same
          have ya : va_up σ 3 (zN 48 (fl_ s g3 x)) (18 + 3 * a) = zO 1 [.int (nI (od a)), .ref (19 + 3 * a), .ref (20 + 3 * a)] := by rw [zu_ne (by omega)]; exact a1
          have yta : va_up σ 3 (zN 48 (fl_ s g3 x)) (20 + 3 * a) = zN 88 fa := by rw [zu_ne (by omega)]; exact a3
          have yb : va_up σ 3 (zN 48 (fl_ s g3 x)) (18 + 3 * b) = zO 1 [.int (nI (od b)), .ref (19 + 3 * b), .ref (20 + 3 * b)] := by rw [zu_ne (by omega)]; exact b1
          have ytb : va_up σ 3 (zN 48 (fl_ s g3 x)) (20 + 3 * b) = zN 88 fb := by rw [zu_ne (by omega)]; exact b3
          refine z_ild7 (q := 66) d_rs_pairwise_64 rfl ?_
          refine z_iconst (v := nI 2) (q := 67) d_rs_pairwise_66 rfl (by decide) ?_
          refine z_ild5 (q := 69) d_rs_pairwise_67 rfl ?_
          first | refine zn_imul (q := 70) d_rs_pairwise_69 rfl ?_ | refine z_imul (q := 70) d_rs_pairwise_69 rfl ?_
          refine zn_icmp_ge (q := 73) (tgt := 104) d_rs_pairwise_70 rfl (by decide) (by omega) (by omega) (fun hb => ?_) (fun hb => ?_)
          · exact absurd hb (by omega)
          · refine z_ald0 (q := 74) d_rs_pairwise_73 rfl ?_
            refine z_get 2 (q := 77) d_rs_pairwise_74 rfl fg_rs_19 (by first | assumption | omega) (by first | assumption | omega) (by rfl) ?_
            refine z_ild7 (q := 79) d_rs_pairwise_77 rfl ?_
            refine z_ald3 (q := 80) d_rs_pairwise_79 rfl ?_
            refine z_get 2 (q := 83) d_rs_pairwise_80 rfl fg_rs_81 (by first | assumption | omega) (by first | assumption | omega) (by rfl) ?_
            refine z_ild7 (q := 85) d_rs_pairwise_83 rfl ?_
            refine z_laload (q := 86) d_rs_pairwise_85 rfl (by first | assumption | omega) (by first | assumption | omega) (by omega) (by omega) ?_
            refine z_ald4 (q := 88) d_rs_pairwise_86 rfl ?_
            refine z_get 2 (q := 91) d_rs_pairwise_88 rfl fg_rs_81 (by first | assumption | omega) (by first | assumption | omega) (by rfl) ?_
            refine z_ild7 (q := 93) d_rs_pairwise_91 rfl ?_
            refine z_laload (q := 94) d_rs_pairwise_93 rfl (by first | assumption | omega) (by first | assumption | omega) (by omega) (by omega) ?_
            refine z_cS2 (q := 97) d_rs_pairwise_94 rfl (ct_times 90 _ (a5 x) (b5 x)) ck_nu_times lk_rs_84 st_nu_times ⟨by decide, by decide⟩ (Nat.le_of_ble_eq_true rfl) rfl rfl ?_
            refine z_lastore (q := 98) d_rs_pairwise_97 rfl (by first | assumption | omega) (by first | assumption | omega) (by omega) (by omega) ?_
            refine zn_iinc7 (d := 1) (q := 101) d_rs_pairwise_98 rfl rfl ?_
            refine z_goto (tgt := 64) d_rs_pairwise_101 (by decide) ?_
            refine Z.eqw ?_ (ih (x + 1) t8 t9 t10 (by omega))
            rw [zu_up, ← fl_s, ← hs, a7 x (by omega), b7 x (by omega)]
      exact (Z.eqw (by rw [fl_0]; exact zu_id h3) (loop (2 * (od a * od b)) 0 none none none (by omega)))
    · obtain ⟨a, ha, rfl⟩ := hj
      refine Ct.of (lv := [some (.ref 0), some (.int (nI a)), some (.int k), none, none, none, none, none]) 5 (by decide) rfl (Nat.le_of_ble_eq_true rfl) ?_
      refine z_ald0 (q := 1) d_rs_pairwise_0 rfl ?_
      refine z_ild1 (q := 2) d_rs_pairwise_1 rfl ?_
      refine z_cV1 (q := 5) d_rs_pairwise_2 rfl (ct_isListed_yes h0 (by omega) h11 ha) (by first | assumption | omega) (by first | assumption | omega) rfl ck_rs_isListed lk_rs_75 im_rs_isListed sl_rs_isListed ⟨by decide, by decide⟩ (Nat.le_of_ble_eq_true rfl) rfl rfl ?_
      refine zi_if_eq (q := 8) (tgt := 16) d_rs_pairwise_5 rfl (by decide) (by omega) (fun hb9 => absurd hb9 (by omega)) (fun _ => ?_)
      refine z_ald0 (q := 9) d_rs_pairwise_8 rfl ?_
      refine z_ild2 (q := 10) d_rs_pairwise_9 rfl ?_
      refine z_cV1 (q := 13) d_rs_pairwise_10 rfl (ct_isListed_no h0 (by omega) h11 hk) (by first | assumption | omega) (by first | assumption | omega) rfl ck_rs_isListed lk_rs_75 im_rs_isListed sl_rs_isListed ⟨by decide, by decide⟩ (Nat.le_of_ble_eq_true rfl) rfl rfl ?_
      refine zi_if_ne (q := 16) (tgt := 18) d_rs_pairwise_13 rfl (by decide) (by omega) (fun hb9 => absurd rfl hb9) (fun _ => ?_)
      refine z_iconst (v := (-1)) (q := 17) d_rs_pairwise_16 rfl (by decide) ?_
      exact z_iret d_rs_pairwise_17 rfl (Nat.le_refl _) (Nat.le_refl _) (Or.inl ⟨fun hh => hk hh.2, rfl, rfl, fun _ _ => rfl, hcs⟩)
  · refine Ct.of (lv := [some (.ref 0), some (.int j), some (.int k), none, none, none, none, none]) 5 (by decide) rfl (Nat.le_of_ble_eq_true rfl) ?_
    refine z_ald0 (q := 1) d_rs_pairwise_0 rfl ?_
    refine z_ild1 (q := 2) d_rs_pairwise_1 rfl ?_
    refine z_cV1 (q := 5) d_rs_pairwise_2 rfl (ct_isListed_no h0 (by omega) h11 hj) (by first | assumption | omega) (by first | assumption | omega) rfl ck_rs_isListed lk_rs_75 im_rs_isListed sl_rs_isListed ⟨by decide, by decide⟩ (Nat.le_of_ble_eq_true rfl) rfl rfl ?_
    refine zi_if_eq (q := 8) (tgt := 16) d_rs_pairwise_5 rfl (by decide) (by omega) (fun _ => ?_) (fun hb9 => absurd rfl hb9)
    refine z_iconst (v := (-1)) (q := 17) d_rs_pairwise_16 rfl (by decide) ?_
    exact z_iret d_rs_pairwise_17 rfl (Nat.le_refl _) (Nat.le_refl _) (Or.inl ⟨fun hh => hj hh.1, rfl, rfl, fun _ _ => rfl, hcs⟩)

