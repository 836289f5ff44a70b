/-! Divider.commonDegree; shared of the class -/
theorem pl_ne {r : Nat} {c : Nat → FP} : pl_ r c r ≠ 0 := by
  rw [pl_top]
  intro h
  have := (ph_eq (a := 1) (b := 0) (by omega) (by omega)).mp (ph_1.trans (h.trans ph_0.symm))
  omega
theorem ct_commonDegree {σ : zWd} {a b ra rb : Nat} {ca cb fa fb cfa cfb sa sb : Nat → Nat} (hDV : DV σ) (ha : a < 20) (hb' : b < 20) (hA : SC σ a (nI ra) ca fa) (hB : SC σ b (nI rb) cb fb) (hca : ∀ i, i < ra → ca i = cfa i) (hcb : ∀ i, i < rb → cb i = cfb i) (hSa : SR ra cfa sa) (hSb : SR rb cfb sb) :
    Ct m_dv_commonDegree [.ref 15, .ref (18 + 3 * a), .ref (18 + 3 * b)] 90 σ (fun r n' σ' => n' = 90 ∧ (∀ j, j ≠ 16 → j ≠ 17 → σ' j = σ j) ∧ DV σ' ∧ ∃ d, r = some (.int (nI d)) ∧ d ≤ ra ∧ shv (fun n => ph (sa n)) (fun n => ph (sb n)) (ra + rb - d)) := by
  obtain ⟨d1, g1, g2, d2, d3, d4, d5⟩ := hDV
  obtain ⟨a1, a2, a3, a4, a5⟩ := hA
  obtain ⟨b1, b2, b3, b4, b5⟩ := hB
  have hra := hSa.1
  have hrb := hSb.1
  refine Ct.of (lv := [some (.ref 15), some (.ref (18 + 3 * a)), some (.ref (18 + 3 * b)), none, none, none, none, none, none, none]) 7 (by decide) rfl (Nat.le_of_ble_eq_true rfl) ?_
  generalize hPo : (fun (r : Option Value) (n' : Nat) (σ' : zWd) => n' = 90 ∧ (∀ j, j ≠ 16 → j ≠ 17 → σ' j = σ j) ∧ DV σ' ∧ ∃ d, r = some (.int (nI d)) ∧ d ≤ ra ∧ shv (fun n => ph (sa n)) (fun n => ph (sb n)) (ra + rb - d)) = Po
  generalize hpa : pl_ ra (fun i => ph (cfa i)) = pa
  generalize hpb : pl_ rb (fun i => ph (cfb i)) = pb
  have loop : ∀ (s1 rnd : Nat) (W : zWd) (pl ps ld : Nat) (sv : Int32) (L S : Nat → Nat) (LK SK : Nat → FP) (t8 t9 : Option Value), rnd + s1 ≤ 25 → ((pl = 16 ∧ ps = 17) ∨ (pl = 17 ∧ ps = 16)) → (∀ j, j ≠ 16 → j ≠ 17 → W j = σ j) → W pl = zN 49 L → W ps = zN 49 S → (∀ i, L i < 2147483647) → (∀ i, S i < 2147483647) → ld ≤ 24 → (∀ i, i ≤ ld → ph (L i) = LK i) → sz_ LK (ld + 1) → LK ld ≠ 0 → (s1 = 0 → sv = -1 ∧ ∀ i, SK i = 0) → (s1 ≠ 0 → sv = nI (s1 - 1) ∧ (∀ i, i ≤ s1 - 1 → ph (S i) = SK i) ∧ sz_ SK s1 ∧ SK (s1 - 1) ≠ 0) → EU pa pb LK SK →
      Z m_dv_commonDegree Po 0 0 90 W 42 [some (.ref 15), some (.ref (18 + 3 * a)), some (.ref (18 + 3 * b)), some (.ref pl), some (.ref ps), some (.int (nI ld)), some (.int sv), some (.int (nI rnd)), t8, t9] [] := by
    intro s1
    induction s1 using Nat.strongRecOn with
    | _ s1 ih =>
      intro rnd W pl ps ld sv L S LK SK t8 t9 hr hpp hW wl ws hL hS hld kL zL nL h0 h1 hEU
      refine z_ild7 (q := 44) d_dv_commonDegree_42 rfl ?_
      refine z_bipush (v := nI 49) (q := 46) d_dv_commonDegree_44 rfl (by decide) ?_
      refine zn_icmp_gt (q := 49) (tgt := 90) d_dv_commonDegree_46 rfl (by decide) (by omega) (by omega) (fun hb => absurd hb (by omega)) (fun _ => ?_)
      refine z_ild6 (q := 51) d_dv_commonDegree_49 rfl ?_
      by_cases hz : s1 = 0
      · obtain ⟨rfl, hS0⟩ := h0 hz
        refine z_if_lt (q := 54) (tgt := 90) d_dv_commonDegree_51 rfl (by decide) (fun _ => ?_) (fun hb => absurd (show (-1 : Int32) < 0 by decide) hb)
        refine z_ild5 (q := 92) d_dv_commonDegree_90 rfl ?_
        refine z_iret d_dv_commonDegree_92 rfl (Nat.le_refl _) (Nat.le_refl _) ?_
        rw [← hPo]
        rw [← hpa, ← hpb] at hEU
        obtain ⟨q1, q2⟩ := EU.end hSa.2.2.2.2 hSb.2.2.2.2 hEU hS0 zL nL
        refine ⟨rfl, hW, ⟨by rw [hW 15 (by omega) (by omega)]; exact d1, ?_⟩, ld, rfl, q1, q2⟩
        rcases hpp with ⟨rfl, rfl⟩ | ⟨rfl, rfl⟩
        · exact ⟨L, S, wl, ws, hL, hS⟩
        · exact ⟨S, L, ws, wl, hS, hL⟩
      · obtain ⟨rfl, kS, zS, nS⟩ := h1 hz
        refine zi_if_lt (q := 54) (tgt := 90) d_dv_commonDegree_51 rfl (by decide) (by omega) ?_
        have hplj : ∀ j, j ≠ 16 → j ≠ 17 → j ≠ pl := fun j q1 q2 => by omega
        have hpsl : ps ≠ pl := by omega
        refine z_ald3 (q := 55) d_dv_commonDegree_54 rfl ?_
        refine z_ild5 (q := 57) d_dv_commonDegree_55 rfl ?_
        refine z_ald4 (q := 59) d_dv_commonDegree_57 rfl ?_
        refine z_ild6 (q := 61) d_dv_commonDegree_59 rfl ?_
        refine z_gS4 (q := 64) d_dv_commonDegree_61 rfl (ct_reduce wl ws (by omega) (by omega) (by omega) (by omega) (by omega) hL hS kL kS zL (by rw [show s1 - 1 + 1 = s1 by omega]; exact zS) nS) ck_dv_reduce lk_dv_28 st_dv_reduce ⟨by decide, by decide⟩ (Nat.le_of_ble_eq_true rfl) rfl rfl (fun r m τ hp => ?_)
        obtain ⟨rfl, L', LK', q, rfl, hL', kL', hq, hLK, hsz, hszl, hres⟩ := hp
        have hEU' := hEU.step hq hLK
        have hW' : ∀ j, j ≠ 16 → j ≠ 17 → va_up W pl (zN 49 L') j = σ j := fun j q1 q2 => by rw [zu_ne (hplj j q1 q2)]; exact hW j q1 q2
        have wl' : va_up W pl (zN 49 L') pl = zN 49 L' := zu_same
        have ws' : va_up W pl (zN 49 L') ps = zN 49 S := by rw [zu_ne hpsl]; exact ws
        rcases hres with ⟨t, ht, rfl, nt, zt⟩ | ⟨hz0, rfl⟩
        · have hlt : t < s1 - 1 := by
            by_cases hle : s1 - 1 ≤ ld
            · refine Nat.lt_of_not_le (fun h => nt ?_)
              exact hsz hle t h
            · omega
          refine z_ist8 (q := 66) d_dv_commonDegree_64 rfl rfl ?_
          refine z_ald3 (q := 67) d_dv_commonDegree_66 rfl ?_
          refine z_ast9 (q := 69) d_dv_commonDegree_67 rfl rfl ?_
          refine z_ald4 (q := 71) d_dv_commonDegree_69 rfl ?_
          refine z_ast3 (q := 72) d_dv_commonDegree_71 rfl rfl ?_
          refine z_ild6 (q := 74) d_dv_commonDegree_72 rfl ?_
          refine z_ist5 (q := 76) d_dv_commonDegree_74 rfl rfl ?_
          refine z_ald9 (q := 78) d_dv_commonDegree_76 rfl ?_
          refine z_ast4 (q := 80) d_dv_commonDegree_78 rfl rfl ?_
          refine z_ild8 (q := 82) d_dv_commonDegree_80 rfl ?_
          refine z_ist6 (q := 84) d_dv_commonDegree_82 rfl rfl ?_
          refine zn_iinc7 (d := 1) (q := 87) d_dv_commonDegree_84 rfl rfl ?_
          refine z_goto (tgt := 42) d_dv_commonDegree_87 (by decide) ?_
          exact ih (t + 1) (by omega) (rnd + 1) _ ps pl (s1 - 1) _ S L' SK LK' _ _ (by omega) (by omega) hW' ws' wl' hS hL' (by omega) kS (by rw [show s1 - 1 + 1 = s1 by omega]; exact zS) nS (fun h => by omega) (fun _ => ⟨by rw [show t + 1 - 1 = t by omega], fun i hi => kL' i (by omega), zt, by rw [show t + 1 - 1 = t by omega]; exact nt⟩) hEU'
        · refine z_ist8 (q := 66) d_dv_commonDegree_64 rfl rfl ?_
          refine z_ald3 (q := 67) d_dv_commonDegree_66 rfl ?_
          refine z_ast9 (q := 69) d_dv_commonDegree_67 rfl rfl ?_
          refine z_ald4 (q := 71) d_dv_commonDegree_69 rfl ?_
          refine z_ast3 (q := 72) d_dv_commonDegree_71 rfl rfl ?_
          refine z_ild6 (q := 74) d_dv_commonDegree_72 rfl ?_
          refine z_ist5 (q := 76) d_dv_commonDegree_74 rfl rfl ?_
          refine z_ald9 (q := 78) d_dv_commonDegree_76 rfl ?_
          refine z_ast4 (q := 80) d_dv_commonDegree_78 rfl rfl ?_
          refine z_ild8 (q := 82) d_dv_commonDegree_80 rfl ?_
          refine z_ist6 (q := 84) d_dv_commonDegree_82 rfl rfl ?_
          refine zn_iinc7 (d := 1) (q := 87) d_dv_commonDegree_84 rfl rfl ?_
          refine z_goto (tgt := 42) d_dv_commonDegree_87 (by decide) ?_
          exact ih 0 (by omega) (rnd + 1) _ ps pl (s1 - 1) _ S L' SK LK' _ _ (by omega) (by omega) hW' ws' wl' hS hL' (by omega) kS (by rw [show s1 - 1 + 1 = s1 by omega]; exact zS) nS (fun _ => ⟨rfl, hz0⟩) (fun h => absurd rfl h) hEU'
  refine z_ald0 (q := 1) d_dv_commonDegree_0 rfl ?_
  refine z_get 0 (q := 4) d_dv_commonDegree_1 rfl fg_dv_9 (by first | assumption | omega) (by first | assumption | omega) (by rfl) ?_
  refine z_ald1 (q := 5) d_dv_commonDegree_4 rfl ?_
  refine z_cS2v (q := 8) d_dv_commonDegree_5 rfl (ct_dvload d2 a1 a2 (by omega) (by omega) (by omega) (by omega) (by omega) (by omega) a4) ck_dv_load lk_dv_18 st_dv_load ⟨by decide, by decide⟩ (Nat.le_of_ble_eq_true rfl) rfl rfl ?_
  have y15 : va_up σ 16 (zN 49 (dl_ ca ra g1 ra)) 15 = zO 4 [.ref 16, .ref 17] := by rw [zu_ne (by omega)]; exact d1
  have y17 : va_up σ 16 (zN 49 (dl_ ca ra g1 ra)) 17 = zN 49 g2 := by rw [zu_ne (by omega)]; exact d3
  have yb1 : va_up σ 16 (zN 49 (dl_ ca ra g1 ra)) (18 + 3 * b) = zO 1 [.int (nI rb), .ref (19 + 3 * b), .ref (20 + 3 * b)] := by rw [zu_ne (by omega)]; exact b1
  have yb2 : va_up σ 16 (zN 49 (dl_ ca ra g1 ra)) (19 + 3 * b) = zN 48 cb := by rw [zu_ne (by omega)]; exact b2
  refine z_ald0 (q := 9) d_dv_commonDegree_8 rfl ?_
  refine z_get 1 (q := 12) d_dv_commonDegree_9 rfl fg_dv_15 (by first | assumption | omega) (by first | assumption | omega) (by rfl) ?_
  refine z_ald2 (q := 13) d_dv_commonDegree_12 rfl ?_
  refine z_cS2v (q := 16) d_dv_commonDegree_13 rfl (ct_dvload y17 yb1 yb2 (by omega) (by omega) (by omega) (by omega) (by omega) (by omega) b4) ck_dv_load lk_dv_18 st_dv_load ⟨by decide, by decide⟩ (Nat.le_of_ble_eq_true rfl) rfl rfl ?_
  generalize hW : va_up (va_up σ 16 (zN 49 (dl_ ca ra g1 ra))) 17 (zN 49 (dl_ cb rb g2 rb)) = W
  have z15 : W 15 = zO 4 [.ref 16, .ref 17] := by rw [← hW, zu_ne (by omega)]; exact y15
  have z16 : W 16 = zN 49 (dl_ ca ra g1 ra) := by rw [← hW, zu_ne (by omega), zu_same]
  have z17 : W 17 = zN 49 (dl_ cb rb g2 rb) := by rw [← hW, zu_same]
  have za : W (18 + 3 * a) = zO 1 [.int (nI ra), .ref (19 + 3 * a), .ref (20 + 3 * a)] := by rw [← hW, zu_ne (by omega), zu_ne (by omega)]; exact a1
  have zb : W (18 + 3 * b) = zO 1 [.int (nI rb), .ref (19 + 3 * b), .ref (20 + 3 * b)] := by rw [← hW, zu_ne (by omega)]; exact yb1
  refine z_ald0 (q := 17) d_dv_commonDegree_16 rfl ?_
  refine z_get 0 (q := 20) d_dv_commonDegree_17 rfl fg_dv_9 (by first | assumption | omega) (by first | assumption | omega) (by rfl) ?_
  refine z_ast3 (q := 21) d_dv_commonDegree_20 rfl rfl ?_
  refine z_ald0 (q := 22) d_dv_commonDegree_21 rfl ?_
  refine z_get 1 (q := 25) d_dv_commonDegree_22 rfl fg_dv_15 (by first | assumption | omega) (by first | assumption | omega) (by rfl) ?_
  refine z_ast4 (q := 27) d_dv_commonDegree_25 rfl rfl ?_
  refine z_ald1 (q := 28) d_dv_commonDegree_27 rfl ?_
  refine z_get 0 (q := 31) d_dv_commonDegree_28 rfl fg_dv_22 (by first | assumption | omega) (by first | assumption | omega) (by rfl) ?_
  refine z_ist5 (q := 33) d_dv_commonDegree_31 rfl rfl ?_
  refine z_ald2 (q := 34) d_dv_commonDegree_33 rfl ?_
  refine z_get 0 (q := 37) d_dv_commonDegree_34 rfl fg_dv_22 (by first | assumption | omega) (by first | assumption | omega) (by rfl) ?_
  refine z_ist6 (q := 39) d_dv_commonDegree_37 rfl rfl ?_
  refine z_iconst (v := nI 0) (q := 40) d_dv_commonDegree_39 rfl (by decide) ?_
  refine z_ist7 (q := 42) d_dv_commonDegree_40 rfl rfl ?_
  refine loop (rb + 1) 0 W 16 17 ra (nI rb) _ _ pa pb none none (by omega) (Or.inl ⟨rfl, rfl⟩) (fun j q1 q2 => by rw [← hW, zu_ne q2, zu_ne q1]) z16 z17 (dl_lt d4) (dl_lt d5) hra ?_ ?_ ?_ (fun h => by omega) (fun _ => ⟨by rw [show rb + 1 - 1 = rb by omega], ?_, ?_, ?_⟩) (EU.start pa pb)
  · rw [← hpa]; exact dl_ph a4 hca
  · rw [← hpa]; exact pl_sz _ _
  · rw [← hpa]; exact pl_ne
  · rw [← hpb, show rb + 1 - 1 = rb by omega]; exact dl_ph b4 hcb
  · rw [← hpb]; exact pl_sz _ _
  · rw [← hpb, show rb + 1 - 1 = rb by omega]; exact pl_ne
def qSh (li : Nat) (ts : Nat → Nat → Nat) (j k v : Int32) : Prop := (¬ (isL li j ∧ isL li k) ∧ v = -1) ∨ ((isL li j ∧ isL li k) ∧ ∃ r, r ≤ 48 ∧ v = nI r ∧ shv (fun n => ph (ts j.toNatClampNeg n)) (fun n => ph (ts k.toNatClampNeg n)) r)
theorem CS.divide {li gi : Nat} {row od : Nat → Nat} {cf ts : Nat → Nat → Nat} {σ σ' : zWd} (h : CS li gi row od cf ts σ) (e : ∀ j, j ≠ 16 → j ≠ 17 → σ' j = σ j) (hs : DV σ') : CS li gi row od cf ts σ' := by
  obtain ⟨h0, h1, ⟨h2, h2'⟩, h3, h4, h5, h6, h7, h8, h9, h10, h11, h12⟩ := h
  refine ⟨by rw [e 0 (by omega) (by omega)]; exact h0, h1.congr (e 1 (by omega) (by omega)), ⟨by rw [e 2 (by omega) (by omega)]; exact h2, h2'⟩, h3.congr (e 3 (by omega) (by omega)), h4.congr (e 4 (by omega) (by omega)), h5.congr (fun j _ _ => e j (by omega) (by omega)), h6.congr (fun j _ _ => e j (by omega) (by omega)), hs, fun k hk => ?_, fun k hk => (h9 k hk).congr (fun j _ _ => e j (by omega) (by omega)), h10, h11, h12⟩
  obtain ⟨o, c, f, hs⟩ := h8 k hk
  exact ⟨o, c, f, hs.congr (fun j _ _ => e j (by omega) (by omega))⟩
theorem cc_shared {σ : zWd} {li gi : Nat} {row od : Nat → Nat} {cf ts : Nat → Nat → Nat} (h : CS li gi row od cf ts σ) (j k : Int32) : Ct m_rs_shared [.ref 0, .int j, .int k] 90 σ (AS CS FrC σ li gi row od cf ts (qSh li ts j k)) := by
  have hcs := h
  obtain ⟨h0, ⟨f, hf1, hf2⟩, ⟨h2, h2'⟩, ⟨g3, h3, h3P⟩, ⟨g4, h4, h4P⟩, hFI, hSK, hDV, h8, h9, h10, h11, h12⟩ := h
  have h0' : σ 0 = zO 0 [.ref 1, .ref 2, .ref 3, .ref 4, .ref 5, .ref 9, .ref 15, .int (nI li), .int (nI gi)] := h0
  by_cases hj : isL li j
  · by_cases hk : isL li k
    · have hgood : isL li j ∧ isL li k := ⟨hj, hk⟩
      obtain ⟨a, ha, rfl⟩ := hj
      obtain ⟨b, hb, rfl⟩ := hk
      have ea : (nI a).toNatClampNeg = a := nI_clamp (by omega)
      have eb : (nI b).toNatClampNeg = b := nI_clamp (by omega)
      obtain ⟨ca, fa, hA, a6, a7⟩ := h9 a ha
      obtain ⟨cb, fb, hB, b6, b7⟩ := h9 b hb
      have hSa := h10 a ha
      have hSb := h10 b hb
      have hoa := hSa.1
      have hob := hSb.1
      have hfa := hf2 a (by omega)
      have hfb := hf2 b (by omega)
      have ya := hA.1
      have yb := hB.1
      have hd15 := hDV.1
      refine Ct.of (lv := [some (.ref 0), some (.int (nI a)), some (.int (nI b)), none, none]) 2 (by decide) rfl (Nat.le_of_ble_eq_true rfl) ?_
      refine z_ald0 (q := 1) d_rs_shared_0 rfl ?_
      refine z_ild1 (q := 2) d_rs_shared_1 rfl ?_
      refine z_cV1 (q := 5) d_rs_shared_2 rfl (ct_isListed_yes h0 (by omega) h11 ha) (by first | assumption | omega) (by first | assumption | omega) rfl ck_rs_isListed lk_rs_75 im_rs_isListed sl_rs_isListed ⟨by decide, by decide⟩ (Nat.le_of_ble_eq_true rfl) rfl rfl ?_
      refine zi_if_eq (q := 8) (tgt := 16) d_rs_shared_5 rfl (by decide) (by omega) (fun hb9 => absurd hb9 (by omega)) (fun _ => ?_)
      refine z_ald0 (q := 9) d_rs_shared_8 rfl ?_
      refine z_ild2 (q := 10) d_rs_shared_9 rfl ?_
      refine z_cV1 (q := 13) d_rs_shared_10 rfl (ct_isListed_yes h0 (by omega) h11 hb) (by first | assumption | omega) (by first | assumption | omega) rfl ck_rs_isListed lk_rs_75 im_rs_isListed sl_rs_isListed ⟨by decide, by decide⟩ (Nat.le_of_ble_eq_true rfl) rfl rfl ?_
      refine zi_if_ne (q := 16) (tgt := 18) d_rs_shared_13 rfl (by decide) (by omega) (fun _ => ?_) (fun hb9 => absurd hb9 (by omega))
      refine z_ald0 (q := 19) d_rs_shared_18 rfl ?_
      refine z_get 0 (q := 22) d_rs_shared_19 rfl fg_rs_11 (by first | assumption | omega) (by first | assumption | omega) (by rfl) ?_
      refine z_ild1 (q := 23) d_rs_shared_22 rfl ?_
      refine z_aaload (q := 24) d_rs_shared_23 rfl (by first | assumption | omega) (by first | assumption | omega) (by omega) (by omega) (by first | assumption | omega) ?_
      refine z_ast3 (q := 25) d_rs_shared_24 rfl rfl ?_
      refine z_ald0 (q := 26) d_rs_shared_25 rfl ?_
      refine z_get 0 (q := 29) d_rs_shared_26 rfl fg_rs_11 (by first | assumption | omega) (by first | assumption | omega) (by rfl) ?_
      refine z_ild2 (q := 30) d_rs_shared_29 rfl ?_
      refine z_aaload (q := 31) d_rs_shared_30 rfl (by first | assumption | omega) (by first | assumption | omega) (by omega) (by omega) (by first | assumption | omega) ?_
      refine z_ast4 (q := 33) d_rs_shared_31 rfl rfl ?_
      refine z_ald3 (q := 34) d_rs_shared_33 rfl ?_
      refine z_get 0 (q := 37) d_rs_shared_34 rfl fg_rs_78 (by first | assumption | omega) (by first | assumption | omega) (by rfl) ?_
      refine z_ald4 (q := 39) d_rs_shared_37 rfl ?_
      refine z_get 0 (q := 42) d_rs_shared_39 rfl fg_rs_78 (by first | assumption | omega) (by first | assumption | omega) (by rfl) ?_
      first | refine zn_iadd (q := 43) d_rs_shared_42 rfl ?_ | refine z_iadd (q := 43) d_rs_shared_42 rfl ?_
      refine z_ald0 (q := 44) d_rs_shared_43 rfl ?_
      refine z_get 6 (q := 47) d_rs_shared_44 rfl fg_rs_42 (by first | assumption | omega) (by first | assumption | omega) (by rfl) ?_
      refine z_ald3 (q := 48) d_rs_shared_47 rfl ?_
      refine z_ald4 (q := 50) d_rs_shared_48 rfl ?_
      refine z_gV2 (q := 53) d_rs_shared_50 rfl (ct_commonDegree hDV (by omega) (by omega) hA hB a6 b6 hSa hSb) (by first | assumption | omega) (by first | assumption | omega) rfl ck_dv_commonDegree lk_rs_106 im_dv_commonDegree sl_dv_commonDegree ⟨by decide, by decide⟩ (Nat.le_of_ble_eq_true rfl) rfl rfl (fun r m τ hp => ?_)
      obtain ⟨rfl, hfr, hDVn, d, rfl, hd, hsh⟩ := hp
      first | refine zn_isub (q := 54) d_rs_shared_53 rfl (by omega) ?_ | refine z_isub (q := 54) d_rs_shared_53 rfl ?_
      exact z_iret d_rs_shared_54 rfl (Nat.le_refl _) (Nat.le_refl _) ⟨rfl, fun j hj => hfr j (by omega) (by omega), ⟨_, rfl, Or.inr ⟨hgood, od a + od b - d, by omega, rfl, by rw [ea, eb]; exact hsh⟩⟩, hcs.divide hfr hDVn⟩
    · obtain ⟨a, ha, rfl⟩ := hj
      refine Ct.of (lv := [some (.ref 0), some (.int (nI a)), some (.int k), none, none]) 2 (by decide) rfl (Nat.le_of_ble_eq_true rfl) ?_
      refine z_ald0 (q := 1) d_rs_shared_0 rfl ?_
      refine z_ild1 (q := 2) d_rs_shared_1 rfl ?_
      refine z_cV1 (q := 5) d_rs_shared_2 rfl (ct_isListed_yes h0 (by omega) h11 ha) (by first | assumption | omega) (by first | assumption | omega) rfl ck_rs_isListed lk_rs_75 im_rs_isListed sl_rs_isListed ⟨by decide, by decide⟩ (Nat.le_of_ble_eq_true rfl) rfl rfl ?_
      refine zi_if_eq (q := 8) (tgt := 16) d_rs_shared_5 rfl (by decide) (by omega) (fun hb9 => absurd hb9 (by omega)) (fun _ => ?_)
      refine z_ald0 (q := 9) d_rs_shared_8 rfl ?_
      refine z_ild2 (q := 10) d_rs_shared_9 rfl ?_
      refine z_cV1 (q := 13) d_rs_shared_10 rfl (ct_isListed_no h0 (by omega) h11 hk) (by first | assumption | omega) (by first | assumption | omega) rfl ck_rs_isListed lk_rs_75 im_rs_isListed sl_rs_isListed ⟨by decide, by decide⟩ (Nat.le_of_ble_eq_true rfl) rfl rfl ?_
      refine zi_if_ne (q := 16) (tgt := 18) d_rs_shared_13 rfl (by decide) (by omega) (fun hb9 => absurd rfl hb9) (fun _ => ?_)
      refine z_iconst (v := (-1)) (q := 17) d_rs_shared_16 rfl (by decide) ?_
      exact z_iret d_rs_shared_17 rfl (Nat.le_refl _) (Nat.le_refl _) ⟨rfl, fun _ _ => rfl, ⟨_, rfl, Or.inl ⟨fun hh => hk hh.2, rfl⟩⟩, hcs⟩
  · refine Ct.of (lv := [some (.ref 0), some (.int j), some (.int k), none, none]) 2 (by decide) rfl (Nat.le_of_ble_eq_true rfl) ?_
    refine z_ald0 (q := 1) d_rs_shared_0 rfl ?_
    refine z_ild1 (q := 2) d_rs_shared_1 rfl ?_
    refine z_cV1 (q := 5) d_rs_shared_2 rfl (ct_isListed_no h0 (by omega) h11 hj) (by first | assumption | omega) (by first | assumption | omega) rfl ck_rs_isListed lk_rs_75 im_rs_isListed sl_rs_isListed ⟨by decide, by decide⟩ (Nat.le_of_ble_eq_true rfl) rfl rfl ?_
    refine zi_if_eq (q := 8) (tgt := 16) d_rs_shared_5 rfl (by decide) (by omega) (fun _ => ?_) (fun hb9 => absurd rfl hb9)
    refine z_iconst (v := (-1)) (q := 17) d_rs_shared_16 rfl (by decide) ?_
    exact z_iret d_rs_shared_17 rfl (Nat.le_refl _) (Nat.le_refl _) ⟨rfl, fun _ _ => rfl, ⟨_, rfl, Or.inl ⟨fun hh => hj hh.1, rfl⟩⟩, hcs⟩

