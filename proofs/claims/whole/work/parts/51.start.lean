/-! The class's constructor, and the first states -/
theorem ci_rs {σ : zWd} (h : σ 0 = zO 0 [.null, .null, .null, .null, .null, .null, .null, .int 0, .int 0]) (od : Nat → Nat) (cf ts : Nat → Nat → Nat) : Ct m_rs_init [.ref 0] 1 σ (fun (r : Option Value) (n' : Nat) (σ' : zWd) => n' = 78 ∧ r = none ∧ CS 0 0 z0_ od cf ts σ' ∧ ∀ j, 78 ≤ j → σ' j = σ j) := by
  refine Ct.of (lv := [some (.ref 0), none]) 1 (by decide) rfl (Nat.le_of_ble_eq_true rfl) ?_
  generalize hPo : (fun (r : Option Value) (n' : Nat) (σ' : zWd) => n' = 78 ∧ r = none ∧ CS 0 0 z0_ od cf ts σ' ∧ ∀ j, 78 ≤ j → σ' j = σ j) = Po
  refine z_ald0 (q := 1) d_rs_init_0 rfl ?_
  refine z_objInit (q := 4) d_rs_init_1 rfl lk_rs_3 tb_obj1 tb_obj2 (Nat.le_of_ble_eq_true rfl) (Nat.le_of_ble_eq_true rfl) (by decide) ?_
  refine z_ald0 (q := 5) d_rs_init_4 rfl ?_
  refine z_bipush (v := nI 20) (q := 7) d_rs_init_5 rfl (by decide) ?_
  refine z_newr (q := 10) d_rs_init_7 rfl cn_rs_9 nb_over (by decide) (by decide) (by decide) ?_
  have y0 : va_up σ 1 (zR 20 (fun _ => none)) 0 = zO 0 [.null, .null, .null, .null, .null, .null, .null, .int 0, .int 0] := by rw [zu_ne (by omega)]; exact h
  refine z_putF 0 (q := 13) d_rs_init_10 rfl fg_rs_11 ft_rs fk_rs_11 rfl fl_rs_11 (by first | assumption | omega) (by first | assumption | omega) (fun _ => rfl) (fun _ => rfl) (by simp) ?_
  refine Z.eqa (kc' := 1) (ks' := 20) (n' := 2) (σ' := va_up (va_up σ 1 (zR 20 (fun _ => none))) 0 (zO 0 [.ref 1, .null, .null, .null, .null, .null, .null, .int 0, .int 0])) rfl rfl rfl rfl ?_
  generalize hV0 : va_up (va_up σ 1 (zR 20 (fun _ => none))) 0 (zO 0 [.ref 1, .null, .null, .null, .null, .null, .null, .int 0, .int 0]) = V0
  have f0o : V0 0 = zO 0 [.ref 1, .null, .null, .null, .null, .null, .null, .int 0, .int 0] := by rw [← hV0]; exact zu_same
  have f0_1 : V0 1 = zR 20 (fun _ => none) := by rw [← hV0, zu_ne (by omega), zu_same]
  have e0 : ∀ j, 78 ≤ j → V0 j = σ j := fun j q => by rw [← hV0, zu_ne (by omega), zu_ne (by omega)]
  clear hV0 y0
  refine z_ald0 (q := 14) d_rs_init_13 rfl ?_
  refine z_bipush (v := nI 40) (q := 16) d_rs_init_14 rfl (by decide) ?_
  refine z_newl (q := 18) d_rs_init_16 rfl rfl tb_arrL (by decide) (by decide) (by decide) ?_
  have y1 : va_up V0 2 (zN 40 (fun _ => 0)) 0 = zO 0 [.ref 1, .null, .null, .null, .null, .null, .null, .int 0, .int 0] := by rw [zu_ne (by omega)]; exact f0o
  refine z_putF 1 (q := 21) d_rs_init_18 rfl fg_rs_15 ft_rs fk_rs_15 rfl fl_rs_15 (by first | assumption | omega) (by first | assumption | omega) (fun _ => rfl) (fun _ => rfl) (by simp) ?_
  refine Z.eqa (kc' := 2) (ks' := 60) (n' := 3) (σ' := va_up (va_up V0 2 (zN 40 z0_)) 0 (zO 0 [.ref 1, .ref 2, .null, .null, .null, .null, .null, .int 0, .int 0])) rfl rfl rfl rfl ?_
  generalize hV1 : va_up (va_up V0 2 (zN 40 z0_)) 0 (zO 0 [.ref 1, .ref 2, .null, .null, .null, .null, .null, .int 0, .int 0]) = V1
  have f1o : V1 0 = zO 0 [.ref 1, .ref 2, .null, .null, .null, .null, .null, .int 0, .int 0] := by rw [← hV1]; exact zu_same
  have f1_2 : V1 2 = zN 40 z0_ := by rw [← hV1, zu_ne (by omega), zu_same]
  have f1_1 : V1 1 = zR 20 (fun _ => none) := by rw [← hV1, zu_ne (by omega), zu_ne (by omega)]; exact f0_1
  have e1 : ∀ j, 78 ≤ j → V1 j = σ j := fun j q => by rw [← hV1, zu_ne (by omega), zu_ne (by omega)]; exact e0 j q
  clear hV1 y1
  refine z_ald0 (q := 22) d_rs_init_21 rfl ?_
  refine z_bipush (v := nI 48) (q := 24) d_rs_init_22 rfl (by decide) ?_
  refine z_newl (q := 26) d_rs_init_24 rfl rfl tb_arrL (by decide) (by decide) (by decide) ?_
  have y2 : va_up V1 3 (zN 48 (fun _ => 0)) 0 = zO 0 [.ref 1, .ref 2, .null, .null, .null, .null, .null, .int 0, .int 0] := by rw [zu_ne (by omega)]; exact f1o
  refine z_putF 2 (q := 29) d_rs_init_26 rfl fg_rs_19 ft_rs fk_rs_19 rfl fl_rs_19 (by first | assumption | omega) (by first | assumption | omega) (fun _ => rfl) (fun _ => rfl) (by simp) ?_
  refine Z.eqa (kc' := 3) (ks' := 108) (n' := 4) (σ' := va_up (va_up V1 3 (zN 48 z0_)) 0 (zO 0 [.ref 1, .ref 2, .ref 3, .null, .null, .null, .null, .int 0, .int 0])) rfl rfl rfl rfl ?_
  generalize hV2 : va_up (va_up V1 3 (zN 48 z0_)) 0 (zO 0 [.ref 1, .ref 2, .ref 3, .null, .null, .null, .null, .int 0, .int 0]) = V2
  have f2o : V2 0 = zO 0 [.ref 1, .ref 2, .ref 3, .null, .null, .null, .null, .int 0, .int 0] := by rw [← hV2]; exact zu_same
  have f2_3 : V2 3 = zN 48 z0_ := by rw [← hV2, zu_ne (by omega), zu_same]
  have f2_1 : V2 1 = zR 20 (fun _ => none) := by rw [← hV2, zu_ne (by omega), zu_ne (by omega)]; exact f1_1
  have f2_2 : V2 2 = zN 40 z0_ := by rw [← hV2, zu_ne (by omega), zu_ne (by omega)]; exact f1_2
  have e2 : ∀ j, 78 ≤ j → V2 j = σ j := fun j q => by rw [← hV2, zu_ne (by omega), zu_ne (by omega)]; exact e1 j q
  clear hV2 y2
  refine z_ald0 (q := 30) d_rs_init_29 rfl ?_
  refine z_sipush (v := nI 2129) (q := 33) d_rs_init_30 rfl (by decide) ?_
  refine z_newl (q := 35) d_rs_init_33 rfl rfl tb_arrL (by decide) (by decide) (by decide) ?_
  have y3 : va_up V2 4 (zN 2129 (fun _ => 0)) 0 = zO 0 [.ref 1, .ref 2, .ref 3, .null, .null, .null, .null, .int 0, .int 0] := by rw [zu_ne (by omega)]; exact f2o
  refine z_putF 3 (q := 38) d_rs_init_35 rfl fg_rs_22 ft_rs fk_rs_22 rfl fl_rs_22 (by first | assumption | omega) (by first | assumption | omega) (fun _ => rfl) (fun _ => rfl) (by simp) ?_
  refine Z.eqa (kc' := 4) (ks' := 2237) (n' := 5) (σ' := va_up (va_up V2 4 (zN 2129 z0_)) 0 (zO 0 [.ref 1, .ref 2, .ref 3, .ref 4, .null, .null, .null, .int 0, .int 0])) rfl rfl rfl rfl ?_
  generalize hV3 : va_up (va_up V2 4 (zN 2129 z0_)) 0 (zO 0 [.ref 1, .ref 2, .ref 3, .ref 4, .null, .null, .null, .int 0, .int 0]) = V3
  have f3o : V3 0 = zO 0 [.ref 1, .ref 2, .ref 3, .ref 4, .null, .null, .null, .int 0, .int 0] := by rw [← hV3]; exact zu_same
  have f3_4 : V3 4 = zN 2129 z0_ := by rw [← hV3, zu_ne (by omega), zu_same]
  have f3_1 : V3 1 = zR 20 (fun _ => none) := by rw [← hV3, zu_ne (by omega), zu_ne (by omega)]; exact f2_1
  have f3_2 : V3 2 = zN 40 z0_ := by rw [← hV3, zu_ne (by omega), zu_ne (by omega)]; exact f2_2
  have f3_3 : V3 3 = zN 48 z0_ := by rw [← hV3, zu_ne (by omega), zu_ne (by omega)]; exact f2_3
  have e3 : ∀ j, 78 ≤ j → V3 j = σ j := fun j q => by rw [← hV3, zu_ne (by omega), zu_ne (by omega)]; exact e2 j q
  clear hV3 y3
  refine z_ald0 (q := 39) d_rs_init_38 rfl ?_
  refine z_new (q := 42) d_rs_init_39 rfl (nw_fi cn_rs_25) (by decide) (by decide) ?_
  refine z_dup_r (q := 43) d_rs_init_42 rfl ?_
  refine z_callI (As := []) (i := 5) (rest := [.ref 5, .ref 0]) (q := 46) d_rs_init_43 rfl (ci_fi (p := 5) zu_same) rfl rfl ck_fi_init lk_rs_27 im_fi_init ⟨by decide, by decide⟩ (Nat.le_of_ble_eq_true rfl) (Nat.le_of_ble_eq_true rfl) (Nat.le_of_ble_eq_true rfl) (fun r m τ hp => ?_)
  obtain ⟨rfl, rfl, hp0, hp1, hp2, hp3, hpe⟩ := hp
  refine Z.eqa (kc' := 8) (ks' := 2384) (n' := 9) rfl rfl rfl rfl ?_
  have hpe' : ∀ j, j < 5 ∨ 9 ≤ j → τ j = V3 j := fun j q => by rw [hpe j (by omega) (by omega) (by omega) (by omega), zu_ne (by omega)]
  have y4 : τ 0 = zO 0 [.ref 1, .ref 2, .ref 3, .ref 4, .null, .null, .null, .int 0, .int 0] := by rw [hpe' 0 (by omega)]; exact f3o
  refine z_putF 4 (q := 49) d_rs_init_46 rfl fg_rs_28 ft_rs fk_rs_28 rfl fl_rs_28 (by first | assumption | omega) (by first | assumption | omega) (fun _ => rfl) (fun _ => rfl) (by simp) ?_
  refine Z.eqw (σ' := va_up τ 0 (zO 0 [.ref 1, .ref 2, .ref 3, .ref 4, .ref 5, .null, .null, .int 0, .int 0])) rfl ?_
  generalize hV4 : va_up τ 0 (zO 0 [.ref 1, .ref 2, .ref 3, .ref 4, .ref 5, .null, .null, .int 0, .int 0]) = V4
  have f4o : V4 0 = zO 0 [.ref 1, .ref 2, .ref 3, .ref 4, .ref 5, .null, .null, .int 0, .int 0] := by rw [← hV4]; exact zu_same
  have f4_5 : V4 5 = zO 2 [.ref 6, .ref 7, .ref 8] := by rw [← hV4, zu_ne (by omega)]; exact hp0
  have f4_6 : V4 6 = zN 48 z0_ := by rw [← hV4, zu_ne (by omega)]; exact hp1
  have f4_7 : V4 7 = zN 48 z0_ := by rw [← hV4, zu_ne (by omega)]; exact hp2
  have f4_8 : V4 8 = zN 48 z0_ := by rw [← hV4, zu_ne (by omega)]; exact hp3
  have f4_1 : V4 1 = zR 20 (fun _ => none) := by rw [← hV4, zu_ne (by omega), hpe' _ (by omega)]; exact f3_1
  have f4_2 : V4 2 = zN 40 z0_ := by rw [← hV4, zu_ne (by omega), hpe' _ (by omega)]; exact f3_2
  have f4_3 : V4 3 = zN 48 z0_ := by rw [← hV4, zu_ne (by omega), hpe' _ (by omega)]; exact f3_3
  have f4_4 : V4 4 = zN 2129 z0_ := by rw [← hV4, zu_ne (by omega), hpe' _ (by omega)]; exact f3_4
  have e4 : ∀ j, 78 ≤ j → V4 j = σ j := fun j q => by rw [← hV4, zu_ne (by omega), hpe' _ (by omega)]; exact e3 j q
  clear hV4 y4 hpe hpe' hp0 hp1 hp2 hp3
  refine z_ald0 (q := 50) d_rs_init_49 rfl ?_
  refine z_new (q := 53) d_rs_init_50 rfl (nw_sk cn_rs_32) (by decide) (by decide) ?_
  refine z_dup_r (q := 54) d_rs_init_53 rfl ?_
  refine z_callI (As := []) (i := 9) (rest := [.ref 9, .ref 0]) (q := 57) d_rs_init_54 rfl (ci_sk (p := 9) zu_same) rfl rfl ck_sk_init lk_rs_34 im_sk_init ⟨by decide, by decide⟩ (Nat.le_of_ble_eq_true rfl) (Nat.le_of_ble_eq_true rfl) (Nat.le_of_ble_eq_true rfl) (fun r m τ hp => ?_)
  obtain ⟨rfl, rfl, hp0, hp1, hp2, hp3, hp4, hp5, hpe⟩ := hp
  refine Z.eqa (kc' := 14) (ks' := 2634) (n' := 15) rfl rfl rfl rfl ?_
  have hpe' : ∀ j, j < 9 ∨ 15 ≤ j → τ j = V4 j := fun j q => by rw [hpe j (by omega) (by omega) (by omega) (by omega) (by omega) (by omega), zu_ne (by omega)]
  have y5 : τ 0 = zO 0 [.ref 1, .ref 2, .ref 3, .ref 4, .ref 5, .null, .null, .int 0, .int 0] := by rw [hpe' 0 (by omega)]; exact f4o
  refine z_putF 5 (q := 60) d_rs_init_57 rfl fg_rs_35 ft_rs fk_rs_35 rfl fl_rs_35 (by first | assumption | omega) (by first | assumption | omega) (fun _ => rfl) (fun _ => rfl) (by simp) ?_
  refine Z.eqw (σ' := va_up τ 0 (zO 0 [.ref 1, .ref 2, .ref 3, .ref 4, .ref 5, .ref 9, .null, .int 0, .int 0])) rfl ?_
  generalize hV5 : va_up τ 0 (zO 0 [.ref 1, .ref 2, .ref 3, .ref 4, .ref 5, .ref 9, .null, .int 0, .int 0]) = V5
  have f5o : V5 0 = zO 0 [.ref 1, .ref 2, .ref 3, .ref 4, .ref 5, .ref 9, .null, .int 0, .int 0] := by rw [← hV5]; exact zu_same
  have f5_9 : V5 9 = zO 3 [.ref 10, .ref 11, .ref 12, .ref 13, .ref 14] := by rw [← hV5, zu_ne (by omega)]; exact hp0
  have f5_10 : V5 10 = zN 49 z0_ := by rw [← hV5, zu_ne (by omega)]; exact hp1
  have f5_11 : V5 11 = zN 49 z0_ := by rw [← hV5, zu_ne (by omega)]; exact hp2
  have f5_12 : V5 12 = zN 49 z0_ := by rw [← hV5, zu_ne (by omega)]; exact hp3
  have f5_13 : V5 13 = zN 49 z0_ := by rw [← hV5, zu_ne (by omega)]; exact hp4
  have f5_14 : V5 14 = zN 49 z0_ := by rw [← hV5, zu_ne (by omega)]; exact hp5
  have f5_1 : V5 1 = zR 20 (fun _ => none) := by rw [← hV5, zu_ne (by omega), hpe' _ (by omega)]; exact f4_1
  have f5_2 : V5 2 = zN 40 z0_ := by rw [← hV5, zu_ne (by omega), hpe' _ (by omega)]; exact f4_2
  have f5_3 : V5 3 = zN 48 z0_ := by rw [← hV5, zu_ne (by omega), hpe' _ (by omega)]; exact f4_3
  have f5_4 : V5 4 = zN 2129 z0_ := by rw [← hV5, zu_ne (by omega), hpe' _ (by omega)]; exact f4_4
  have f5_5 : V5 5 = zO 2 [.ref 6, .ref 7, .ref 8] := by rw [← hV5, zu_ne (by omega), hpe' _ (by omega)]; exact f4_5
  have f5_6 : V5 6 = zN 48 z0_ := by rw [← hV5, zu_ne (by omega), hpe' _ (by omega)]; exact f4_6
  have f5_7 : V5 7 = zN 48 z0_ := by rw [← hV5, zu_ne (by omega), hpe' _ (by omega)]; exact f4_7
  have f5_8 : V5 8 = zN 48 z0_ := by rw [← hV5, zu_ne (by omega), hpe' _ (by omega)]; exact f4_8
  have e5 : ∀ j, 78 ≤ j → V5 j = σ j := fun j q => by rw [← hV5, zu_ne (by omega), hpe' _ (by omega)]; exact e4 j q
  clear hV5 y5 hpe hpe' hp0 hp1 hp2 hp3 hp4 hp5
  refine z_ald0 (q := 61) d_rs_init_60 rfl ?_
  refine z_new (q := 64) d_rs_init_61 rfl (nw_dv cn_rs_39) (by decide) (by decide) ?_
  refine z_dup_r (q := 65) d_rs_init_64 rfl ?_
  refine z_callI (As := []) (i := 15) (rest := [.ref 15, .ref 0]) (q := 68) d_rs_init_65 rfl (ci_dv (p := 15) zu_same) rfl rfl ck_dv_init lk_rs_41 im_dv_init ⟨by decide, by decide⟩ (Nat.le_of_ble_eq_true rfl) (Nat.le_of_ble_eq_true rfl) (Nat.le_of_ble_eq_true rfl) (fun r m τ hp => ?_)
  obtain ⟨rfl, rfl, hp0, hp1, hp2, hpe⟩ := hp
  refine Z.eqa (kc' := 17) (ks' := 2734) (n' := 18) rfl rfl rfl rfl ?_
  have hpe' : ∀ j, j < 15 ∨ 18 ≤ j → τ j = V5 j := fun j q => by rw [hpe j (by omega) (by omega) (by omega), zu_ne (by omega)]
  have y6 : τ 0 = zO 0 [.ref 1, .ref 2, .ref 3, .ref 4, .ref 5, .ref 9, .null, .int 0, .int 0] := by rw [hpe' 0 (by omega)]; exact f5o
  refine z_putF 6 (q := 71) d_rs_init_68 rfl fg_rs_42 ft_rs fk_rs_42 rfl fl_rs_42 (by first | assumption | omega) (by first | assumption | omega) (fun _ => rfl) (fun _ => rfl) (by simp) ?_
  refine Z.eqw (σ' := va_up τ 0 (zO 0 [.ref 1, .ref 2, .ref 3, .ref 4, .ref 5, .ref 9, .ref 15, .int 0, .int 0])) rfl ?_
  generalize hV6 : va_up τ 0 (zO 0 [.ref 1, .ref 2, .ref 3, .ref 4, .ref 5, .ref 9, .ref 15, .int 0, .int 0]) = V6
  have f6o : V6 0 = zO 0 [.ref 1, .ref 2, .ref 3, .ref 4, .ref 5, .ref 9, .ref 15, .int 0, .int 0] := by rw [← hV6]; exact zu_same
  have f6_15 : V6 15 = zO 4 [.ref 16, .ref 17] := by rw [← hV6, zu_ne (by omega)]; exact hp0
  have f6_16 : V6 16 = zN 49 z0_ := by rw [← hV6, zu_ne (by omega)]; exact hp1
  have f6_17 : V6 17 = zN 49 z0_ := by rw [← hV6, zu_ne (by omega)]; exact hp2
  have f6_1 : V6 1 = zR 20 (fun _ => none) := by rw [← hV6, zu_ne (by omega), hpe' _ (by omega)]; exact f5_1
  have f6_2 : V6 2 = zN 40 z0_ := by rw [← hV6, zu_ne (by omega), hpe' _ (by omega)]; exact f5_2
  have f6_3 : V6 3 = zN 48 z0_ := by rw [← hV6, zu_ne (by omega), hpe' _ (by omega)]; exact f5_3
  have f6_4 : V6 4 = zN 2129 z0_ := by rw [← hV6, zu_ne (by omega), hpe' _ (by omega)]; exact f5_4
  have f6_5 : V6 5 = zO 2 [.ref 6, .ref 7, .ref 8] := by rw [← hV6, zu_ne (by omega), hpe' _ (by omega)]; exact f5_5
  have f6_6 : V6 6 = zN 48 z0_ := by rw [← hV6, zu_ne (by omega), hpe' _ (by omega)]; exact f5_6
  have f6_7 : V6 7 = zN 48 z0_ := by rw [← hV6, zu_ne (by omega), hpe' _ (by omega)]; exact f5_7
  have f6_8 : V6 8 = zN 48 z0_ := by rw [← hV6, zu_ne (by omega), hpe' _ (by omega)]; exact f5_8
  have f6_9 : V6 9 = zO 3 [.ref 10, .ref 11, .ref 12, .ref 13, .ref 14] := by rw [← hV6, zu_ne (by omega), hpe' _ (by omega)]; exact f5_9
  have f6_10 : V6 10 = zN 49 z0_ := by rw [← hV6, zu_ne (by omega), hpe' _ (by omega)]; exact f5_10
  have f6_11 : V6 11 = zN 49 z0_ := by rw [← hV6, zu_ne (by omega), hpe' _ (by omega)]; exact f5_11
  have f6_12 : V6 12 = zN 49 z0_ := by rw [← hV6, zu_ne (by omega), hpe' _ (by omega)]; exact f5_12
  have f6_13 : V6 13 = zN 49 z0_ := by rw [← hV6, zu_ne (by omega), hpe' _ (by omega)]; exact f5_13
  have f6_14 : V6 14 = zN 49 z0_ := by rw [← hV6, zu_ne (by omega), hpe' _ (by omega)]; exact f5_14
  have e6 : ∀ j, 78 ≤ j → V6 j = σ j := fun j q => by rw [← hV6, zu_ne (by omega), hpe' _ (by omega)]; exact e5 j q
  clear hV6 y6 hpe hpe' hp0 hp1 hp2
  refine z_iconst (v := nI 0) (q := 72) d_rs_init_71 rfl (by decide) ?_
  refine z_ist1 (q := 73) d_rs_init_72 rfl rfl ?_
  have loop : ∀ (e x : Nat) (f : Nat → Option Nat) (U : zWd), x + e = 20 → U 1 = zR 20 f → (∀ k, k < x → f k = some (18 + 3 * k)) → (∀ j, j ≠ 1 → j < 18 ∨ 78 ≤ j → U j = V6 j) → (∀ k, k < x → U (18 + 3 * k) = zO 1 [.int 0, .ref (19 + 3 * k), .ref (20 + 3 * k)] ∧ U (19 + 3 * k) = zN 48 z0_ ∧ U (20 + 3 * k) = zN 88 z0_) → Z m_rs_init Po (17 + 3 * x) (2734 + 139 * x) (18 + 3 * x) U 73 [some (.ref 0), some (.int (nI x))] [] := by
    intro e
    induction e with
    | zero =>
      intro x f U hx hU1 hf hU hS
      obtain rfl : x = 20 := by omega
      have u0 : U 0 = zO 0 [.ref 1, .ref 2, .ref 3, .ref 4, .ref 5, .ref 9, .ref 15, .int 0, .int 0] := by rw [hU 0 (by omega) (by omega)]; exact f6o
      refine z_ild1 (q := 74) d_rs_init_73 rfl ?_
      refine z_bipush (v := nI 20) (q := 76) d_rs_init_74 rfl (by decide) ?_
      refine zn_icmp_ge (q := 79) (tgt := 98) d_rs_init_76 rfl (by decide) (by omega) (by omega) (fun hb => ?_) (fun hb => ?_)
      · refine z_ald0 (q := 99) d_rs_init_98 rfl ?_
        refine z_iconst (v := nI 0) (q := 100) d_rs_init_99 rfl (by decide) ?_
        refine z_put 7 (q := 103) d_rs_init_100 rfl fg_rs_47 ft_rs fk_rs_47 (by first | assumption | omega) (by first | assumption | omega) (fun _ => rfl) (fun _ => rfl) (by simp) ?_
        have cur1 : va_up U 0 (zO 0 ([.ref 1, .ref 2, .ref 3, .ref 4, .ref 5, .ref 9, .ref 15, .int 0, .int 0].set 7 (.int (nI 0)))) 0 = zO 0 [.ref 1, .ref 2, .ref 3, .ref 4, .ref 5, .ref 9, .ref 15, .int (nI 0), .int 0] := zu_same
        refine z_ald0 (q := 104) d_rs_init_103 rfl ?_
        refine z_iconst (v := nI 0) (q := 105) d_rs_init_104 rfl (by decide) ?_
        refine z_put 8 (q := 108) d_rs_init_105 rfl fg_rs_51 ft_rs fk_rs_51 (by first | assumption | omega) (by first | assumption | omega) (fun _ => rfl) (fun _ => rfl) (by simp) ?_
        refine Z.eqw (σ' := va_up U 0 (c0_ 0 0)) zu_up ?_
        have eU : ∀ j, j ≠ 0 → va_up U 0 (c0_ 0 0) j = U j := fun j q => zu_ne q
        have z0P : ∀ j, z0_ j < 2147483647 := fun j => by show 0 < 2147483647; omega
        refine z_vret d_rs_init_108 rfl (Nat.le_of_ble_eq_true rfl) (Nat.le_of_ble_eq_true rfl) ?_
        rw [← hPo]
        refine ⟨rfl, rfl, ⟨zu_same, ⟨f, by rw [eU 1 (by omega)]; exact hU1, hf⟩, ⟨by rw [eU 2 (by omega), hU 2 (by omega) (by omega)]; exact f6_2, z0P⟩, ⟨z0_, by rw [eU 3 (by omega), hU 3 (by omega) (by omega)]; exact f6_3, z0P⟩, ⟨z0_, by rw [eU 4 (by omega), hU 4 (by omega) (by omega)]; exact f6_4, z0P⟩, ?_, ?_, ?_, ?_, fun k hk => by omega, fun k hk => by omega, by omega, by omega⟩, fun j hj => by rw [eU j (by omega), hU j (by omega) (by omega)]; exact e6 j hj⟩
        · exact ⟨6, 7, 8, z0_, z0_, z0_, by rw [eU _ (by omega), hU _ (by omega) (by omega)]; exact f6_5, by rw [eU _ (by omega), hU _ (by omega) (by omega)]; exact f6_6, by rw [eU _ (by omega), hU _ (by omega) (by omega)]; exact f6_7, by rw [eU _ (by omega), hU _ (by omega) (by omega)]; exact f6_8, by omega, by omega, by omega, by omega, by omega, by omega, z0P, z0P, z0P⟩
        · exact ⟨10, 11, 12, 13, z0_, z0_, z0_, z0_, z0_, by rw [eU _ (by omega), hU _ (by omega) (by omega)]; exact f6_9, by rw [eU _ (by omega), hU _ (by omega) (by omega)]; exact f6_10, by rw [eU _ (by omega), hU _ (by omega) (by omega)]; exact f6_11, by rw [eU _ (by omega), hU _ (by omega) (by omega)]; exact f6_12, by rw [eU _ (by omega), hU _ (by omega) (by omega)]; exact f6_13, by rw [eU _ (by omega), hU _ (by omega) (by omega)]; exact f6_14, by omega, by omega, by omega, by omega, by omega, by omega, by omega, by omega, by omega, by omega, z0P, z0P, z0P, z0P, z0P⟩
        · exact ⟨by rw [eU _ (by omega), hU _ (by omega) (by omega)]; exact f6_15, z0_, z0_, by rw [eU _ (by omega), hU _ (by omega) (by omega)]; exact f6_16, by rw [eU _ (by omega), hU _ (by omega) (by omega)]; exact f6_17, z0P, z0P⟩
        · intro k hk
          obtain ⟨s1, s2, s3⟩ := hS k hk
          exact ⟨0, z0_, z0_, by rw [eU _ (by omega)]; exact s1, by rw [eU _ (by omega)]; exact s2, by rw [eU _ (by omega)]; exact s3, z0P, z0P⟩
      · exact absurd hb (by omega)
    | succ e ih =>
      intro x f U hx hU1 hf hU hS
      have u0 : U 0 = zO 0 [.ref 1, .ref 2, .ref 3, .ref 4, .ref 5, .ref 9, .ref 15, .int 0, .int 0] := by rw [hU 0 (by omega) (by omega)]; exact f6o
      have hcells : (mR m_rs_init).cells = 77 := rfl
      have hslots : (mR m_rs_init).slots = 5514 := rfl
      have hcells' : (mR m_se_init).cells = 2 := rfl
      have hslots' : (mR m_se_init).slots = 136 := rfl
      refine z_ild1 (q := 74) d_rs_init_73 rfl ?_
      refine z_bipush (v := nI 20) (q := 76) d_rs_init_74 rfl (by decide) ?_
      refine zn_icmp_ge (q := 79) (tgt := 98) d_rs_init_76 rfl (by decide) (by omega) (by omega) (fun hb => ?_) (fun hb => ?_)
      · exact absurd hb (by omega)
      · refine z_ald0 (q := 80) d_rs_init_79 rfl ?_
        refine z_get 0 (q := 83) d_rs_init_80 rfl fg_rs_11 (by first | assumption | omega) (by first | assumption | omega) (by rfl) ?_
        refine z_ild1 (q := 84) d_rs_init_83 rfl ?_
        refine z_new (q := 87) d_rs_init_84 rfl (nw_se cn_rs_9) (by omega) (by omega) ?_
        refine z_dup_r (q := 88) d_rs_init_87 rfl ?_
        refine z_callI (As := []) (i := 18 + 3 * x) (rest := [.ref (18 + 3 * x), .int (nI x), .ref 1]) (q := 91) d_rs_init_88 rfl (ci_se (p := 18 + 3 * x) zu_same) rfl rfl ck_se_init lk_rs_46 im_se_init ⟨by decide, by decide⟩ (Nat.le_of_ble_eq_true rfl) (by omega) (by omega) (fun r m τ hp => ?_)
        obtain ⟨rfl, rfl, hp0, hp1, hp2, hpe⟩ := hp
        have hpe' : ∀ j, j < 18 + 3 * x ∨ 21 + 3 * x ≤ j → τ j = U j := fun j q => by rw [hpe j (by omega) (by omega) (by omega), zu_ne (by omega)]
        have t1 : τ 1 = zR 20 f := by rw [hpe' 1 (by omega)]; exact hU1
        refine z_aastore (q := 92) d_rs_init_91 rfl t1 (by omega) (by omega) (by omega) hp0 (by omega) rfl rfl ?_
        refine zn_iinc1 (d := 1) (q := 95) d_rs_init_92 rfl rfl ?_
        refine z_goto (tgt := 73) d_rs_init_95 (by decide) ?_
        refine Z.eqa (kc' := 17 + 3 * (x + 1)) (ks' := 2734 + 139 * (x + 1)) (n' := 18 + 3 * (x + 1)) (by omega) (by omega) (by omega) rfl (ih (x + 1) (va_up f x (some (18 + 3 * x))) _ (by omega) zu_same (fun k hk => ?_) (fun j q1 q2 => ?_) (fun k hk => ?_))
        · by_cases hkx : k = x
          · rw [hkx]; unfold va_up; rw [if_pos rfl]
          · unfold va_up; rw [if_neg hkx]; exact hf k (by omega)
        · rw [zu_ne q1, hpe' j (by omega)]; exact hU j q1 q2
        · by_cases hkx : k = x
          · subst hkx
            refine ⟨?_, ?_, ?_⟩
            · rw [zu_ne (by omega), hp0, show 18 + 3 * k + 1 = 19 + 3 * k by omega, show 18 + 3 * k + 2 = 20 + 3 * k by omega]
            · rw [show 18 + 3 * k + 1 = 19 + 3 * k by omega] at hp1
              rw [zu_ne (by omega)]; exact hp1
            · rw [show 18 + 3 * k + 2 = 20 + 3 * k by omega] at hp2
              rw [zu_ne (by omega)]; exact hp2
          · obtain ⟨s1, s2, s3⟩ := hS k (by omega)
            exact ⟨by rw [zu_ne (by omega), hpe' _ (by omega)]; exact s1, by rw [zu_ne (by omega), hpe' _ (by omega)]; exact s2, by rw [zu_ne (by omega), hpe' _ (by omega)]; exact s3⟩
  exact loop 20 0 (fun _ => none) V6 (by omega) f6_1 (fun k hk => by omega) (fun j _ _ => rfl) (fun k hk => by omega)
theorem ci_mo2 {σ : zWd} (h : σ 78 = zO 5 [.int 0, .int 0, .null, .null, .null, .null, .null, .null, .null, .null, .null, .null, .null]) (od : Nat → Nat) (cf ts : Nat → Nat → Nat) : Ct m_mo_init [.ref 78] 79 σ (fun (r : Option Value) (n' : Nat) (σ' : zWd) => n' = 90 ∧ r = none ∧ MS 0 0 z0_ od cf ts σ' ∧ ∀ j, j < 78 → σ' j = σ j) := by
  have z0P : ∀ j, z0_ j < 2147483647 := fun j => by show 0 < 2147483647; omega
  refine (ci_mo (p := 78) h).weaken (fun r n' σ' hp => ?_)
  obtain ⟨rfl, rfl, h0, h1, h2, h3, h4, h5, h6, h7, h8, h9, h10, h11, he⟩ := hp
  refine ⟨rfl, rfl, ⟨⟨h0, ⟨h1, z0P⟩, ⟨i0_, h2, fun k hk => by omega⟩, ⟨z0_, h3, z0P, fun k hk => by omega⟩, ⟨z0_, h4, z0P, fun k hk => by omega⟩, fun k hk => by omega, by omega, by omega⟩, ⟨z0_, h5, z0P⟩, ⟨z0_, h6, z0P⟩, ⟨i0_, h7⟩, ⟨z0_, h8, z0P⟩, ⟨z0_, h9, z0P⟩, ⟨z0_, h10, z0P⟩, ⟨z0_, h11, z0P⟩⟩, fun j hj => he j (by omega) (by omega) (by omega) (by omega) (by omega) (by omega) (by omega) (by omega) (by omega) (by omega) (by omega) (by omega)⟩


