/-! The constructors -/
theorem Z.eqa {M : zMI} {Po : Option Value → Nat → zWd → Prop} {kc ks n pc kc' ks' n' : Nat} {σ σ' : zWd} {lv : List (Option Value)} {st : List Value} (h1 : kc = kc') (h2 : ks = ks') (h3 : n = n') (h4 : σ = σ') (k : Z M Po kc' ks' n' σ' pc lv st) : Z M Po kc ks n σ pc lv st := by subst h1 h2 h3 h4; exact k
def z0_ : Nat → Nat := fun _ => 0
def i0_ : Nat → Int32 := fun _ => 0
theorem ci_se {σ : zWd} {p : Nat} (h : σ p = zO 1 [.int 0, .null, .null]) : Ct m_se_init [.ref p] (p + 1) σ (fun (r : Option Value) (n' : Nat) (σ' : zWd) => n' = p + 3 ∧ r = none ∧ σ' p = zO 1 [.int 0, .ref (p + 1), .ref (p + 2)] ∧ σ' (p + 1) = zN 48 z0_ ∧ σ' (p + 2) = zN 88 z0_ ∧ ∀ j, j ≠ p → j ≠ p + 1 → j ≠ p + 2 → σ' j = σ j) := by
  refine Ct.of (lv := [some (.ref p)]) 0 (by decide) rfl (Nat.le_of_ble_eq_true rfl) ?_
  generalize hPo : (fun (r : Option Value) (n' : Nat) (σ' : zWd) => n' = p + 3 ∧ r = none ∧ σ' p = zO 1 [.int 0, .ref (p + 1), .ref (p + 2)] ∧ σ' (p + 1) = zN 48 z0_ ∧ σ' (p + 2) = zN 88 z0_ ∧ ∀ j, j ≠ p → j ≠ p + 1 → j ≠ p + 2 → σ' j = σ j) = Po
  refine z_ald0 (q := 1) d_se_init_0 rfl ?_
  refine z_objInit (q := 4) d_se_init_1 rfl lk_se_3 tb_obj1 tb_obj2 (Nat.le_of_ble_eq_true rfl) (Nat.le_of_ble_eq_true rfl) (by decide) ?_
  refine z_ald0 (q := 5) d_se_init_4 rfl ?_
  refine z_bipush (v := nI 48) (q := 7) d_se_init_5 rfl (by decide) ?_
  refine z_newl (q := 9) d_se_init_7 rfl rfl tb_arrL (by decide) (by decide) (by decide) ?_
  have y0 : va_up σ (p + 1) (zN 48 (fun _ => 0)) p = zO 1 [.int 0, .null, .null] := by rw [zu_ne (by omega)]; exact h
  refine z_putF 1 (q := 12) d_se_init_9 rfl fg_se_9 ft_se fk_se_9 rfl fl_se_9 (by first | assumption | omega) (by first | assumption | omega) (fun _ => rfl) (fun _ => rfl) (by simp) ?_
  refine Z.eqa (kc' := 1) (ks' := 48) (n' := p + 2) (σ' := va_up (va_up σ (p + 1) (zN 48 z0_)) p (zO 1 [.int 0, .ref (p + 1), .null])) rfl rfl rfl rfl ?_
  generalize hV0 : va_up (va_up σ (p + 1) (zN 48 z0_)) p (zO 1 [.int 0, .ref (p + 1), .null]) = V1
  have f0p : V1 p = zO 1 [.int 0, .ref (p + 1), .null] := by rw [← hV0]; exact zu_same
  have f0_0 : V1 (p + 1) = zN 48 z0_ := by rw [← hV0, zu_ne (by omega), zu_same]
  have e0 : ∀ j, j ≠ p → j ≠ p + 1 → V1 j = σ j := fun j q0 q1 => by rw [← hV0, zu_ne q0, zu_ne q1]
  clear hV0 y0
  refine z_ald0 (q := 13) d_se_init_12 rfl ?_
  refine z_bipush (v := nI 88) (q := 15) d_se_init_13 rfl (by decide) ?_
  refine z_newl (q := 17) d_se_init_15 rfl rfl tb_arrL (by decide) (by decide) (by decide) ?_
  have y1 : va_up V1 (p + 2) (zN 88 (fun _ => 0)) p = zO 1 [.int 0, .ref (p + 1), .null] := by rw [zu_ne (by omega)]; exact f0p
  refine z_putF 2 (q := 20) d_se_init_17 rfl fg_se_15 ft_se fk_se_15 rfl fl_se_15 (by first | assumption | omega) (by first | assumption | omega) (fun _ => rfl) (fun _ => rfl) (by simp) ?_
  refine Z.eqa (kc' := 2) (ks' := 136) (n' := p + 3) (σ' := va_up (va_up V1 (p + 2) (zN 88 z0_)) p (zO 1 [.int 0, .ref (p + 1), .ref (p + 2)])) rfl rfl rfl rfl ?_
  generalize hV1 : va_up (va_up V1 (p + 2) (zN 88 z0_)) p (zO 1 [.int 0, .ref (p + 1), .ref (p + 2)]) = V2
  have f1p : V2 p = zO 1 [.int 0, .ref (p + 1), .ref (p + 2)] := by rw [← hV1]; exact zu_same
  have f1_1 : V2 (p + 2) = zN 88 z0_ := by rw [← hV1, zu_ne (by omega), zu_same]
  have f1_0 : V2 (p + 1) = zN 48 z0_ := by rw [← hV1, zu_ne (by omega), zu_ne (by omega)]; exact f0_0
  have e1 : ∀ j, j ≠ p → j ≠ p + 1 → j ≠ p + 2 → V2 j = σ j := fun j q0 q1 q2 => by rw [← hV1, zu_ne q0, zu_ne q2]; exact e0 j q0 q1
  clear hV1 y1
  exact z_vret d_se_init_20 rfl (Nat.le_of_ble_eq_true rfl) (Nat.le_of_ble_eq_true rfl) (by rw [← hPo]; exact ⟨rfl, rfl, f1p, f1_0, f1_1, e1⟩)
theorem ci_fi {σ : zWd} {p : Nat} (h : σ p = zO 2 [.null, .null, .null]) : Ct m_fi_init [.ref p] (p + 1) σ (fun (r : Option Value) (n' : Nat) (σ' : zWd) => n' = p + 4 ∧ r = none ∧ σ' p = zO 2 [.ref (p + 1), .ref (p + 2), .ref (p + 3)] ∧ σ' (p + 1) = zN 48 z0_ ∧ σ' (p + 2) = zN 48 z0_ ∧ σ' (p + 3) = zN 48 z0_ ∧ ∀ j, j ≠ p → j ≠ p + 1 → j ≠ p + 2 → j ≠ p + 3 → σ' j = σ j) := by
  refine Ct.of (lv := [some (.ref p)]) 0 (by decide) rfl (Nat.le_of_ble_eq_true rfl) ?_
  generalize hPo : (fun (r : Option Value) (n' : Nat) (σ' : zWd) => n' = p + 4 ∧ r = none ∧ σ' p = zO 2 [.ref (p + 1), .ref (p + 2), .ref (p + 3)] ∧ σ' (p + 1) = zN 48 z0_ ∧ σ' (p + 2) = zN 48 z0_ ∧ σ' (p + 3) = zN 48 z0_ ∧ ∀ j, j ≠ p → j ≠ p + 1 → j ≠ p + 2 → j ≠ p + 3 → σ' j = σ j) = Po
  refine z_ald0 (q := 1) d_fi_init_0 rfl ?_
  refine z_objInit (q := 4) d_fi_init_1 rfl lk_fi_3 tb_obj1 tb_obj2 (Nat.le_of_ble_eq_true rfl) (Nat.le_of_ble_eq_true rfl) (by decide) ?_
  refine z_ald0 (q := 5) d_fi_init_4 rfl ?_
  refine z_bipush (v := nI 48) (q := 7) d_fi_init_5 rfl (by decide) ?_
  refine z_newl (q := 9) d_fi_init_7 rfl rfl tb_arrL (by decide) (by decide) (by decide) ?_
  have y0 : va_up σ (p + 1) (zN 48 (fun _ => 0)) p = zO 2 [.null, .null, .null] := by rw [zu_ne (by omega)]; exact h
  refine z_put 0 (q := 12) d_fi_init_9 rfl fg_fi_9 ft_fi fk_fi_9 (by first | assumption | omega) (by first | assumption | omega) (fun _ => rfl) (fun _ => rfl) (by simp) ?_
  refine Z.eqa (kc' := 1) (ks' := 48) (n' := p + 2) (σ' := va_up (va_up σ (p + 1) (zN 48 z0_)) p (zO 2 [.ref (p + 1), .null, .null])) rfl rfl rfl rfl ?_
  generalize hV0 : va_up (va_up σ (p + 1) (zN 48 z0_)) p (zO 2 [.ref (p + 1), .null, .null]) = V1
  have f0p : V1 p = zO 2 [.ref (p + 1), .null, .null] := by rw [← hV0]; exact zu_same
  have f0_0 : V1 (p + 1) = zN 48 z0_ := by rw [← hV0, zu_ne (by omega), zu_same]
  have e0 : ∀ j, j ≠ p → j ≠ p + 1 → V1 j = σ j := fun j q0 q1 => by rw [← hV0, zu_ne q0, zu_ne q1]
  clear hV0 y0
  refine z_ald0 (q := 13) d_fi_init_12 rfl ?_
  refine z_bipush (v := nI 48) (q := 15) d_fi_init_13 rfl (by decide) ?_
  refine z_newl (q := 17) d_fi_init_15 rfl rfl tb_arrL (by decide) (by decide) (by decide) ?_
  have y1 : va_up V1 (p + 2) (zN 48 (fun _ => 0)) p = zO 2 [.ref (p + 1), .null, .null] := by rw [zu_ne (by omega)]; exact f0p
  refine z_put 1 (q := 20) d_fi_init_17 rfl fg_fi_15 ft_fi fk_fi_15 (by first | assumption | omega) (by first | assumption | omega) (fun _ => rfl) (fun _ => rfl) (by simp) ?_
  refine Z.eqa (kc' := 2) (ks' := 96) (n' := p + 3) (σ' := va_up (va_up V1 (p + 2) (zN 48 z0_)) p (zO 2 [.ref (p + 1), .ref (p + 2), .null])) rfl rfl rfl rfl ?_
  generalize hV1 : va_up (va_up V1 (p + 2) (zN 48 z0_)) p (zO 2 [.ref (p + 1), .ref (p + 2), .null]) = V2
  have f1p : V2 p = zO 2 [.ref (p + 1), .ref (p + 2), .null] := by rw [← hV1]; exact zu_same
  have f1_1 : V2 (p + 2) = zN 48 z0_ := by rw [← hV1, zu_ne (by omega), zu_same]
  have f1_0 : V2 (p + 1) = zN 48 z0_ := by rw [← hV1, zu_ne (by omega), zu_ne (by omega)]; exact f0_0
  have e1 : ∀ j, j ≠ p → j ≠ p + 1 → j ≠ p + 2 → V2 j = σ j := fun j q0 q1 q2 => by rw [← hV1, zu_ne q0, zu_ne q2]; exact e0 j q0 q1
  clear hV1 y1
  refine z_ald0 (q := 21) d_fi_init_20 rfl ?_
  refine z_bipush (v := nI 48) (q := 23) d_fi_init_21 rfl (by decide) ?_
  refine z_newl (q := 25) d_fi_init_23 rfl rfl tb_arrL (by decide) (by decide) (by decide) ?_
  have y2 : va_up V2 (p + 3) (zN 48 (fun _ => 0)) p = zO 2 [.ref (p + 1), .ref (p + 2), .null] := by rw [zu_ne (by omega)]; exact f1p
  refine z_put 2 (q := 28) d_fi_init_25 rfl fg_fi_18 ft_fi fk_fi_18 (by first | assumption | omega) (by first | assumption | omega) (fun _ => rfl) (fun _ => rfl) (by simp) ?_
  refine Z.eqa (kc' := 3) (ks' := 144) (n' := p + 4) (σ' := va_up (va_up V2 (p + 3) (zN 48 z0_)) p (zO 2 [.ref (p + 1), .ref (p + 2), .ref (p + 3)])) rfl rfl rfl rfl ?_
  generalize hV2 : va_up (va_up V2 (p + 3) (zN 48 z0_)) p (zO 2 [.ref (p + 1), .ref (p + 2), .ref (p + 3)]) = V3
  have f2p : V3 p = zO 2 [.ref (p + 1), .ref (p + 2), .ref (p + 3)] := by rw [← hV2]; exact zu_same
  have f2_2 : V3 (p + 3) = zN 48 z0_ := by rw [← hV2, zu_ne (by omega), zu_same]
  have f2_0 : V3 (p + 1) = zN 48 z0_ := by rw [← hV2, zu_ne (by omega), zu_ne (by omega)]; exact f1_0
  have f2_1 : V3 (p + 2) = zN 48 z0_ := by rw [← hV2, zu_ne (by omega), zu_ne (by omega)]; exact f1_1
  have e2 : ∀ j, j ≠ p → j ≠ p + 1 → j ≠ p + 2 → j ≠ p + 3 → V3 j = σ j := fun j q0 q1 q2 q3 => by rw [← hV2, zu_ne q0, zu_ne q3]; exact e1 j q0 q1 q2
  clear hV2 y2
  exact z_vret d_fi_init_28 rfl (Nat.le_of_ble_eq_true rfl) (Nat.le_of_ble_eq_true rfl) (by rw [← hPo]; exact ⟨rfl, rfl, f2p, f2_0, f2_1, f2_2, e2⟩)
theorem ci_sk {σ : zWd} {p : Nat} (h : σ p = zO 3 [.null, .null, .null, .null, .null]) : Ct m_sk_init [.ref p] (p + 1) σ (fun (r : Option Value) (n' : Nat) (σ' : zWd) => n' = p + 6 ∧ r = none ∧ σ' p = zO 3 [.ref (p + 1), .ref (p + 2), .ref (p + 3), .ref (p + 4), .ref (p + 5)] ∧ σ' (p + 1) = zN 49 z0_ ∧ σ' (p + 2) = zN 49 z0_ ∧ σ' (p + 3) = zN 49 z0_ ∧ σ' (p + 4) = zN 49 z0_ ∧ σ' (p + 5) = zN 49 z0_ ∧ ∀ j, j ≠ p → j ≠ p + 1 → j ≠ p + 2 → j ≠ p + 3 → j ≠ p + 4 → j ≠ p + 5 → σ' j = σ j) := by
  refine Ct.of (lv := [some (.ref p)]) 0 (by decide) rfl (Nat.le_of_ble_eq_true rfl) ?_
  generalize hPo : (fun (r : Option Value) (n' : Nat) (σ' : zWd) => n' = p + 6 ∧ r = none ∧ σ' p = zO 3 [.ref (p + 1), .ref (p + 2), .ref (p + 3), .ref (p + 4), .ref (p + 5)] ∧ σ' (p + 1) = zN 49 z0_ ∧ σ' (p + 2) = zN 49 z0_ ∧ σ' (p + 3) = zN 49 z0_ ∧ σ' (p + 4) = zN 49 z0_ ∧ σ' (p + 5) = zN 49 z0_ ∧ ∀ j, j ≠ p → j ≠ p + 1 → j ≠ p + 2 → j ≠ p + 3 → j ≠ p + 4 → j ≠ p + 5 → σ' j = σ j) = Po
  refine z_ald0 (q := 1) d_sk_init_0 rfl ?_
  refine z_objInit (q := 4) d_sk_init_1 rfl lk_sk_3 tb_obj1 tb_obj2 (Nat.le_of_ble_eq_true rfl) (Nat.le_of_ble_eq_true rfl) (by decide) ?_
  refine z_ald0 (q := 5) d_sk_init_4 rfl ?_
  refine z_bipush (v := nI 49) (q := 7) d_sk_init_5 rfl (by decide) ?_
  refine z_newl (q := 9) d_sk_init_7 rfl rfl tb_arrL (by decide) (by decide) (by decide) ?_
  have y0 : va_up σ (p + 1) (zN 49 (fun _ => 0)) p = zO 3 [.null, .null, .null, .null, .null] := by rw [zu_ne (by omega)]; exact h
  refine z_put 0 (q := 12) d_sk_init_9 rfl fg_sk_9 ft_sk fk_sk_9 (by first | assumption | omega) (by first | assumption | omega) (fun _ => rfl) (fun _ => rfl) (by simp) ?_
  refine Z.eqa (kc' := 1) (ks' := 49) (n' := p + 2) (σ' := va_up (va_up σ (p + 1) (zN 49 z0_)) p (zO 3 [.ref (p + 1), .null, .null, .null, .null])) rfl rfl rfl rfl ?_
  generalize hV0 : va_up (va_up σ (p + 1) (zN 49 z0_)) p (zO 3 [.ref (p + 1), .null, .null, .null, .null]) = V1
  have f0p : V1 p = zO 3 [.ref (p + 1), .null, .null, .null, .null] := by rw [← hV0]; exact zu_same
  have f0_0 : V1 (p + 1) = zN 49 z0_ := by rw [← hV0, zu_ne (by omega), zu_same]
  have e0 : ∀ j, j ≠ p → j ≠ p + 1 → V1 j = σ j := fun j q0 q1 => by rw [← hV0, zu_ne q0, zu_ne q1]
  clear hV0 y0
  refine z_ald0 (q := 13) d_sk_init_12 rfl ?_
  refine z_bipush (v := nI 49) (q := 15) d_sk_init_13 rfl (by decide) ?_
  refine z_newl (q := 17) d_sk_init_15 rfl rfl tb_arrL (by decide) (by decide) (by decide) ?_
  have y1 : va_up V1 (p + 2) (zN 49 (fun _ => 0)) p = zO 3 [.ref (p + 1), .null, .null, .null, .null] := by rw [zu_ne (by omega)]; exact f0p
  refine z_put 1 (q := 20) d_sk_init_17 rfl fg_sk_15 ft_sk fk_sk_15 (by first | assumption | omega) (by first | assumption | omega) (fun _ => rfl) (fun _ => rfl) (by simp) ?_
  refine Z.eqa (kc' := 2) (ks' := 98) (n' := p + 3) (σ' := va_up (va_up V1 (p + 2) (zN 49 z0_)) p (zO 3 [.ref (p + 1), .ref (p + 2), .null, .null, .null])) rfl rfl rfl rfl ?_
  generalize hV1 : va_up (va_up V1 (p + 2) (zN 49 z0_)) p (zO 3 [.ref (p + 1), .ref (p + 2), .null, .null, .null]) = V2
  have f1p : V2 p = zO 3 [.ref (p + 1), .ref (p + 2), .null, .null, .null] := by rw [← hV1]; exact zu_same
  have f1_1 : V2 (p + 2) = zN 49 z0_ := by rw [← hV1, zu_ne (by omega), zu_same]
  have f1_0 : V2 (p + 1) = zN 49 z0_ := by rw [← hV1, zu_ne (by omega), zu_ne (by omega)]; exact f0_0
  have e1 : ∀ j, j ≠ p → j ≠ p + 1 → j ≠ p + 2 → V2 j = σ j := fun j q0 q1 q2 => by rw [← hV1, zu_ne q0, zu_ne q2]; exact e0 j q0 q1
  clear hV1 y1
  refine z_ald0 (q := 21) d_sk_init_20 rfl ?_
  refine z_bipush (v := nI 49) (q := 23) d_sk_init_21 rfl (by decide) ?_
  refine z_newl (q := 25) d_sk_init_23 rfl rfl tb_arrL (by decide) (by decide) (by decide) ?_
  have y2 : va_up V2 (p + 3) (zN 49 (fun _ => 0)) p = zO 3 [.ref (p + 1), .ref (p + 2), .null, .null, .null] := by rw [zu_ne (by omega)]; exact f1p
  refine z_put 2 (q := 28) d_sk_init_25 rfl fg_sk_18 ft_sk fk_sk_18 (by first | assumption | omega) (by first | assumption | omega) (fun _ => rfl) (fun _ => rfl) (by simp) ?_
  refine Z.eqa (kc' := 3) (ks' := 147) (n' := p + 4) (σ' := va_up (va_up V2 (p + 3) (zN 49 z0_)) p (zO 3 [.ref (p + 1), .ref (p + 2), .ref (p + 3), .null, .null])) rfl rfl rfl rfl ?_
  generalize hV2 : va_up (va_up V2 (p + 3) (zN 49 z0_)) p (zO 3 [.ref (p + 1), .ref (p + 2), .ref (p + 3), .null, .null]) = V3
  have f2p : V3 p = zO 3 [.ref (p + 1), .ref (p + 2), .ref (p + 3), .null, .null] := by rw [← hV2]; exact zu_same
  have f2_2 : V3 (p + 3) = zN 49 z0_ := by rw [← hV2, zu_ne (by omega), zu_same]
  have f2_0 : V3 (p + 1) = zN 49 z0_ := by rw [← hV2, zu_ne (by omega), zu_ne (by omega)]; exact f1_0
  have f2_1 : V3 (p + 2) = zN 49 z0_ := by rw [← hV2, zu_ne (by omega), zu_ne (by omega)]; exact f1_1
  have e2 : ∀ j, j ≠ p → j ≠ p + 1 → j ≠ p + 2 → j ≠ p + 3 → V3 j = σ j := fun j q0 q1 q2 q3 => by rw [← hV2, zu_ne q0, zu_ne q3]; exact e1 j q0 q1 q2
  clear hV2 y2
  refine z_ald0 (q := 29) d_sk_init_28 rfl ?_
  refine z_bipush (v := nI 49) (q := 31) d_sk_init_29 rfl (by decide) ?_
  refine z_newl (q := 33) d_sk_init_31 rfl rfl tb_arrL (by decide) (by decide) (by decide) ?_
  have y3 : va_up V3 (p + 4) (zN 49 (fun _ => 0)) p = zO 3 [.ref (p + 1), .ref (p + 2), .ref (p + 3), .null, .null] := by rw [zu_ne (by omega)]; exact f2p
  refine z_put 3 (q := 36) d_sk_init_33 rfl fg_sk_21 ft_sk fk_sk_21 (by first | assumption | omega) (by first | assumption | omega) (fun _ => rfl) (fun _ => rfl) (by simp) ?_
  refine Z.eqa (kc' := 4) (ks' := 196) (n' := p + 5) (σ' := va_up (va_up V3 (p + 4) (zN 49 z0_)) p (zO 3 [.ref (p + 1), .ref (p + 2), .ref (p + 3), .ref (p + 4), .null])) rfl rfl rfl rfl ?_
  generalize hV3 : va_up (va_up V3 (p + 4) (zN 49 z0_)) p (zO 3 [.ref (p + 1), .ref (p + 2), .ref (p + 3), .ref (p + 4), .null]) = V4
  have f3p : V4 p = zO 3 [.ref (p + 1), .ref (p + 2), .ref (p + 3), .ref (p + 4), .null] := by rw [← hV3]; exact zu_same
  have f3_3 : V4 (p + 4) = zN 49 z0_ := by rw [← hV3, zu_ne (by omega), zu_same]
  have f3_0 : V4 (p + 1) = zN 49 z0_ := by rw [← hV3, zu_ne (by omega), zu_ne (by omega)]; exact f2_0
  have f3_1 : V4 (p + 2) = zN 49 z0_ := by rw [← hV3, zu_ne (by omega), zu_ne (by omega)]; exact f2_1
  have f3_2 : V4 (p + 3) = zN 49 z0_ := by rw [← hV3, zu_ne (by omega), zu_ne (by omega)]; exact f2_2
  have e3 : ∀ j, j ≠ p → j ≠ p + 1 → j ≠ p + 2 → j ≠ p + 3 → j ≠ p + 4 → V4 j = σ j := fun j q0 q1 q2 q3 q4 => by rw [← hV3, zu_ne q0, zu_ne q4]; exact e2 j q0 q1 q2 q3
  clear hV3 y3
  refine z_ald0 (q := 37) d_sk_init_36 rfl ?_
  refine z_bipush (v := nI 49) (q := 39) d_sk_init_37 rfl (by decide) ?_
  refine z_newl (q := 41) d_sk_init_39 rfl rfl tb_arrL (by decide) (by decide) (by decide) ?_
  have y4 : va_up V4 (p + 5) (zN 49 (fun _ => 0)) p = zO 3 [.ref (p + 1), .ref (p + 2), .ref (p + 3), .ref (p + 4), .null] := by rw [zu_ne (by omega)]; exact f3p
  refine z_putF 4 (q := 44) d_sk_init_41 rfl fg_sk_24 ft_sk fk_sk_24 rfl fl_sk_24 (by first | assumption | omega) (by first | assumption | omega) (fun _ => rfl) (fun _ => rfl) (by simp) ?_
  refine Z.eqa (kc' := 5) (ks' := 245) (n' := p + 6) (σ' := va_up (va_up V4 (p + 5) (zN 49 z0_)) p (zO 3 [.ref (p + 1), .ref (p + 2), .ref (p + 3), .ref (p + 4), .ref (p + 5)])) rfl rfl rfl rfl ?_
  generalize hV4 : va_up (va_up V4 (p + 5) (zN 49 z0_)) p (zO 3 [.ref (p + 1), .ref (p + 2), .ref (p + 3), .ref (p + 4), .ref (p + 5)]) = V5
  have f4p : V5 p = zO 3 [.ref (p + 1), .ref (p + 2), .ref (p + 3), .ref (p + 4), .ref (p + 5)] := by rw [← hV4]; exact zu_same
  have f4_4 : V5 (p + 5) = zN 49 z0_ := by rw [← hV4, zu_ne (by omega), zu_same]
  have f4_0 : V5 (p + 1) = zN 49 z0_ := by rw [← hV4, zu_ne (by omega), zu_ne (by omega)]; exact f3_0
  have f4_1 : V5 (p + 2) = zN 49 z0_ := by rw [← hV4, zu_ne (by omega), zu_ne (by omega)]; exact f3_1
  have f4_2 : V5 (p + 3) = zN 49 z0_ := by rw [← hV4, zu_ne (by omega), zu_ne (by omega)]; exact f3_2
  have f4_3 : V5 (p + 4) = zN 49 z0_ := by rw [← hV4, zu_ne (by omega), zu_ne (by omega)]; exact f3_3
  have e4 : ∀ j, j ≠ p → j ≠ p + 1 → j ≠ p + 2 → j ≠ p + 3 → j ≠ p + 4 → j ≠ p + 5 → V5 j = σ j := fun j q0 q1 q2 q3 q4 q5 => by rw [← hV4, zu_ne q0, zu_ne q5]; exact e3 j q0 q1 q2 q3 q4
  clear hV4 y4
  exact z_vret d_sk_init_44 rfl (Nat.le_of_ble_eq_true rfl) (Nat.le_of_ble_eq_true rfl) (by rw [← hPo]; exact ⟨rfl, rfl, f4p, f4_0, f4_1, f4_2, f4_3, f4_4, e4⟩)
theorem ci_dv {σ : zWd} {p : Nat} (h : σ p = zO 4 [.null, .null]) : Ct m_dv_init [.ref p] (p + 1) σ (fun (r : Option Value) (n' : Nat) (σ' : zWd) => n' = p + 3 ∧ r = none ∧ σ' p = zO 4 [.ref (p + 1), .ref (p + 2)] ∧ σ' (p + 1) = zN 49 z0_ ∧ σ' (p + 2) = zN 49 z0_ ∧ ∀ j, j ≠ p → j ≠ p + 1 → j ≠ p + 2 → σ' j = σ j) := by
  refine Ct.of (lv := [some (.ref p)]) 0 (by decide) rfl (Nat.le_of_ble_eq_true rfl) ?_
  generalize hPo : (fun (r : Option Value) (n' : Nat) (σ' : zWd) => n' = p + 3 ∧ r = none ∧ σ' p = zO 4 [.ref (p + 1), .ref (p + 2)] ∧ σ' (p + 1) = zN 49 z0_ ∧ σ' (p + 2) = zN 49 z0_ ∧ ∀ j, j ≠ p → j ≠ p + 1 → j ≠ p + 2 → σ' j = σ j) = Po
  refine z_ald0 (q := 1) d_dv_init_0 rfl ?_
  refine z_objInit (q := 4) d_dv_init_1 rfl lk_dv_3 tb_obj1 tb_obj2 (Nat.le_of_ble_eq_true rfl) (Nat.le_of_ble_eq_true rfl) (by decide) ?_
  refine z_ald0 (q := 5) d_dv_init_4 rfl ?_
  refine z_bipush (v := nI 49) (q := 7) d_dv_init_5 rfl (by decide) ?_
  refine z_newl (q := 9) d_dv_init_7 rfl rfl tb_arrL (by decide) (by decide) (by decide) ?_
  have y0 : va_up σ (p + 1) (zN 49 (fun _ => 0)) p = zO 4 [.null, .null] := by rw [zu_ne (by omega)]; exact h
  refine z_putF 0 (q := 12) d_dv_init_9 rfl fg_dv_9 ft_dv fk_dv_9 rfl fl_dv_9 (by first | assumption | omega) (by first | assumption | omega) (fun _ => rfl) (fun _ => rfl) (by simp) ?_
  refine Z.eqa (kc' := 1) (ks' := 49) (n' := p + 2) (σ' := va_up (va_up σ (p + 1) (zN 49 z0_)) p (zO 4 [.ref (p + 1), .null])) rfl rfl rfl rfl ?_
  generalize hV0 : va_up (va_up σ (p + 1) (zN 49 z0_)) p (zO 4 [.ref (p + 1), .null]) = V1
  have f0p : V1 p = zO 4 [.ref (p + 1), .null] := by rw [← hV0]; exact zu_same
  have f0_0 : V1 (p + 1) = zN 49 z0_ := by rw [← hV0, zu_ne (by omega), zu_same]
  have e0 : ∀ j, j ≠ p → j ≠ p + 1 → V1 j = σ j := fun j q0 q1 => by rw [← hV0, zu_ne q0, zu_ne q1]
  clear hV0 y0
  refine z_ald0 (q := 13) d_dv_init_12 rfl ?_
  refine z_bipush (v := nI 49) (q := 15) d_dv_init_13 rfl (by decide) ?_
  refine z_newl (q := 17) d_dv_init_15 rfl rfl tb_arrL (by decide) (by decide) (by decide) ?_
  have y1 : va_up V1 (p + 2) (zN 49 (fun _ => 0)) p = zO 4 [.ref (p + 1), .null] := by rw [zu_ne (by omega)]; exact f0p
  refine z_putF 1 (q := 20) d_dv_init_17 rfl fg_dv_15 ft_dv fk_dv_15 rfl fl_dv_15 (by first | assumption | omega) (by first | assumption | omega) (fun _ => rfl) (fun _ => rfl) (by simp) ?_
  refine Z.eqa (kc' := 2) (ks' := 98) (n' := p + 3) (σ' := va_up (va_up V1 (p + 2) (zN 49 z0_)) p (zO 4 [.ref (p + 1), .ref (p + 2)])) rfl rfl rfl rfl ?_
  generalize hV1 : va_up (va_up V1 (p + 2) (zN 49 z0_)) p (zO 4 [.ref (p + 1), .ref (p + 2)]) = V2
  have f1p : V2 p = zO 4 [.ref (p + 1), .ref (p + 2)] := by rw [← hV1]; exact zu_same
  have f1_1 : V2 (p + 2) = zN 49 z0_ := by rw [← hV1, zu_ne (by omega), zu_same]
  have f1_0 : V2 (p + 1) = zN 49 z0_ := by rw [← hV1, zu_ne (by omega), zu_ne (by omega)]; exact f0_0
  have e1 : ∀ j, j ≠ p → j ≠ p + 1 → j ≠ p + 2 → V2 j = σ j := fun j q0 q1 q2 => by rw [← hV1, zu_ne q0, zu_ne q2]; exact e0 j q0 q1
  clear hV1 y1
  exact z_vret d_dv_init_20 rfl (Nat.le_of_ble_eq_true rfl) (Nat.le_of_ble_eq_true rfl) (by rw [← hPo]; exact ⟨rfl, rfl, f1p, f1_0, f1_1, e1⟩)
theorem ci_mo {σ : zWd} {p : Nat} (h : σ p = zO 5 [.int 0, .int 0, .null, .null, .null, .null, .null, .null, .null, .null, .null, .null, .null]) : Ct m_mo_init [.ref p] (p + 1) σ (fun (r : Option Value) (n' : Nat) (σ' : zWd) => n' = p + 12 ∧ r = none ∧ σ' p = zO 5 [.int 0, .int 0, .ref (p + 1), .ref (p + 2), .ref (p + 3), .ref (p + 4), .ref (p + 5), .ref (p + 6), .ref (p + 7), .ref (p + 8), .ref (p + 9), .ref (p + 10), .ref (p + 11)] ∧ σ' (p + 1) = zN 40 z0_ ∧ σ' (p + 2) = zI 20 i0_ ∧ σ' (p + 3) = zN 480 z0_ ∧ σ' (p + 4) = zN 480 z0_ ∧ σ' (p + 5) = zN 2400 z0_ ∧ σ' (p + 6) = zN 2352 z0_ ∧ σ' (p + 7) = zI 48 i0_ ∧ σ' (p + 8) = zN 576 z0_ ∧ σ' (p + 9) = zN 576 z0_ ∧ σ' (p + 10) = zN 24 z0_ ∧ σ' (p + 11) = zN 24 z0_ ∧ ∀ j, j ≠ p → j ≠ p + 1 → j ≠ p + 2 → j ≠ p + 3 → j ≠ p + 4 → j ≠ p + 5 → j ≠ p + 6 → j ≠ p + 7 → j ≠ p + 8 → j ≠ p + 9 → j ≠ p + 10 → j ≠ p + 11 → σ' j = σ j) := by
  refine Ct.of (lv := [some (.ref p)]) 0 (by decide) rfl (Nat.le_of_ble_eq_true rfl) ?_
  generalize hPo : (fun (r : Option Value) (n' : Nat) (σ' : zWd) => n' = p + 12 ∧ r = none ∧ σ' p = zO 5 [.int 0, .int 0, .ref (p + 1), .ref (p + 2), .ref (p + 3), .ref (p + 4), .ref (p + 5), .ref (p + 6), .ref (p + 7), .ref (p + 8), .ref (p + 9), .ref (p + 10), .ref (p + 11)] ∧ σ' (p + 1) = zN 40 z0_ ∧ σ' (p + 2) = zI 20 i0_ ∧ σ' (p + 3) = zN 480 z0_ ∧ σ' (p + 4) = zN 480 z0_ ∧ σ' (p + 5) = zN 2400 z0_ ∧ σ' (p + 6) = zN 2352 z0_ ∧ σ' (p + 7) = zI 48 i0_ ∧ σ' (p + 8) = zN 576 z0_ ∧ σ' (p + 9) = zN 576 z0_ ∧ σ' (p + 10) = zN 24 z0_ ∧ σ' (p + 11) = zN 24 z0_ ∧ ∀ j, j ≠ p → j ≠ p + 1 → j ≠ p + 2 → j ≠ p + 3 → j ≠ p + 4 → j ≠ p + 5 → j ≠ p + 6 → j ≠ p + 7 → j ≠ p + 8 → j ≠ p + 9 → j ≠ p + 10 → j ≠ p + 11 → σ' j = σ j) = Po
  refine z_ald0 (q := 1) d_mo_init_0 rfl ?_
  refine z_objInit (q := 4) d_mo_init_1 rfl lk_mo_1 tb_obj1 tb_obj2 (Nat.le_of_ble_eq_true rfl) (Nat.le_of_ble_eq_true rfl) (by decide) ?_
  refine z_ald0 (q := 5) d_mo_init_4 rfl ?_
  refine z_bipush (v := nI 40) (q := 7) d_mo_init_5 rfl (by decide) ?_
  refine z_newl (q := 9) d_mo_init_7 rfl rfl tb_arrL (by decide) (by decide) (by decide) ?_
  have y0 : va_up σ (p + 1) (zN 40 (fun _ => 0)) p = zO 5 [.int 0, .int 0, .null, .null, .null, .null, .null, .null, .null, .null, .null, .null, .null] := by rw [zu_ne (by omega)]; exact h
  refine z_putF 2 (q := 12) d_mo_init_9 rfl fg_mo_7 ft_mo fk_mo_7 rfl fl_mo_7 (by first | assumption | omega) (by first | assumption | omega) (fun _ => rfl) (fun _ => rfl) (by simp) ?_
  refine Z.eqa (kc' := 1) (ks' := 40) (n' := p + 2) (σ' := va_up (va_up σ (p + 1) (zN 40 z0_)) p (zO 5 [.int 0, .int 0, .ref (p + 1), .null, .null, .null, .null, .null, .null, .null, .null, .null, .null])) rfl rfl rfl rfl ?_
  generalize hV0 : va_up (va_up σ (p + 1) (zN 40 z0_)) p (zO 5 [.int 0, .int 0, .ref (p + 1), .null, .null, .null, .null, .null, .null, .null, .null, .null, .null]) = V1
  have f0p : V1 p = zO 5 [.int 0, .int 0, .ref (p + 1), .null, .null, .null, .null, .null, .null, .null, .null, .null, .null] := by rw [← hV0]; exact zu_same
  have f0_0 : V1 (p + 1) = zN 40 z0_ := by rw [← hV0, zu_ne (by omega), zu_same]
  have e0 : ∀ j, j ≠ p → j ≠ p + 1 → V1 j = σ j := fun j q0 q1 => by rw [← hV0, zu_ne q0, zu_ne q1]
  clear hV0 y0
  refine z_ald0 (q := 13) d_mo_init_12 rfl ?_
  refine z_bipush (v := nI 20) (q := 15) d_mo_init_13 rfl (by decide) ?_
  refine z_newi (q := 17) d_mo_init_15 rfl rfl tb_arrI (by decide) (by decide) (by decide) ?_
  have y1 : va_up V1 (p + 2) (zI 20 (fun _ => 0)) p = zO 5 [.int 0, .int 0, .ref (p + 1), .null, .null, .null, .null, .null, .null, .null, .null, .null, .null] := by rw [zu_ne (by omega)]; exact f0p
  refine z_putF 3 (q := 20) d_mo_init_17 rfl fg_mo_13 ft_mo fk_mo_13 rfl fl_mo_13 (by first | assumption | omega) (by first | assumption | omega) (fun _ => rfl) (fun _ => rfl) (by simp) ?_
  refine Z.eqa (kc' := 2) (ks' := 60) (n' := p + 3) (σ' := va_up (va_up V1 (p + 2) (zI 20 i0_)) p (zO 5 [.int 0, .int 0, .ref (p + 1), .ref (p + 2), .null, .null, .null, .null, .null, .null, .null, .null, .null])) rfl rfl rfl rfl ?_
  generalize hV1 : va_up (va_up V1 (p + 2) (zI 20 i0_)) p (zO 5 [.int 0, .int 0, .ref (p + 1), .ref (p + 2), .null, .null, .null, .null, .null, .null, .null, .null, .null]) = V2
  have f1p : V2 p = zO 5 [.int 0, .int 0, .ref (p + 1), .ref (p + 2), .null, .null, .null, .null, .null, .null, .null, .null, .null] := by rw [← hV1]; exact zu_same
  have f1_1 : V2 (p + 2) = zI 20 i0_ := by rw [← hV1, zu_ne (by omega), zu_same]
  have f1_0 : V2 (p + 1) = zN 40 z0_ := by rw [← hV1, zu_ne (by omega), zu_ne (by omega)]; exact f0_0
  have e1 : ∀ j, j ≠ p → j ≠ p + 1 → j ≠ p + 2 → V2 j = σ j := fun j q0 q1 q2 => by rw [← hV1, zu_ne q0, zu_ne q2]; exact e0 j q0 q1
  clear hV1 y1
  refine z_ald0 (q := 21) d_mo_init_20 rfl ?_
  refine z_sipush (v := nI 480) (q := 24) d_mo_init_21 rfl (by decide) ?_
  refine z_newl (q := 26) d_mo_init_24 rfl rfl tb_arrL (by decide) (by decide) (by decide) ?_
  have y2 : va_up V2 (p + 3) (zN 480 (fun _ => 0)) p = zO 5 [.int 0, .int 0, .ref (p + 1), .ref (p + 2), .null, .null, .null, .null, .null, .null, .null, .null, .null] := by rw [zu_ne (by omega)]; exact f1p
  refine z_putF 4 (q := 29) d_mo_init_26 rfl fg_mo_17 ft_mo fk_mo_17 rfl fl_mo_17 (by first | assumption | omega) (by first | assumption | omega) (fun _ => rfl) (fun _ => rfl) (by simp) ?_
  refine Z.eqa (kc' := 3) (ks' := 540) (n' := p + 4) (σ' := va_up (va_up V2 (p + 3) (zN 480 z0_)) p (zO 5 [.int 0, .int 0, .ref (p + 1), .ref (p + 2), .ref (p + 3), .null, .null, .null, .null, .null, .null, .null, .null])) rfl rfl rfl rfl ?_
  generalize hV2 : va_up (va_up V2 (p + 3) (zN 480 z0_)) p (zO 5 [.int 0, .int 0, .ref (p + 1), .ref (p + 2), .ref (p + 3), .null, .null, .null, .null, .null, .null, .null, .null]) = V3
  have f2p : V3 p = zO 5 [.int 0, .int 0, .ref (p + 1), .ref (p + 2), .ref (p + 3), .null, .null, .null, .null, .null, .null, .null, .null] := by rw [← hV2]; exact zu_same
  have f2_2 : V3 (p + 3) = zN 480 z0_ := by rw [← hV2, zu_ne (by omega), zu_same]
  have f2_0 : V3 (p + 1) = zN 40 z0_ := by rw [← hV2, zu_ne (by omega), zu_ne (by omega)]; exact f1_0
  have f2_1 : V3 (p + 2) = zI 20 i0_ := by rw [← hV2, zu_ne (by omega), zu_ne (by omega)]; exact f1_1
  have e2 : ∀ j, j ≠ p → j ≠ p + 1 → j ≠ p + 2 → j ≠ p + 3 → V3 j = σ j := fun j q0 q1 q2 q3 => by rw [← hV2, zu_ne q0, zu_ne q3]; exact e1 j q0 q1 q2
  clear hV2 y2
  refine z_ald0 (q := 30) d_mo_init_29 rfl ?_
  refine z_sipush (v := nI 480) (q := 33) d_mo_init_30 rfl (by decide) ?_
  refine z_newl (q := 35) d_mo_init_33 rfl rfl tb_arrL (by decide) (by decide) (by decide) ?_
  have y3 : va_up V3 (p + 4) (zN 480 (fun _ => 0)) p = zO 5 [.int 0, .int 0, .ref (p + 1), .ref (p + 2), .ref (p + 3), .null, .null, .null, .null, .null, .null, .null, .null] := by rw [zu_ne (by omega)]; exact f2p
  refine z_putF 5 (q := 38) d_mo_init_35 rfl fg_mo_20 ft_mo fk_mo_20 rfl fl_mo_20 (by first | assumption | omega) (by first | assumption | omega) (fun _ => rfl) (fun _ => rfl) (by simp) ?_
  refine Z.eqa (kc' := 4) (ks' := 1020) (n' := p + 5) (σ' := va_up (va_up V3 (p + 4) (zN 480 z0_)) p (zO 5 [.int 0, .int 0, .ref (p + 1), .ref (p + 2), .ref (p + 3), .ref (p + 4), .null, .null, .null, .null, .null, .null, .null])) rfl rfl rfl rfl ?_
  generalize hV3 : va_up (va_up V3 (p + 4) (zN 480 z0_)) p (zO 5 [.int 0, .int 0, .ref (p + 1), .ref (p + 2), .ref (p + 3), .ref (p + 4), .null, .null, .null, .null, .null, .null, .null]) = V4
  have f3p : V4 p = zO 5 [.int 0, .int 0, .ref (p + 1), .ref (p + 2), .ref (p + 3), .ref (p + 4), .null, .null, .null, .null, .null, .null, .null] := by rw [← hV3]; exact zu_same
  have f3_3 : V4 (p + 4) = zN 480 z0_ := by rw [← hV3, zu_ne (by omega), zu_same]
  have f3_0 : V4 (p + 1) = zN 40 z0_ := by rw [← hV3, zu_ne (by omega), zu_ne (by omega)]; exact f2_0
  have f3_1 : V4 (p + 2) = zI 20 i0_ := by rw [← hV3, zu_ne (by omega), zu_ne (by omega)]; exact f2_1
  have f3_2 : V4 (p + 3) = zN 480 z0_ := by rw [← hV3, zu_ne (by omega), zu_ne (by omega)]; exact f2_2
  have e3 : ∀ j, j ≠ p → j ≠ p + 1 → j ≠ p + 2 → j ≠ p + 3 → j ≠ p + 4 → V4 j = σ j := fun j q0 q1 q2 q3 q4 => by rw [← hV3, zu_ne q0, zu_ne q4]; exact e2 j q0 q1 q2 q3
  clear hV3 y3
  refine z_ald0 (q := 39) d_mo_init_38 rfl ?_
  refine z_sipush (v := nI 2400) (q := 42) d_mo_init_39 rfl (by decide) ?_
  refine z_newl (q := 44) d_mo_init_42 rfl rfl tb_arrL (by decide) (by decide) (by decide) ?_
  have y4 : va_up V4 (p + 5) (zN 2400 (fun _ => 0)) p = zO 5 [.int 0, .int 0, .ref (p + 1), .ref (p + 2), .ref (p + 3), .ref (p + 4), .null, .null, .null, .null, .null, .null, .null] := by rw [zu_ne (by omega)]; exact f3p
  refine z_putF 6 (q := 47) d_mo_init_44 rfl fg_mo_23 ft_mo fk_mo_23 rfl fl_mo_23 (by first | assumption | omega) (by first | assumption | omega) (fun _ => rfl) (fun _ => rfl) (by simp) ?_
  refine Z.eqa (kc' := 5) (ks' := 3420) (n' := p + 6) (σ' := va_up (va_up V4 (p + 5) (zN 2400 z0_)) p (zO 5 [.int 0, .int 0, .ref (p + 1), .ref (p + 2), .ref (p + 3), .ref (p + 4), .ref (p + 5), .null, .null, .null, .null, .null, .null])) rfl rfl rfl rfl ?_
  generalize hV4 : va_up (va_up V4 (p + 5) (zN 2400 z0_)) p (zO 5 [.int 0, .int 0, .ref (p + 1), .ref (p + 2), .ref (p + 3), .ref (p + 4), .ref (p + 5), .null, .null, .null, .null, .null, .null]) = V5
  have f4p : V5 p = zO 5 [.int 0, .int 0, .ref (p + 1), .ref (p + 2), .ref (p + 3), .ref (p + 4), .ref (p + 5), .null, .null, .null, .null, .null, .null] := by rw [← hV4]; exact zu_same
  have f4_4 : V5 (p + 5) = zN 2400 z0_ := by rw [← hV4, zu_ne (by omega), zu_same]
  have f4_0 : V5 (p + 1) = zN 40 z0_ := by rw [← hV4, zu_ne (by omega), zu_ne (by omega)]; exact f3_0
  have f4_1 : V5 (p + 2) = zI 20 i0_ := by rw [← hV4, zu_ne (by omega), zu_ne (by omega)]; exact f3_1
  have f4_2 : V5 (p + 3) = zN 480 z0_ := by rw [← hV4, zu_ne (by omega), zu_ne (by omega)]; exact f3_2
  have f4_3 : V5 (p + 4) = zN 480 z0_ := by rw [← hV4, zu_ne (by omega), zu_ne (by omega)]; exact f3_3
  have e4 : ∀ j, j ≠ p → j ≠ p + 1 → j ≠ p + 2 → j ≠ p + 3 → j ≠ p + 4 → j ≠ p + 5 → V5 j = σ j := fun j q0 q1 q2 q3 q4 q5 => by rw [← hV4, zu_ne q0, zu_ne q5]; exact e3 j q0 q1 q2 q3 q4
  clear hV4 y4
  refine z_ald0 (q := 48) d_mo_init_47 rfl ?_
  refine z_sipush (v := nI 2352) (q := 51) d_mo_init_48 rfl (by decide) ?_
  refine z_newl (q := 53) d_mo_init_51 rfl rfl tb_arrL (by decide) (by decide) (by decide) ?_
  have y5 : va_up V5 (p + 6) (zN 2352 (fun _ => 0)) p = zO 5 [.int 0, .int 0, .ref (p + 1), .ref (p + 2), .ref (p + 3), .ref (p + 4), .ref (p + 5), .null, .null, .null, .null, .null, .null] := by rw [zu_ne (by omega)]; exact f4p
  refine z_putF 7 (q := 56) d_mo_init_53 rfl fg_mo_26 ft_mo fk_mo_26 rfl fl_mo_26 (by first | assumption | omega) (by first | assumption | omega) (fun _ => rfl) (fun _ => rfl) (by simp) ?_
  refine Z.eqa (kc' := 6) (ks' := 5772) (n' := p + 7) (σ' := va_up (va_up V5 (p + 6) (zN 2352 z0_)) p (zO 5 [.int 0, .int 0, .ref (p + 1), .ref (p + 2), .ref (p + 3), .ref (p + 4), .ref (p + 5), .ref (p + 6), .null, .null, .null, .null, .null])) rfl rfl rfl rfl ?_
  generalize hV5 : va_up (va_up V5 (p + 6) (zN 2352 z0_)) p (zO 5 [.int 0, .int 0, .ref (p + 1), .ref (p + 2), .ref (p + 3), .ref (p + 4), .ref (p + 5), .ref (p + 6), .null, .null, .null, .null, .null]) = V6
  have f5p : V6 p = zO 5 [.int 0, .int 0, .ref (p + 1), .ref (p + 2), .ref (p + 3), .ref (p + 4), .ref (p + 5), .ref (p + 6), .null, .null, .null, .null, .null] := by rw [← hV5]; exact zu_same
  have f5_5 : V6 (p + 6) = zN 2352 z0_ := by rw [← hV5, zu_ne (by omega), zu_same]
  have f5_0 : V6 (p + 1) = zN 40 z0_ := by rw [← hV5, zu_ne (by omega), zu_ne (by omega)]; exact f4_0
  have f5_1 : V6 (p + 2) = zI 20 i0_ := by rw [← hV5, zu_ne (by omega), zu_ne (by omega)]; exact f4_1
  have f5_2 : V6 (p + 3) = zN 480 z0_ := by rw [← hV5, zu_ne (by omega), zu_ne (by omega)]; exact f4_2
  have f5_3 : V6 (p + 4) = zN 480 z0_ := by rw [← hV5, zu_ne (by omega), zu_ne (by omega)]; exact f4_3
  have f5_4 : V6 (p + 5) = zN 2400 z0_ := by rw [← hV5, zu_ne (by omega), zu_ne (by omega)]; exact f4_4
  have e5 : ∀ j, j ≠ p → j ≠ p + 1 → j ≠ p + 2 → j ≠ p + 3 → j ≠ p + 4 → j ≠ p + 5 → j ≠ p + 6 → V6 j = σ j := fun j q0 q1 q2 q3 q4 q5 q6 => by rw [← hV5, zu_ne q0, zu_ne q6]; exact e4 j q0 q1 q2 q3 q4 q5
  clear hV5 y5
  refine z_ald0 (q := 57) d_mo_init_56 rfl ?_
  refine z_bipush (v := nI 48) (q := 59) d_mo_init_57 rfl (by decide) ?_
  refine z_newi (q := 61) d_mo_init_59 rfl rfl tb_arrI (by decide) (by decide) (by decide) ?_
  have y6 : va_up V6 (p + 7) (zI 48 (fun _ => 0)) p = zO 5 [.int 0, .int 0, .ref (p + 1), .ref (p + 2), .ref (p + 3), .ref (p + 4), .ref (p + 5), .ref (p + 6), .null, .null, .null, .null, .null] := by rw [zu_ne (by omega)]; exact f5p
  refine z_putF 8 (q := 64) d_mo_init_61 rfl fg_mo_29 ft_mo fk_mo_29 rfl fl_mo_29 (by first | assumption | omega) (by first | assumption | omega) (fun _ => rfl) (fun _ => rfl) (by simp) ?_
  refine Z.eqa (kc' := 7) (ks' := 5820) (n' := p + 8) (σ' := va_up (va_up V6 (p + 7) (zI 48 i0_)) p (zO 5 [.int 0, .int 0, .ref (p + 1), .ref (p + 2), .ref (p + 3), .ref (p + 4), .ref (p + 5), .ref (p + 6), .ref (p + 7), .null, .null, .null, .null])) rfl rfl rfl rfl ?_
  generalize hV6 : va_up (va_up V6 (p + 7) (zI 48 i0_)) p (zO 5 [.int 0, .int 0, .ref (p + 1), .ref (p + 2), .ref (p + 3), .ref (p + 4), .ref (p + 5), .ref (p + 6), .ref (p + 7), .null, .null, .null, .null]) = V7
  have f6p : V7 p = zO 5 [.int 0, .int 0, .ref (p + 1), .ref (p + 2), .ref (p + 3), .ref (p + 4), .ref (p + 5), .ref (p + 6), .ref (p + 7), .null, .null, .null, .null] := by rw [← hV6]; exact zu_same
  have f6_6 : V7 (p + 7) = zI 48 i0_ := by rw [← hV6, zu_ne (by omega), zu_same]
  have f6_0 : V7 (p + 1) = zN 40 z0_ := by rw [← hV6, zu_ne (by omega), zu_ne (by omega)]; exact f5_0
  have f6_1 : V7 (p + 2) = zI 20 i0_ := by rw [← hV6, zu_ne (by omega), zu_ne (by omega)]; exact f5_1
  have f6_2 : V7 (p + 3) = zN 480 z0_ := by rw [← hV6, zu_ne (by omega), zu_ne (by omega)]; exact f5_2
  have f6_3 : V7 (p + 4) = zN 480 z0_ := by rw [← hV6, zu_ne (by omega), zu_ne (by omega)]; exact f5_3
  have f6_4 : V7 (p + 5) = zN 2400 z0_ := by rw [← hV6, zu_ne (by omega), zu_ne (by omega)]; exact f5_4
  have f6_5 : V7 (p + 6) = zN 2352 z0_ := by rw [← hV6, zu_ne (by omega), zu_ne (by omega)]; exact f5_5
  have e6 : ∀ j, j ≠ p → j ≠ p + 1 → j ≠ p + 2 → j ≠ p + 3 → j ≠ p + 4 → j ≠ p + 5 → j ≠ p + 6 → j ≠ p + 7 → V7 j = σ j := fun j q0 q1 q2 q3 q4 q5 q6 q7 => by rw [← hV6, zu_ne q0, zu_ne q7]; exact e5 j q0 q1 q2 q3 q4 q5 q6
  clear hV6 y6
  refine z_ald0 (q := 65) d_mo_init_64 rfl ?_
  refine z_sipush (v := nI 576) (q := 68) d_mo_init_65 rfl (by decide) ?_
  refine z_newl (q := 70) d_mo_init_68 rfl rfl tb_arrL (by decide) (by decide) (by decide) ?_
  have y7 : va_up V7 (p + 8) (zN 576 (fun _ => 0)) p = zO 5 [.int 0, .int 0, .ref (p + 1), .ref (p + 2), .ref (p + 3), .ref (p + 4), .ref (p + 5), .ref (p + 6), .ref (p + 7), .null, .null, .null, .null] := by rw [zu_ne (by omega)]; exact f6p
  refine z_putF 9 (q := 73) d_mo_init_70 rfl fg_mo_32 ft_mo fk_mo_32 rfl fl_mo_32 (by first | assumption | omega) (by first | assumption | omega) (fun _ => rfl) (fun _ => rfl) (by simp) ?_
  refine Z.eqa (kc' := 8) (ks' := 6396) (n' := p + 9) (σ' := va_up (va_up V7 (p + 8) (zN 576 z0_)) p (zO 5 [.int 0, .int 0, .ref (p + 1), .ref (p + 2), .ref (p + 3), .ref (p + 4), .ref (p + 5), .ref (p + 6), .ref (p + 7), .ref (p + 8), .null, .null, .null])) rfl rfl rfl rfl ?_
  generalize hV7 : va_up (va_up V7 (p + 8) (zN 576 z0_)) p (zO 5 [.int 0, .int 0, .ref (p + 1), .ref (p + 2), .ref (p + 3), .ref (p + 4), .ref (p + 5), .ref (p + 6), .ref (p + 7), .ref (p + 8), .null, .null, .null]) = V8
  have f7p : V8 p = zO 5 [.int 0, .int 0, .ref (p + 1), .ref (p + 2), .ref (p + 3), .ref (p + 4), .ref (p + 5), .ref (p + 6), .ref (p + 7), .ref (p + 8), .null, .null, .null] := by rw [← hV7]; exact zu_same
  have f7_7 : V8 (p + 8) = zN 576 z0_ := by rw [← hV7, zu_ne (by omega), zu_same]
  have f7_0 : V8 (p + 1) = zN 40 z0_ := by rw [← hV7, zu_ne (by omega), zu_ne (by omega)]; exact f6_0
  have f7_1 : V8 (p + 2) = zI 20 i0_ := by rw [← hV7, zu_ne (by omega), zu_ne (by omega)]; exact f6_1
  have f7_2 : V8 (p + 3) = zN 480 z0_ := by rw [← hV7, zu_ne (by omega), zu_ne (by omega)]; exact f6_2
  have f7_3 : V8 (p + 4) = zN 480 z0_ := by rw [← hV7, zu_ne (by omega), zu_ne (by omega)]; exact f6_3
  have f7_4 : V8 (p + 5) = zN 2400 z0_ := by rw [← hV7, zu_ne (by omega), zu_ne (by omega)]; exact f6_4
  have f7_5 : V8 (p + 6) = zN 2352 z0_ := by rw [← hV7, zu_ne (by omega), zu_ne (by omega)]; exact f6_5
  have f7_6 : V8 (p + 7) = zI 48 i0_ := by rw [← hV7, zu_ne (by omega), zu_ne (by omega)]; exact f6_6
  have e7 : ∀ j, j ≠ p → j ≠ p + 1 → j ≠ p + 2 → j ≠ p + 3 → j ≠ p + 4 → j ≠ p + 5 → j ≠ p + 6 → j ≠ p + 7 → j ≠ p + 8 → V8 j = σ j := fun j q0 q1 q2 q3 q4 q5 q6 q7 q8 => by rw [← hV7, zu_ne q0, zu_ne q8]; exact e6 j q0 q1 q2 q3 q4 q5 q6 q7
  clear hV7 y7
  refine z_ald0 (q := 74) d_mo_init_73 rfl ?_
  refine z_sipush (v := nI 576) (q := 77) d_mo_init_74 rfl (by decide) ?_
  refine z_newl (q := 79) d_mo_init_77 rfl rfl tb_arrL (by decide) (by decide) (by decide) ?_
  have y8 : va_up V8 (p + 9) (zN 576 (fun _ => 0)) p = zO 5 [.int 0, .int 0, .ref (p + 1), .ref (p + 2), .ref (p + 3), .ref (p + 4), .ref (p + 5), .ref (p + 6), .ref (p + 7), .ref (p + 8), .null, .null, .null] := by rw [zu_ne (by omega)]; exact f7p
  refine z_putF 10 (q := 82) d_mo_init_79 rfl fg_mo_35 ft_mo fk_mo_35 rfl fl_mo_35 (by first | assumption | omega) (by first | assumption | omega) (fun _ => rfl) (fun _ => rfl) (by simp) ?_
  refine Z.eqa (kc' := 9) (ks' := 6972) (n' := p + 10) (σ' := va_up (va_up V8 (p + 9) (zN 576 z0_)) p (zO 5 [.int 0, .int 0, .ref (p + 1), .ref (p + 2), .ref (p + 3), .ref (p + 4), .ref (p + 5), .ref (p + 6), .ref (p + 7), .ref (p + 8), .ref (p + 9), .null, .null])) rfl rfl rfl rfl ?_
  generalize hV8 : va_up (va_up V8 (p + 9) (zN 576 z0_)) p (zO 5 [.int 0, .int 0, .ref (p + 1), .ref (p + 2), .ref (p + 3), .ref (p + 4), .ref (p + 5), .ref (p + 6), .ref (p + 7), .ref (p + 8), .ref (p + 9), .null, .null]) = V9
  have f8p : V9 p = zO 5 [.int 0, .int 0, .ref (p + 1), .ref (p + 2), .ref (p + 3), .ref (p + 4), .ref (p + 5), .ref (p + 6), .ref (p + 7), .ref (p + 8), .ref (p + 9), .null, .null] := by rw [← hV8]; exact zu_same
  have f8_8 : V9 (p + 9) = zN 576 z0_ := by rw [← hV8, zu_ne (by omega), zu_same]
  have f8_0 : V9 (p + 1) = zN 40 z0_ := by rw [← hV8, zu_ne (by omega), zu_ne (by omega)]; exact f7_0
  have f8_1 : V9 (p + 2) = zI 20 i0_ := by rw [← hV8, zu_ne (by omega), zu_ne (by omega)]; exact f7_1
  have f8_2 : V9 (p + 3) = zN 480 z0_ := by rw [← hV8, zu_ne (by omega), zu_ne (by omega)]; exact f7_2
  have f8_3 : V9 (p + 4) = zN 480 z0_ := by rw [← hV8, zu_ne (by omega), zu_ne (by omega)]; exact f7_3
  have f8_4 : V9 (p + 5) = zN 2400 z0_ := by rw [← hV8, zu_ne (by omega), zu_ne (by omega)]; exact f7_4
  have f8_5 : V9 (p + 6) = zN 2352 z0_ := by rw [← hV8, zu_ne (by omega), zu_ne (by omega)]; exact f7_5
  have f8_6 : V9 (p + 7) = zI 48 i0_ := by rw [← hV8, zu_ne (by omega), zu_ne (by omega)]; exact f7_6
  have f8_7 : V9 (p + 8) = zN 576 z0_ := by rw [← hV8, zu_ne (by omega), zu_ne (by omega)]; exact f7_7
  have e8 : ∀ j, j ≠ p → j ≠ p + 1 → j ≠ p + 2 → j ≠ p + 3 → j ≠ p + 4 → j ≠ p + 5 → j ≠ p + 6 → j ≠ p + 7 → j ≠ p + 8 → j ≠ p + 9 → V9 j = σ j := fun j q0 q1 q2 q3 q4 q5 q6 q7 q8 q9 => by rw [← hV8, zu_ne q0, zu_ne q9]; exact e7 j q0 q1 q2 q3 q4 q5 q6 q7 q8
  clear hV8 y8
  refine z_ald0 (q := 83) d_mo_init_82 rfl ?_
  refine z_bipush (v := nI 24) (q := 85) d_mo_init_83 rfl (by decide) ?_
  refine z_newl (q := 87) d_mo_init_85 rfl rfl tb_arrL (by decide) (by decide) (by decide) ?_
  have y9 : va_up V9 (p + 10) (zN 24 (fun _ => 0)) p = zO 5 [.int 0, .int 0, .ref (p + 1), .ref (p + 2), .ref (p + 3), .ref (p + 4), .ref (p + 5), .ref (p + 6), .ref (p + 7), .ref (p + 8), .ref (p + 9), .null, .null] := by rw [zu_ne (by omega)]; exact f8p
  refine z_putF 11 (q := 90) d_mo_init_87 rfl fg_mo_38 ft_mo fk_mo_38 rfl fl_mo_38 (by first | assumption | omega) (by first | assumption | omega) (fun _ => rfl) (fun _ => rfl) (by simp) ?_
  refine Z.eqa (kc' := 10) (ks' := 6996) (n' := p + 11) (σ' := va_up (va_up V9 (p + 10) (zN 24 z0_)) p (zO 5 [.int 0, .int 0, .ref (p + 1), .ref (p + 2), .ref (p + 3), .ref (p + 4), .ref (p + 5), .ref (p + 6), .ref (p + 7), .ref (p + 8), .ref (p + 9), .ref (p + 10), .null])) rfl rfl rfl rfl ?_
  generalize hV9 : va_up (va_up V9 (p + 10) (zN 24 z0_)) p (zO 5 [.int 0, .int 0, .ref (p + 1), .ref (p + 2), .ref (p + 3), .ref (p + 4), .ref (p + 5), .ref (p + 6), .ref (p + 7), .ref (p + 8), .ref (p + 9), .ref (p + 10), .null]) = V10
  have f9p : V10 p = zO 5 [.int 0, .int 0, .ref (p + 1), .ref (p + 2), .ref (p + 3), .ref (p + 4), .ref (p + 5), .ref (p + 6), .ref (p + 7), .ref (p + 8), .ref (p + 9), .ref (p + 10), .null] := by rw [← hV9]; exact zu_same
  have f9_9 : V10 (p + 10) = zN 24 z0_ := by rw [← hV9, zu_ne (by omega), zu_same]
  have f9_0 : V10 (p + 1) = zN 40 z0_ := by rw [← hV9, zu_ne (by omega), zu_ne (by omega)]; exact f8_0
  have f9_1 : V10 (p + 2) = zI 20 i0_ := by rw [← hV9, zu_ne (by omega), zu_ne (by omega)]; exact f8_1
  have f9_2 : V10 (p + 3) = zN 480 z0_ := by rw [← hV9, zu_ne (by omega), zu_ne (by omega)]; exact f8_2
  have f9_3 : V10 (p + 4) = zN 480 z0_ := by rw [← hV9, zu_ne (by omega), zu_ne (by omega)]; exact f8_3
  have f9_4 : V10 (p + 5) = zN 2400 z0_ := by rw [← hV9, zu_ne (by omega), zu_ne (by omega)]; exact f8_4
  have f9_5 : V10 (p + 6) = zN 2352 z0_ := by rw [← hV9, zu_ne (by omega), zu_ne (by omega)]; exact f8_5
  have f9_6 : V10 (p + 7) = zI 48 i0_ := by rw [← hV9, zu_ne (by omega), zu_ne (by omega)]; exact f8_6
  have f9_7 : V10 (p + 8) = zN 576 z0_ := by rw [← hV9, zu_ne (by omega), zu_ne (by omega)]; exact f8_7
  have f9_8 : V10 (p + 9) = zN 576 z0_ := by rw [← hV9, zu_ne (by omega), zu_ne (by omega)]; exact f8_8
  have e9 : ∀ j, j ≠ p → j ≠ p + 1 → j ≠ p + 2 → j ≠ p + 3 → j ≠ p + 4 → j ≠ p + 5 → j ≠ p + 6 → j ≠ p + 7 → j ≠ p + 8 → j ≠ p + 9 → j ≠ p + 10 → V10 j = σ j := fun j q0 q1 q2 q3 q4 q5 q6 q7 q8 q9 q10 => by rw [← hV9, zu_ne q0, zu_ne q10]; exact e8 j q0 q1 q2 q3 q4 q5 q6 q7 q8 q9
  clear hV9 y9
  refine z_ald0 (q := 91) d_mo_init_90 rfl ?_
  refine z_bipush (v := nI 24) (q := 93) d_mo_init_91 rfl (by decide) ?_
  refine z_newl (q := 95) d_mo_init_93 rfl rfl tb_arrL (by decide) (by decide) (by decide) ?_
  have y10 : va_up V10 (p + 11) (zN 24 (fun _ => 0)) p = zO 5 [.int 0, .int 0, .ref (p + 1), .ref (p + 2), .ref (p + 3), .ref (p + 4), .ref (p + 5), .ref (p + 6), .ref (p + 7), .ref (p + 8), .ref (p + 9), .ref (p + 10), .null] := by rw [zu_ne (by omega)]; exact f9p
  refine z_putF 12 (q := 98) d_mo_init_95 rfl fg_mo_41 ft_mo fk_mo_41 rfl fl_mo_41 (by first | assumption | omega) (by first | assumption | omega) (fun _ => rfl) (fun _ => rfl) (by simp) ?_
  refine Z.eqa (kc' := 11) (ks' := 7020) (n' := p + 12) (σ' := va_up (va_up V10 (p + 11) (zN 24 z0_)) p (zO 5 [.int 0, .int 0, .ref (p + 1), .ref (p + 2), .ref (p + 3), .ref (p + 4), .ref (p + 5), .ref (p + 6), .ref (p + 7), .ref (p + 8), .ref (p + 9), .ref (p + 10), .ref (p + 11)])) rfl rfl rfl rfl ?_
  generalize hV10 : va_up (va_up V10 (p + 11) (zN 24 z0_)) p (zO 5 [.int 0, .int 0, .ref (p + 1), .ref (p + 2), .ref (p + 3), .ref (p + 4), .ref (p + 5), .ref (p + 6), .ref (p + 7), .ref (p + 8), .ref (p + 9), .ref (p + 10), .ref (p + 11)]) = V11
  have f10p : V11 p = zO 5 [.int 0, .int 0, .ref (p + 1), .ref (p + 2), .ref (p + 3), .ref (p + 4), .ref (p + 5), .ref (p + 6), .ref (p + 7), .ref (p + 8), .ref (p + 9), .ref (p + 10), .ref (p + 11)] := by rw [← hV10]; exact zu_same
  have f10_10 : V11 (p + 11) = zN 24 z0_ := by rw [← hV10, zu_ne (by omega), zu_same]
  have f10_0 : V11 (p + 1) = zN 40 z0_ := by rw [← hV10, zu_ne (by omega), zu_ne (by omega)]; exact f9_0
  have f10_1 : V11 (p + 2) = zI 20 i0_ := by rw [← hV10, zu_ne (by omega), zu_ne (by omega)]; exact f9_1
  have f10_2 : V11 (p + 3) = zN 480 z0_ := by rw [← hV10, zu_ne (by omega), zu_ne (by omega)]; exact f9_2
  have f10_3 : V11 (p + 4) = zN 480 z0_ := by rw [← hV10, zu_ne (by omega), zu_ne (by omega)]; exact f9_3
  have f10_4 : V11 (p + 5) = zN 2400 z0_ := by rw [← hV10, zu_ne (by omega), zu_ne (by omega)]; exact f9_4
  have f10_5 : V11 (p + 6) = zN 2352 z0_ := by rw [← hV10, zu_ne (by omega), zu_ne (by omega)]; exact f9_5
  have f10_6 : V11 (p + 7) = zI 48 i0_ := by rw [← hV10, zu_ne (by omega), zu_ne (by omega)]; exact f9_6
  have f10_7 : V11 (p + 8) = zN 576 z0_ := by rw [← hV10, zu_ne (by omega), zu_ne (by omega)]; exact f9_7
  have f10_8 : V11 (p + 9) = zN 576 z0_ := by rw [← hV10, zu_ne (by omega), zu_ne (by omega)]; exact f9_8
  have f10_9 : V11 (p + 10) = zN 24 z0_ := by rw [← hV10, zu_ne (by omega), zu_ne (by omega)]; exact f9_9
  have e10 : ∀ j, j ≠ p → j ≠ p + 1 → j ≠ p + 2 → j ≠ p + 3 → j ≠ p + 4 → j ≠ p + 5 → j ≠ p + 6 → j ≠ p + 7 → j ≠ p + 8 → j ≠ p + 9 → j ≠ p + 10 → j ≠ p + 11 → V11 j = σ j := fun j q0 q1 q2 q3 q4 q5 q6 q7 q8 q9 q10 q11 => by rw [← hV10, zu_ne q0, zu_ne q11]; exact e9 j q0 q1 q2 q3 q4 q5 q6 q7 q8 q9 q10
  clear hV10 y10
  exact z_vret d_mo_init_98 rfl (Nat.le_of_ble_eq_true rfl) (Nat.le_of_ble_eq_true rfl) (by rw [← hPo]; exact ⟨rfl, rfl, f10p, f10_0, f10_1, f10_2, f10_3, f10_4, f10_5, f10_6, f10_7, f10_8, f10_9, f10_10, e10⟩)

