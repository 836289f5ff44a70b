/-! Divider; shared of the class -/
/-- rows that end somewhere -/
def fn_ (f : Nat → FP) : Prop := ∃ k, sz_ f k
theorem fn_add {f g : Nat → FP} (hf : fn_ f) (hg : fn_ g) : fn_ (fun i => f i + g i) := by
  obtain ⟨a, ha⟩ := hf
  obtain ⟨b, hb⟩ := hg
  exact ⟨a + b, fun i hi => by show f i + g i = 0; rw [ha i (by omega), hb i (by omega)]; grind⟩
theorem fn_sub {f g : Nat → FP} (hf : fn_ f) (hg : fn_ g) : fn_ (fun i => f i - g i) := by
  obtain ⟨a, ha⟩ := hf
  obtain ⟨b, hb⟩ := hg
  exact ⟨a + b, fun i hi => by show f i - g i = 0; rw [ha i (by omega), hb i (by omega)]; grind⟩
theorem fn_cv {f g : Nat → FP} (hf : fn_ f) (hg : fn_ g) : fn_ (cv_ f g) := by
  obtain ⟨a, ha⟩ := hf
  obtain ⟨b, hb⟩ := hg
  exact ⟨a + b, sz_cv0 ha hb⟩
theorem fn_mo (m : Nat) (x : FP) : fn_ (mo_ m x) := ⟨m + 1, fun i hi => by unfold mo_; rw [if_neg (by omega)]⟩
theorem cv_addr (a b c : Nat → FP) (n : Nat) : cv_ c (fun i => a i + b i) n = cv_ c a n + cv_ c b n := by rw [cv_comm, cv_add, cv_comm, cv_comm b]
theorem cv_subr (a b c : Nat → FP) (n : Nat) : cv_ c (fun i => a i - b i) n = cv_ c a n - cv_ c b n := by rw [cv_comm, cv_sub, cv_comm, cv_comm b]
theorem cv_one (a : Nat → FP) (n : Nat) : cv_ (mo_ 0 1) a n = a n := by rw [mo_cv, if_pos (Nat.zero_le n), Nat.sub_zero]; grind
theorem cv_nul (a : Nat → FP) (n : Nat) : cv_ (mo_ 0 0) a n = 0 := by rw [mo_cv, if_pos (Nat.zero_le n)]; grind
/-- the two rows of Euclid's way are made of the first two, and these of them -/
def EU (pa pb L S : Nat → FP) : Prop := ∃ u v u' v' al be ga de : Nat → FP, (fn_ u ∧ fn_ v ∧ fn_ u' ∧ fn_ v' ∧ fn_ al ∧ fn_ be ∧ fn_ ga ∧ fn_ de) ∧ (∀ n, L n = cv_ u pa n + cv_ v pb n) ∧ (∀ n, S n = cv_ u' pa n + cv_ v' pb n) ∧ (∀ n, pa n = cv_ al L n + cv_ be S n) ∧ (∀ n, pb n = cv_ ga L n + cv_ de S n)
theorem EU.start (pa pb : Nat → FP) : EU pa pb pa pb :=
  ⟨mo_ 0 1, mo_ 0 0, mo_ 0 0, mo_ 0 1, mo_ 0 1, mo_ 0 0, mo_ 0 0, mo_ 0 1, ⟨fn_mo _ _, fn_mo _ _, fn_mo _ _, fn_mo _ _, fn_mo _ _, fn_mo _ _, fn_mo _ _, fn_mo _ _⟩, fun n => by rw [cv_one, cv_nul]; grind, fun n => by rw [cv_one, cv_nul]; grind, fun n => by rw [cv_one, cv_nul]; grind, fun n => by rw [cv_one, cv_nul]; grind⟩
theorem EU.step {pa pb L S R q : Nat → FP} (h : EU pa pb L S) (hq : fn_ q) (hR : ∀ n, R n = L n - cv_ q S n) : EU pa pb S R := by
  obtain ⟨u, v, u', v', al, be, ga, de, ⟨f1, f2, f3, f4, f5, f6, f7, f8⟩, e1, e2, e3, e4⟩ := h
  have eL : L = fun n => R n + cv_ q S n := funext (fun n => by rw [hR n]; grind)
  have eS : S = fun n => cv_ u' pa n + cv_ v' pb n := funext e2
  refine ⟨u', v', fun n => u n - cv_ q u' n, fun n => v n - cv_ q v' n, fun n => cv_ al q n + be n, al, fun n => cv_ ga q n + de n, ga, ⟨f3, f4, fn_sub f1 (fn_cv hq f3), fn_sub f2 (fn_cv hq f4), fn_add (fn_cv f5 hq) f6, f5, fn_add (fn_cv f7 hq) f8, f7⟩, e2, fun n => ?_, fun n => ?_, fun n => ?_⟩
  · rw [hR n, e1 n]
    have x1 : cv_ q S n = cv_ (cv_ q u') pa n + cv_ (cv_ q v') pb n := by rw [eS, cv_addr, cv_assoc, cv_assoc]
    rw [x1, cv_sub, cv_sub]
    grind
  · have x1 : cv_ al L n = cv_ al R n + cv_ (cv_ al q) S n := by
      have : cv_ al L n = cv_ al (fun n => R n + cv_ q S n) n := by rw [← eL]
      rw [this, cv_addr, cv_assoc]
    rw [e3 n, x1, cv_add]
    grind
  · have x1 : cv_ ga L n = cv_ ga R n + cv_ (cv_ ga q) S n := by
      have : cv_ ga L n = cv_ ga (fun n => R n + cv_ q S n) n := by rw [← eL]
      rw [this, cv_addr, cv_assoc]
    rw [e4 n, x1, cv_add]
    grind
/-- what two series share: the least common order -/
def shv (a b : Nat → FP) (r : Nat) : Prop := (∃ c : Nat → FP, ob r c a ∧ ob r c b) ∧ ∀ (r' : Nat) (c : Nat → FP), ob r' c a → ob r' c b → r ≤ r'
theorem EU.end {a b ca cb L S : Nat → FP} {ra rb d : Nat} (ha : lo_ a ra ca) (hb : lo_ b rb cb) (h : EU (pl_ ra ca) (pl_ rb cb) L S) (hS : ∀ n, S n = 0) (hL : sz_ L (d + 1)) (hL0 : L d ≠ 0) : d ≤ ra ∧ shv a b (ra + rb - d) := by
  obtain ⟨u, v, u', v', al, be, ga, de, ⟨⟨k1, f1⟩, ⟨k2, f2⟩, -, -, ⟨k5, f5⟩, -, ⟨k7, f7⟩, -⟩, e1, e2, e3, e4⟩ := h
  have z : ∀ (x : Nat → FP) (n : Nat), cv_ x S n = 0 := fun x n => sm_zero (fun i _ => by rw [hS]; grind)
  have := sh_ fp_inv (N := k1 + k2 + k5 + k7) ha hb hL hL0 (sz_mono f1 (by omega)) (sz_mono f2 (by omega)) (sz_mono f5 (by omega)) (sz_mono f7 (by omega)) e1 (fun n => by rw [e3 n, z]; grind) (fun n => by rw [e4 n, z]; grind)
  exact ⟨this.1, this.2⟩
/-- load -/
def dl_ (c : Nat → Nat) (o : Nat) (g : Nat → Nat) (x : Nat) : Nat → Nat := fun i => if i = o then 1 else if i < o ∧ o - 1 - i < x then (0 + 2147483647 - c (o - 1 - i)) % 2147483647 else g i
theorem dl_0 (c : Nat → Nat) (o : Nat) (g : Nat → Nat) : va_up g o 1 = dl_ c o g 0 := by
  funext j
  by_cases h : j = o
  · subst h; simp [va_up, dl_]
  · simp [va_up, dl_, h]
theorem dl_s (c : Nat → Nat) {o : Nat} (g : Nat → Nat) {x : Nat} (hx : x < o) : va_up (dl_ c o g x) (o - 1 - x) ((0 + 2147483647 - c x) % 2147483647) = dl_ c o g (x + 1) := by
  funext j
  unfold va_up dl_
  by_cases h : j = o - 1 - x
  · rw [if_pos h, if_neg (by omega), if_pos (by omega), show o - 1 - j = x by omega]
  · rw [if_neg h]
    by_cases h2 : j = o
    · rw [if_pos h2, if_pos h2]
    · rw [if_neg h2, if_neg h2]
      by_cases h3 : j < o ∧ o - 1 - j < x
      · rw [if_pos h3, if_pos (by omega)]
      · rw [if_neg h3, if_neg (by omega)]
theorem dl_lt {c : Nat → Nat} {o : Nat} {g : Nat → Nat} {x : Nat} (hg : ∀ i, g i < 2147483647) : ∀ i, dl_ c o g x i < 2147483647 := by
  intro i
  unfold dl_
  split
  · omega
  · split
    · exact Nat.mod_lt _ (by omega)
    · exact hg i
theorem dl_ph {c cf : Nat → Nat} {o : Nat} {g : Nat → Nat} (hc : ∀ i, c i < 2147483647) (hcf : ∀ i, i < o → c i = cf i) : ∀ i, i ≤ o → ph (dl_ c o g o i) = pl_ o (fun i => ph (cf i)) i := by
  intro i hi
  unfold dl_ pl_
  by_cases h : i = o
  · rw [if_pos h, if_neg (by omega), if_pos h, ph_1]
  · have := hc (o - 1 - i)
    rw [if_neg h, if_pos (by omega), if_pos (by omega), ph_mod, ph_sub (by omega), ph_add, ph_0, ph_P, hcf _ (by omega)]; grind
theorem ct_dvload {n : Nat} {σ : zWd} {p se ci ti o : Nat} {g c : Nat → Nat} (hp : σ p = zN 49 g) (hse : σ se = zO 1 [.int (nI o), .ref ci, .ref ti]) (hci : σ ci = zN 48 c) (gp : p < 18) (gse : 18 ≤ se) (gci : 18 ≤ ci) (bse : se < n) (bci : ci < n) (ho : o ≤ 48) (hc : ∀ i, c i < 2147483647) : Ct m_dv_load [.ref p, .ref se] n σ (zEq none n (va_up σ p (zN 49 (dl_ c o g o)))) := by
  refine Ct.of (lv := [some (.ref p), some (.ref se), none]) 1 (by decide) rfl (Nat.le_of_ble_eq_true rfl) ?_
  have loop : ∀ e x, x + e = o → Z m_dv_load (zEq none n (va_up σ p (zN 49 (dl_ c o g o)))) 0 0 n (va_up σ p (zN 49 (dl_ c o g x))) 9 [some (.ref p), some (.ref se), some (.int (nI x))] [] := by
    intro e
    induction e with
    | zero =>
      intro x hx
      obtain rfl : x = o := by omega
      have yse : va_up σ p (zN 49 (dl_ c x g x)) se = zO 1 [.int (nI x), .ref ci, .ref ti] := by rw [zu_ne (by omega)]; exact hse
      refine z_ild2 (q := 10) d_dv_load_9 rfl ?_
      refine z_ald1 (q := 11) d_dv_load_10 rfl ?_
      refine z_get 0 (q := 14) d_dv_load_11 rfl fg_dv_22 (by first | assumption | omega) (by first | assumption | omega) (by rfl) ?_
      refine zn_icmp_ge (q := 17) (tgt := 43) d_dv_load_14 rfl (by decide) (by omega) (by omega) (fun hb => ?_) (fun hb => ?_)
      · exact z_vret d_dv_load_43 rfl (Nat.le_refl _) (Nat.le_refl _) ⟨rfl, rfl, rfl⟩
      · exact absurd hb (by omega)
    | succ e ih =>
      intro x hx
      have yse : va_up σ p (zN 49 (dl_ c o g x)) se = zO 1 [.int (nI o), .ref ci, .ref ti] := by rw [zu_ne (by omega)]; exact hse
      have yci : va_up σ p (zN 49 (dl_ c o g x)) ci = zN 48 c := by rw [zu_ne (by omega)]; exact hci
      have yp : va_up σ p (zN 49 (dl_ c o g x)) p = zN 49 (dl_ c o g x) := zu_same
      refine z_ild2 (q := 10) d_dv_load_9 rfl ?_
      refine z_ald1 (q := 11) d_dv_load_10 rfl ?_
      refine z_get 0 (q := 14) d_dv_load_11 rfl fg_dv_22 (by first | assumption | omega) (by first | assumption | omega) (by rfl) ?_
      refine zn_icmp_ge (q := 17) (tgt := 43) d_dv_load_14 rfl (by decide) (by omega) (by omega) (fun hb => ?_) (fun hb => ?_)
      · exact absurd hb (by omega)
      · refine z_ald0 (q := 18) d_dv_load_17 rfl ?_
        refine z_ald1 (q := 19) d_dv_load_18 rfl ?_
        refine z_get 0 (q := 22) d_dv_load_19 rfl fg_dv_22 (by first | assumption | omega) (by first | assumption | omega) (by rfl) ?_
        refine z_iconst (v := nI 1) (q := 23) d_dv_load_22 rfl (by decide) ?_
        first | refine zn_isub (q := 24) d_dv_load_23 rfl (by omega) ?_ | refine z_isub (q := 24) d_dv_load_23 rfl ?_
        refine z_ild2 (q := 25) d_dv_load_24 rfl ?_
        first | refine zn_isub (q := 26) d_dv_load_25 rfl (by omega) ?_ | refine z_isub (q := 26) d_dv_load_25 rfl ?_
        refine z_lconst (v := lN 0) (q := 27) d_dv_load_26 rfl rfl ?_
        refine z_ald1 (q := 28) d_dv_load_27 rfl ?_
        refine z_get 1 (q := 31) d_dv_load_28 rfl fg_dv_32 (by first | assumption | omega) (by first | assumption | omega) (by rfl) ?_
        refine z_ild2 (q := 32) d_dv_load_31 rfl ?_
        refine z_laload (q := 33) d_dv_load_32 rfl (by first | assumption | omega) (by first | assumption | omega) (by omega) (by omega) ?_
        refine z_cS2 (q := 36) d_dv_load_33 rfl (ct_minus n _ (by omega) (hc x)) ck_nu_minus lk_dv_35 st_nu_minus ⟨by decide, by decide⟩ (Nat.le_of_ble_eq_true rfl) rfl rfl ?_
        refine z_lastore (q := 37) d_dv_load_36 rfl (by first | assumption | omega) (by first | assumption | omega) (by omega) (by omega) ?_
        refine zn_iinc2 (d := 1) (q := 40) d_dv_load_37 rfl rfl ?_
        refine z_goto (tgt := 9) d_dv_load_40 (by decide) ?_
        refine Z.eqw ?_ (ih (x + 1) (by omega))
        rw [zu_up, dl_s c g (by omega)]
  refine z_ald0 (q := 1) d_dv_load_0 rfl ?_
  refine z_ald1 (q := 2) d_dv_load_1 rfl ?_
  refine z_get 0 (q := 5) d_dv_load_2 rfl fg_dv_22 (by first | assumption | omega) (by first | assumption | omega) (by rfl) ?_
  refine z_lconst (v := lN 1) (q := 6) d_dv_load_5 rfl rfl ?_
  refine z_lastore (q := 7) d_dv_load_6 rfl (by first | assumption | omega) (by first | assumption | omega) (by omega) (by omega) ?_
  refine z_iconst (v := nI 0) (q := 8) d_dv_load_7 rfl (by decide) ?_
  refine z_ist2 (q := 9) d_dv_load_8 rfl rfl ?_
  refine Z.eqw ?_ (loop o 0 (by omega))
  rw [dl_0 c]
/-- reduce -/
def rd_ (L S : Nat → Nat) (f sh x : Nat) : Nat → Nat := fun j => if sh ≤ j ∧ j < sh + x then (L j + 2147483647 - f * S (j - sh) % 2147483647) % 2147483647 else L j
theorem rd_0 (L S : Nat → Nat) (f sh : Nat) : rd_ L S f sh 0 = L := by
  funext j
  unfold rd_
  rw [if_neg (by omega)]
theorem rd_at {L S : Nat → Nat} {f sh x : Nat} : rd_ L S f sh x (sh + x) = L (sh + x) := by
  unfold rd_
  rw [if_neg (by omega)]
theorem rd_s {L S : Nat → Nat} {f sh x : Nat} : va_up (rd_ L S f sh x) (sh + x) ((L (sh + x) + 2147483647 - f * S x % 2147483647) % 2147483647) = rd_ L S f sh (x + 1) := by
  funext j
  unfold va_up rd_
  by_cases h : j = sh + x
  · rw [if_pos h, if_pos (by omega), h, show sh + x - sh = x by omega]
  · rw [if_neg h]
    by_cases h2 : sh ≤ j ∧ j < sh + x
    · rw [if_pos h2, if_pos (by omega)]
    · rw [if_neg h2, if_neg (by omega)]
theorem rd_lt {L S : Nat → Nat} {f sh x : Nat} (hL : ∀ i, L i < 2147483647) : ∀ i, rd_ L S f sh x i < 2147483647 := by
  intro i
  unfold rd_
  split
  · exact Nat.mod_lt _ (by omega)
  · exact hL i
theorem rd_ph {L S : Nat → Nat} {f sd top ld : Nat} {LK SK : Nat → FP} (hL : ∀ i, i ≤ ld → ph (L i) = LK i) (hS : ∀ i, i ≤ sd → ph (S i) = SK i) (hS0 : sz_ SK (sd + 1)) (hLl : ∀ i, L i < 2147483647) (ht : sd ≤ top) (htl : top ≤ ld) : ∀ i, i ≤ ld → ph (rd_ L S f (top - sd) (sd + 1) i) = LK i - cv_ (mo_ (top - sd) (ph f)) SK i := by
  intro i hi
  rw [mo_cv]
  unfold rd_
  by_cases h : top - sd ≤ i
  · rw [if_pos h]
    by_cases h2 : i < top - sd + (sd + 1)
    · have hm : f * S (i - (top - sd)) % 2147483647 < 2147483647 := Nat.mod_lt _ (by omega)
      rw [if_pos ⟨h, h2⟩, ph_mod, ph_sub (by omega), ph_add, ph_P, ph_mod, ph_mul, hL i hi, hS _ (by omega)]; grind
    · rw [if_neg (by omega), hL i hi, hS0 (i - (top - sd)) (by omega)]; grind
  · rw [if_neg h, if_neg (by omega), hL i hi]; grind
theorem ct_reduce {n : Nat} {σ : zWd} {pl ps ld sd : Nat} {L S : Nat → Nat} {LK SK : Nat → FP} (hl : σ pl = zN 49 L) (hs : σ ps = zN 49 S) (hpl : pl < n) (hps : ps < n) (hne : pl ≠ ps) (hld : ld ≤ 48) (hsd : sd ≤ 48) (hLP : ∀ i, L i < 2147483647) (hSP : ∀ i, S i < 2147483647) (kL : ∀ i, i ≤ ld → ph (L i) = LK i) (kS : ∀ i, i ≤ sd → ph (S i) = SK i) (zL : sz_ LK (ld + 1)) (zS : sz_ SK (sd + 1)) (hS0 : SK sd ≠ 0) :
    Ct m_dv_reduce [.ref pl, .int (nI ld), .ref ps, .int (nI sd)] n σ (fun r n' σ' => n' = n ∧ ∃ (L' : Nat → Nat) (LK' q : Nat → FP), σ' = va_up σ pl (zN 49 L') ∧ (∀ i, L' i < 2147483647) ∧ (∀ i, i ≤ ld → ph (L' i) = LK' i) ∧ fn_ q ∧ (∀ i, LK' i = LK i - cv_ q SK i) ∧ (sd ≤ ld → sz_ LK' sd) ∧ sz_ LK' (ld + 1) ∧ ((∃ t, t ≤ ld ∧ r = some (.int (nI t)) ∧ LK' t ≠ 0 ∧ sz_ LK' (t + 1)) ∨ ((∀ i, LK' i = 0) ∧ r = some (.int (-1))))) := by
  refine Ct.of (lv := [some (.ref pl), some (.int (nI ld)), some (.ref ps), some (.int (nI sd)), none, none, none, none, none, none, none]) 7 (by decide) rfl (Nat.le_of_ble_eq_true rfl) ?_
  generalize hPo : (fun (r : Option Value) (n' : Nat) (σ' : zWd) => n' = n ∧ ∃ (L' : Nat → Nat) (LK' q : Nat → FP), σ' = va_up σ pl (zN 49 L') ∧ (∀ i, L' i < 2147483647) ∧ (∀ i, i ≤ ld → ph (L' i) = LK' i) ∧ fn_ q ∧ (∀ i, LK' i = LK i - cv_ q SK i) ∧ (sd ≤ ld → sz_ LK' sd) ∧ sz_ LK' (ld + 1) ∧ ((∃ t, t ≤ ld ∧ r = some (.int (nI t)) ∧ LK' t ≠ 0 ∧ sz_ LK' (t + 1)) ∨ ((∀ i, LK' i = 0) ∧ r = some (.int (-1))))) = Po
  have hSsd := hSP sd
  have hinv : ph (S sd) * ph (in_ (S sd)) = 1 := in_ph (by rw [kS sd (Nat.le_refl _)]; exact hS0)
  generalize hiv : in_ (S sd) = iv at hinv
  have hivP : iv < 2147483647 := by rw [← hiv]; exact in_lt _
  have hct : Ct m_nu_inverse [.long (lN (S sd))] n σ (zEq (some (.long (lN iv))) n σ) := by rw [← hiv]; exact ct_inverse n σ (hSP sd)
  clear hiv
  -- the scan for the degree
  have scan : ∀ (L' : Nat → Nat) (LK' q : Nat → FP) (t7 t8 t9 t10 : Option Value), (∀ i, L' i < 2147483647) → (∀ i, i ≤ ld → ph (L' i) = LK' i) → fn_ q → (∀ i, LK' i = LK i - cv_ q SK i) → (sd ≤ ld → sz_ LK' sd) → ∀ t, t ≤ ld + 1 → sz_ LK' t → ∀ v : Int32, (t = 0 → v = -1) → (t ≠ 0 → v = nI (t - 1)) → Z m_dv_reduce Po 0 0 n (va_up σ pl (zN 49 L')) 84 [some (.ref pl), some (.int (nI ld)), some (.ref ps), some (.int (nI sd)), some (.long (lN iv)), none, some (.int v), t7, t8, t9, t10] [] := by
    intro L' LK' q t7 t8 t9 t10 hL' kL' hq hLK hsz t
    induction t with
    | zero =>
      intro _ hz v hv _
      rw [hv rfl]
      refine z_ild6 (q := 86) d_dv_reduce_84 rfl ?_
      refine z_if_lt (q := 89) (tgt := 104) d_dv_reduce_86 rfl (by decide) (fun _ => ?_) (fun hb => absurd (show (-1 : Int32) < 0 by decide) hb)
      refine z_ild6 (q := 106) d_dv_reduce_104 rfl ?_
      refine z_iret d_dv_reduce_106 rfl (Nat.le_refl _) (Nat.le_refl _) ?_
      rw [← hPo]
      exact ⟨rfl, L', LK', q, rfl, hL', kL', hq, hLK, hsz, fun i hi => hz i (Nat.zero_le i), Or.inr ⟨fun i => hz i (Nat.zero_le i), rfl⟩⟩
    | succ t ih =>
      intro ht hz v _ hv
      rw [hv (by omega), show t + 1 - 1 = t by omega]
      have y1 : va_up σ pl (zN 49 L') pl = zN 49 L' := zu_same
      have q1 := hL' t
      refine z_ild6 (q := 86) d_dv_reduce_84 rfl ?_
      refine zi_if_lt (q := 89) (tgt := 104) d_dv_reduce_86 rfl (by decide) (by omega) ?_
      refine z_ald0 (q := 90) d_dv_reduce_89 rfl ?_
      refine z_ild6 (q := 92) d_dv_reduce_90 rfl ?_
      refine z_laload (q := 93) d_dv_reduce_92 rfl (by first | assumption | omega) (by first | assumption | omega) (by omega) (by omega) ?_
      refine z_lconst (v := lN 0) (q := 94) d_dv_reduce_93 rfl rfl ?_
      refine z_lcmp (q := 95) d_dv_reduce_94 rfl ?_
      refine zc_if_ne (q := 98) (tgt := 104) d_dv_reduce_95 rfl (by decide) (by omega) (by omega) (fun hb => ?_) (fun hb => ?_)
      · refine z_ild6 (q := 106) d_dv_reduce_104 rfl ?_
        refine z_iret d_dv_reduce_106 rfl (Nat.le_refl _) (Nat.le_refl _) ?_
        rw [← hPo]
        refine ⟨rfl, L', LK', q, rfl, hL', kL', hq, hLK, hsz, sz_mono hz (by omega), Or.inl ⟨t, by omega, rfl, fun h0 => hb ?_, hz⟩⟩
        rw [← kL' t (by omega)] at h0
        exact (ph_eq q1 (by omega)).mp (h0.trans ph_0.symm)
      · have hz' : sz_ LK' t := fun i hi => by
          by_cases hit : i = t
          · rw [hit, ← kL' t (by omega), hb, ph_0]
          · exact hz i (by omega)
        refine z_iinc (q := 101) d_dv_reduce_98 rfl rfl (by simp) rfl rfl ?_
        refine z_goto (tgt := 84) d_dv_reduce_101 (by decide) ?_
        refine ih (by omega) hz' _ (fun h0 => by rw [h0]; decide) (fun h0 => ?_)
        have := pk_m1 (t - 1)
        rw [show t - 1 + 1 = t by omega] at this
        exact this
  -- the outer loop
  have loop : ∀ (e : Nat) (v : Int32) (L' : Nat → Nat) (LK' q : Nat → FP) (t7 t8 t9 t10 : Option Value), sd + e ≤ ld + 1 ∨ e = 0 → (e = 0 → v < nI sd) → (e ≠ 0 → v = nI (sd + e - 1)) → (∀ i, L' i < 2147483647) → (∀ i, i ≤ ld → ph (L' i) = LK' i) → fn_ q → (∀ i, LK' i = LK i - cv_ q SK i) → (sd ≤ ld → sz_ LK' (sd + e)) → sz_ LK' (ld + 1) → Z m_dv_reduce Po 0 0 n (va_up σ pl (zN 49 L')) 11 [some (.ref pl), some (.int (nI ld)), some (.ref ps), some (.int (nI sd)), some (.long (lN iv)), none, some (.int v), t7, t8, t9, t10] [] := by
    intro e
    induction e with
    | zero =>
      intro v L' LK' q t7 t8 t9 t10 _ hv _ hL' kL' hq hLK hsz hszl
      refine z_ild6 (q := 13) d_dv_reduce_11 rfl ?_
      refine z_ild3 (q := 14) d_dv_reduce_13 rfl ?_
      refine z_icmp_lt (q := 17) (tgt := 81) d_dv_reduce_14 rfl (by decide) (fun _ => ?_) (fun hb => absurd (hv rfl) hb)
      refine z_ild1 (q := 82) d_dv_reduce_81 rfl ?_
      refine z_ist6 (q := 84) d_dv_reduce_82 rfl rfl ?_
      exact scan L' LK' q _ _ _ _ hL' kL' hq hLK hsz (ld + 1) (Nat.le_refl _) hszl _ (fun h => by omega) (fun _ => by rw [show ld + 1 - 1 = ld by omega])
    | succ e ih =>
      intro v L' LK' q t7 t8 t9 t10 he _ hv hL' kL' hq hLK hsz hszl
      have he : sd + e ≤ ld := by omega
      rw [hv (by omega), show sd + (e + 1) - 1 = sd + e by omega]
      have y1 : va_up σ pl (zN 49 L') pl = zN 49 L' := zu_same
      refine z_ild6 (q := 13) d_dv_reduce_11 rfl ?_
      refine z_ild3 (q := 14) d_dv_reduce_13 rfl ?_
      refine zn_icmp_lt (q := 17) (tgt := 81) d_dv_reduce_14 rfl (by decide) (by omega) (by omega) (fun hb => ?_) (fun hb => ?_)
      · exact absurd hb (by omega)
      · refine z_ald0 (q := 18) d_dv_reduce_17 rfl ?_
        refine z_ild6 (q := 20) d_dv_reduce_18 rfl ?_
        refine z_laload (q := 21) d_dv_reduce_20 rfl (by first | assumption | omega) (by first | assumption | omega) (by omega) (by omega) ?_
        refine z_lld4 (q := 23) d_dv_reduce_21 rfl ?_
        refine z_cS2 (q := 26) d_dv_reduce_23 rfl (ct_times n _ (hL' (sd + e)) hivP) ck_nu_times lk_dv_45 st_nu_times ⟨by decide, by decide⟩ (Nat.le_of_ble_eq_true rfl) rfl rfl ?_
        generalize hf : L' (sd + e) * iv % 2147483647 = f
        have hfP : f < 2147483647 := by rw [← hf]; exact Nat.mod_lt _ (by omega)
        have hfph : ph f = LK' (sd + e) * ph iv := by rw [← hf, ph_mod, ph_mul, kL' _ he]
        refine z_lst7 (q := 28) d_dv_reduce_26 rfl rfl ?_
        refine z_ild6 (q := 30) d_dv_reduce_28 rfl ?_
        refine z_ild3 (q := 31) d_dv_reduce_30 rfl ?_
        first | refine zn_isub (q := 32) d_dv_reduce_31 rfl (by omega) ?_ | refine z_isub (q := 32) d_dv_reduce_31 rfl ?_
        refine z_ist9 (q := 34) d_dv_reduce_32 rfl rfl ?_
        refine z_iconst (v := nI 0) (q := 35) d_dv_reduce_34 rfl (by decide) ?_
        refine z_ist10 (q := 37) d_dv_reduce_35 rfl rfl ?_
        have inner : ∀ e2 x, x + e2 = sd + 1 → Z m_dv_reduce Po 0 0 n (va_up σ pl (zN 49 (rd_ L' S f (sd + e - sd) x))) 37 [some (.ref pl), some (.int (nI ld)), some (.ref ps), some (.int (nI sd)), some (.long (lN iv)), none, some (.int (nI (sd + e))), some (.long (lN f)), none, some (.int (nI (sd + e - sd))), some (.int (nI x))] [] := by
          intro e2
          induction e2 with
          | zero =>
            intro x hx
            obtain rfl : x = sd + 1 := by omega
            refine z_ild10 (q := 39) d_dv_reduce_37 rfl ?_
            refine z_ild3 (q := 40) d_dv_reduce_39 rfl ?_
            refine zn_icmp_gt (q := 43) (tgt := 75) d_dv_reduce_40 rfl (by decide) (by omega) (by omega) (fun hb => ?_) (fun hb => ?_)
            · refine z_iinc (q := 78) d_dv_reduce_75 rfl rfl (by simp) rfl rfl ?_
              refine z_goto (tgt := 11) d_dv_reduce_78 (by decide) ?_
              have krd := rd_ph (f := f) kL' kS zS hL' (show sd ≤ sd + e by omega) he
              refine ih _ _ (fun i => LK' i - cv_ (mo_ (sd + e - sd) (ph f)) SK i) (fun i => q i + mo_ (sd + e - sd) (ph f) i) _ _ _ _ (by omega) (fun h0 => ?_) (fun h0 => ?_) (rd_lt hL') krd (fn_add hq (fn_mo _ _)) (fun i => ?_) (fun hle i hi => ?_) (fun i hi => ?_)
              · rw [h0, Nat.add_zero]
                have e1 : (nI sd).toInt = (sd : Int) := nI_toInt (by omega)
                have e2 : (Int32.ofInt (-1)).toInt = -1 := by decide
                rw [Int32.lt_iff_toInt_lt, Jvm.Kit.i32_add (by rw [e1, e2]; omega) (by rw [e1, e2]; omega), e1, e2]
                omega
              · have := pk_m1 (sd + e - 1)
                rw [show sd + e - 1 + 1 = sd + e by omega] at this
                exact this
              · show LK' i - cv_ (mo_ (sd + e - sd) (ph f)) SK i = LK i - cv_ (fun i => q i + mo_ (sd + e - sd) (ph f) i) SK i
                rw [hLK i, cv_add]
                grind
              · show LK' i - cv_ (mo_ (sd + e - sd) (ph f)) SK i = 0
                rw [mo_cv, if_pos (by omega)]
                by_cases hie : i = sd + e
                · rw [hie, show sd + e - (sd + e - sd) = sd by omega, hfph, ← kS sd (Nat.le_refl _)]
                  grind
                · rw [hsz hle i (by omega), zS (i - (sd + e - sd)) (by omega)]
                  grind
              · show LK' i - cv_ (mo_ (sd + e - sd) (ph f)) SK i = 0
                rw [mo_cv, if_pos (by omega), hszl i hi, zS (i - (sd + e - sd)) (by omega)]
                grind
            · exact absurd hb (by omega)
          | succ e2 ih2 =>
            intro x hx
            have z1 : va_up σ pl (zN 49 (rd_ L' S f (sd + e - sd) x)) pl = zN 49 (rd_ L' S f (sd + e - sd) x) := zu_same
            have z2 : va_up σ pl (zN 49 (rd_ L' S f (sd + e - sd) x)) ps = zN 49 S := by rw [zu_ne (Ne.symm hne)]; exact hs
            refine z_ild10 (q := 39) d_dv_reduce_37 rfl ?_
            refine z_ild3 (q := 40) d_dv_reduce_39 rfl ?_
            refine zn_icmp_gt (q := 43) (tgt := 75) d_dv_reduce_40 rfl (by decide) (by omega) (by omega) (fun hb => ?_) (fun hb => ?_)
            · exact absurd hb (by omega)
            · refine z_ald0 (q := 44) d_dv_reduce_43 rfl ?_
              refine z_ild9 (q := 46) d_dv_reduce_44 rfl ?_
              refine z_ild10 (q := 48) d_dv_reduce_46 rfl ?_
              first | refine zn_iadd (q := 49) d_dv_reduce_48 rfl ?_ | refine z_iadd (q := 49) d_dv_reduce_48 rfl ?_
              refine z_ald0 (q := 50) d_dv_reduce_49 rfl ?_
              refine z_ild9 (q := 52) d_dv_reduce_50 rfl ?_
              refine z_ild10 (q := 54) d_dv_reduce_52 rfl ?_
              first | refine zn_iadd (q := 55) d_dv_reduce_54 rfl ?_ | refine z_iadd (q := 55) d_dv_reduce_54 rfl ?_
              refine z_laload (q := 56) d_dv_reduce_55 rfl (by first | assumption | omega) (by first | assumption | omega) (by omega) (by omega) ?_
              refine z_lld7 (q := 58) d_dv_reduce_56 rfl ?_
              refine z_ald2 (q := 59) d_dv_reduce_58 rfl ?_
              refine z_ild10 (q := 61) d_dv_reduce_59 rfl ?_
              refine z_laload (q := 62) d_dv_reduce_61 rfl (by first | assumption | omega) (by first | assumption | omega) (by omega) (by omega) ?_
              refine z_cS2 (q := 65) d_dv_reduce_62 rfl (ct_times n _ hfP (hSP x)) ck_nu_times lk_dv_45 st_nu_times ⟨by decide, by decide⟩ (Nat.le_of_ble_eq_true rfl) rfl rfl ?_
              refine z_cS2 (q := 68) d_dv_reduce_65 rfl (ct_minus n _ (rd_lt hL' _) (Nat.mod_lt _ (by omega))) ck_nu_minus lk_dv_35 st_nu_minus ⟨by decide, by decide⟩ (Nat.le_of_ble_eq_true rfl) rfl rfl ?_
              rw [rd_at]
              refine z_lastore (q := 69) d_dv_reduce_68 rfl (by first | assumption | omega) (by first | assumption | omega) (by omega) (by omega) ?_
              refine zn_iinc10 (d := 1) (q := 72) d_dv_reduce_69 rfl rfl ?_
              refine z_goto (tgt := 37) d_dv_reduce_72 (by decide) ?_
              refine Z.eqw ?_ (ih2 (x + 1) (by omega))
              rw [zu_up, rd_s]
        exact Z.eqw (by rw [rd_0]) (inner (sd + 1) 0 (by omega))
  refine z_ald2 (q := 1) d_dv_reduce_0 rfl ?_
  refine z_ild3 (q := 2) d_dv_reduce_1 rfl ?_
  refine z_laload (q := 3) d_dv_reduce_2 rfl (by first | assumption | omega) (by first | assumption | omega) (by omega) (by omega) ?_
  refine z_cS1 (q := 6) d_dv_reduce_3 rfl (hct) ck_nu_inverse lk_dv_41 st_nu_inverse ⟨by decide, by decide⟩ (Nat.le_of_ble_eq_true rfl) rfl rfl ?_
  refine z_lst4 (q := 8) d_dv_reduce_6 rfl rfl ?_
  refine z_ild1 (q := 9) d_dv_reduce_8 rfl ?_
  refine z_ist6 (q := 11) d_dv_reduce_9 rfl rfl ?_
  refine Z.eqw (zu_id hl) ?_
  by_cases hle : sd ≤ ld
  · exact loop (ld + 1 - sd) (nI ld) L LK (mo_ 0 0) _ _ _ _ (by omega) (fun h => by omega) (fun _ => by rw [show sd + (ld + 1 - sd) - 1 = ld by omega]) hLP kL (fn_mo _ _) (fun i => by rw [cv_nul]; grind) (fun _ => by rw [show sd + (ld + 1 - sd) = ld + 1 by omega]; exact zL) zL
  · exact loop 0 (nI ld) L LK (mo_ 0 0) _ _ _ _ (by omega) (fun _ => nI_lt (by omega) (by omega)) (fun h => absurd rfl h) hLP kL (fn_mo _ _) (fun i => by rw [cv_nul]; grind) (fun h => absurd h hle) zL

