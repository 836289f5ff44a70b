section ZW
variable {M : zMI} {Po : Option Value → Nat → zWd → Prop} {kc ks n pc q : Nat} {σ : zWd} {lv : List (Option Value)} {st : List Value}

theorem zw_N {b : Nat} {G : Nat → ClassId} {i N : Nat} {g : Nat → Nat} (hs : σ i = zN N g) (hi : i < n) : (zw b G n σ)[i]? = some (b + i, .inl (G 1, N, .inr (.inl fun j => lN (g j)))) := by rw [zw_at hi, hs, ze_N]
theorem zw_I {b : Nat} {G : Nat → ClassId} {i N : Nat} {f : Nat → Int32} (hs : σ i = zI N f) (hi : i < n) : (zw b G n σ)[i]? = some (b + i, .inl (G 0, N, .inl f)) := by rw [zw_at hi, hs, ze_I]
theorem zw_R {b : Nat} {G : Nat → ClassId} {i N : Nat} {f : Nat → Option Nat} (hs : σ i = zR N f) (hi : i < n) : (zw b G n σ)[i]? = some (b + i, .inl (G 2, N, .inr (.inr (.inr (.inr (fun j => (f j).map (b + ·))))))) := by rw [zw_at hi, hs, ze_R]
theorem zw_O {b : Nat} {G : Nat → ClassId} {i c : Nat} {fs : List Value} (hs : σ i = zO c fs) (hi : i < n) : (zw b G n σ)[i]? = some (b + i, .inr (c, fs.map (zv b))) := by rw [zw_at hi, hs, ze_O]
theorem z_laload {i j N : Nat} {g : Nat → Nat} (hd : decode (mB M) pc = .ok (.laload, 1)) (hq : pc + 1 = q) (hs : σ i = zN N g) (hi : i < n) (hj : j < N) (hN : N < 2 ^ 31) (k : Z M Po kc ks n σ q lv (.long (lN (g j)) :: st)) : Z M Po kc ks n σ pc lv (.int (nI j) :: .ref i :: st) := by
  subst hq; intro p l e s m args below meth c b G D hC H locs ls hz hP hS hl
  refine va_lald hC.1 hC.2.1 hC.k hP i 1 (zw_N hs hi) rfl (vp_in_nI hj hN) hd ?_
  rw [nI_clamp (by omega)]
  exact k p l e s m args below meth c b G D hC H locs ls hz hP hS hl
theorem z_iaload {i j N : Nat} {f : Nat → Int32} (hd : decode (mB M) pc = .ok (.iaload, 1)) (hq : pc + 1 = q) (hs : σ i = zI N f) (hi : i < n) (hj : j < N) (hN : N < 2 ^ 31) (k : Z M Po kc ks n σ q lv (.int (f j) :: st)) : Z M Po kc ks n σ pc lv (.int (nI j) :: .ref i :: st) := by
  subst hq; intro p l e s m args below meth c b G D hC H locs ls hz hP hS hl
  refine va_iald hC.1 hC.2.1 hC.k hP i 0 (zw_I hs hi) rfl (vp_in_nI hj hN) hd ?_
  rw [nI_clamp (by omega)]
  exact k p l e s m args below meth c b G D hC H locs ls hz hP hS hl
theorem z_aaload {i j N a : Nat} {f : Nat → Option Nat} (hd : decode (mB M) pc = .ok (.aaload, 1)) (hq : pc + 1 = q) (hs : σ i = zR N f) (hi : i < n) (hj : j < N) (hN : N < 2 ^ 31) (ha : f j = some a) (k : Z M Po kc ks n σ q lv (.ref a :: st)) : Z M Po kc ks n σ pc lv (.int (nI j) :: .ref i :: st) := by
  subst hq; intro p l e s m args below meth c b G D hC H locs ls hz hP hS hl
  refine va_aldq hC.1 hC.2.1 hC.k hP i 2 (zw_R hs hi) rfl (vp_in_nI hj hN) hd ?_
  rw [nI_clamp (by omega), ha]
  exact k p l e s m args below meth c b G D hC H locs ls hz hP hS hl
theorem z_lastore {i j N x : Nat} {g : Nat → Nat} (hd : decode (mB M) pc = .ok (.lastore, 1)) (hq : pc + 1 = q) (hs : σ i = zN N g) (hi : i < n) (hj : j < N) (hN : N < 2 ^ 31) (k : Z M Po kc ks n (va_up σ i (zN N (va_up g j x))) q lv st) : Z M Po kc ks n σ pc lv (.long (lN x) :: .int (nI j) :: .ref i :: st) := by
  subst hq; intro p l e s m args below meth c b G D hC H locs ls hz hP hS hl
  have ha := zw_N (b := b) (G := G) hs hi
  have hin : vp_in (nI j) N := vp_in_nI hj hN
  refine W.last hC.1 hC.2.1 (hP i _ ha) ((hC.k.2 1 _ rfl).1 N (fun j => .long (lN (g j)))) (fun q => by cases q) (by show ¬ (nI j < 0 ∨ (arrV _ _ _).slots.size ≤ _); rw [arrV_size]; exact hin) rfl rfl hd fun H1 e1 z oq => ?_
  have hP1 : va_P D zCl (zw b G n (va_up σ i (zN N (va_up g j x)))) H1 := by
    rw [← zw_set, ze_N]
    refine hP.set zw_D ha ?_ oq
    show H1[b + i]? = some (vp_cell _ _)
    rw [e1, vp_cell_l, vp_cell_l, arrV_store, nI_clamp (by omega)]
    congr 2
    funext t
    by_cases ht : t = j
    · subst ht; simp [updV, va_up]
    · simp [updV, va_up, ht]
  exact k p l e s m args below meth c b G D hC H1 _ ls (z.trans hz) hP1 (hS.put z oq (Nat.le_add_right b i)) hl
theorem z_iastore {i j N : Nat} {x : Int32} {f : Nat → Int32} (hd : decode (mB M) pc = .ok (.iastore, 1)) (hq : pc + 1 = q) (hs : σ i = zI N f) (hi : i < n) (hj : j < N) (hN : N < 2 ^ 31) (k : Z M Po kc ks n (va_up σ i (zI N (va_up f j x))) q lv st) : Z M Po kc ks n σ pc lv (.int x :: .int (nI j) :: .ref i :: st) := by
  subst hq; intro p l e s m args below meth c b G D hC H locs ls hz hP hS hl
  have ha := zw_I (b := b) (G := G) hs hi
  have hin : vp_in (nI j) N := vp_in_nI hj hN
  refine W.iast hC.1 hC.2.1 (hP i _ ha) ((hC.k.2 0 _ rfl).1 N (fun j => .int (f j))) (fun q => by cases q) (by show ¬ (nI j < 0 ∨ (arrV _ _ _).slots.size ≤ _); rw [arrV_size]; exact hin) rfl rfl hd fun H1 e1 z oq => ?_
  have hP1 : va_P D zCl (zw b G n (va_up σ i (zI N (va_up f j x)))) H1 := by
    rw [← zw_set, ze_I]
    refine hP.set zw_D ha ?_ oq
    show H1[b + i]? = some (vp_cell _ _)
    rw [e1, vp_cell_i, vp_cell_i, arrV_store, nI_clamp (by omega)]
    congr 2
    funext t
    by_cases ht : t = j
    · subst ht; simp [updV, va_up]
    · simp [updV, va_up, ht]
  exact k p l e s m args below meth c b G D hC H1 _ ls (z.trans hz) hP1 (hS.put z oq (Nat.le_add_right b i)) hl
theorem z_aastore {i j N a ci : Nat} {fs : List Value} {r : vw_C} {f : Nat → Option Nat} (hd : decode (mB M) pc = .ok (.aastore, 1)) (hq : pc + 1 = q) (hs : σ i = zR N f) (hi : i < n) (hj : j < N) (hN : N < 2 ^ 31) (hv : σ a = zO ci fs) (han : a < n) (hc : zCl[ci]? = some r) (hr : r.1 = "RecurrentSeries$Series") (k : Z M Po kc ks n (va_up σ i (zR N (va_up f j (some a)))) q lv st) : Z M Po kc ks n σ pc lv (.ref a :: .int (nI j) :: .ref i :: st) := by
  subst hq; intro p l e s m args below meth c b G D hC H locs ls hz hP hS hl
  have ha := zw_R (b := b) (G := G) hs hi
  have hK := hC.k
  obtain ⟨r', hr', cellV, g1, g2, g3, -⟩ := hP a _ (zw_O (b := b) (G := G) hv han)
  have hcls := (hK.1 ci r hc).2
  obtain ⟨kA, comp, k1, k2, k3, -⟩ := (hK.2 2 _ rfl).2
  rw [hr] at hcls
  have hcomp : comp = D.1 ci := Option.some.inj (k3.symm.trans hcls.1)
  subst hcomp
  obtain ⟨kC, hkC, -⟩ := hcls.2
  have h0 : ¬ nI j < 0 := nI_pos (by omega)
  refine W.aast hC.1 hC.2.1 (hP i _ ha) (fun q h => by cases h) (fun h => by cases h) k1 k2 rfl hkC ⟨h0, by show _ < (arrV _ _ _).slots.size; rw [arrV_size, nI_clamp (by omega)]; exact hj⟩ g1 (fun q h => by rw [g3] at h; cases h) (by rw [g2]; exact hkC) (by rw [g2]; exact va_assign hcls) rfl rfl hd fun H1 e1 z oq => ?_
  have hP1 : va_P D zCl (zw b G n (va_up σ i (zR N (va_up f j (some a))))) H1 := by
    rw [← zw_set, ze_R]
    refine hP.set zw_D ha ?_ oq
    show H1[b + i]? = some (vp_cell _ _)
    rw [e1, vp_cell_q, vp_cell_q, arrV_store, nI_clamp (by omega)]
    congr 2
    funext t
    by_cases ht : t = j
    · subst ht; simp [updV, va_up, va_rf]
    · simp [updV, va_up, ht]
  exact k p l e s m args below meth c b G D hC H1 _ ls (z.trans hz) hP1 (hS.put z oq (Nat.le_add_right b i)) hl
/-- what the tables say of a field that is read, written, or written once -/
def zFG (own : String) (idx ci fi : Nat) : Prop := ∃ (C : String) (T : u_T) (N : Nat), zCl[ci]? = some (C, T, N) ∧ fi < N ∧ (∀ w ∈ u_ws C T N, w ∈ TB) ∧ (Cond.fieldLink own idx (T fi).1 (T fi).2.1 (T fi).2.2.1 ∈ TB ∨ ∃ host : String, Cond.fieldLinkNest own idx (T fi).1 (T fi).2.1 (T fi).2.2.1 host ∈ NB)
def zFT (ci : Nat) : Prop := ∃ (C : String) (T : u_T) (N : Nat) (ty : Nat → FieldType), zCl[ci]? = some (C, T, N) ∧ (∀ k, k < N → parseFieldDescriptor (T k).2.2.1 = some (ty k)) ∧ (∀ a, a < N → ∀ b, b < N → a ≠ b → (T a).2.1 ≠ (T b).2.1)
def zFk (ci fi : Nat) (fin : Bool) (own : String) (ty : FieldType) : Prop := ∀ (C : String) (T : u_T) (N : Nat), zCl[ci]? = some (C, T, N) → (T fi).2.2.2 = fin ∧ (fin = true → (T fi).1 = own) ∧ parseFieldDescriptor (T fi).2.2.1 = some ty
theorem z_get {idx ci i : Nat} {fs : List Value} {v : Value} (fi : Nat) (hd : decode (mB M) pc = .ok (.getfield idx, 3)) (hq : pc + 3 = q) (hF : zFG (mY M).cls idx ci fi) (hs : σ i = zO ci fs) (hi : i < n) (hv : fs[fi]? = some v) (k : Z M Po kc ks n σ q lv (v :: st)) : Z M Po kc ks n σ pc lv (.ref i :: st) := by
  subst hq; intro p l e s m args below meth c b G D hC H locs ls hz hP hS hl
  obtain ⟨C, T, N, hc, hfi, hws, hlk⟩ := hF
  have hv' : (fs.map (zv b))[fi]? = some (zv b v) := by rw [List.getElem?_map, hv]; rfl
  have hts : ∀ w ∈ TB, w.before args s = true := fun w h => hC.tb h
  rcases hlk with hlk | ⟨host, hlk⟩
  · exact va_get (D := D) (C := C) (T := T) (N := N) hC.1 hC.2.1 hts hws hC.2.2.2.1 hC.k hP i (zw_O hs hi) hc fi hfi (hC.tb hlk) (fun _ h => h) hv' hd (k p l e s m args below meth c b G D hC H locs ls hz hP hS hl)
  · exact va_getN (D := D) (C := C) (T := T) (N := N) hC.1 hC.2.1 hts hws hC.2.2.2.1 hC.k hP i (zw_O hs hi) hc fi hfi (va_Nw.use rfl (hC.nb hlk)) (fun _ h => h) hv' hd (k p l e s m args below meth c b G D hC H locs ls hz hP hS hl)
theorem z_put {idx ci i : Nat} {fs : List Value} {v : Value} {ty : FieldType} (fi : Nat) (hd : decode (mB M) pc = .ok (.putfield idx, 3)) (hq : pc + 3 = q) (hF : zFG (mY M).cls idx ci fi) (hT : zFT ci) (hk : zFk ci fi false "" ty) (hs : σ i = zO ci fs) (hi : i < n) (hn : ∀ b, narrow ty (zv b v) = zv b v) (hfit : ∀ b, fits ty (zv b v) = true) (hlen : fi < fs.length) (k : Z M Po kc ks n (va_up σ i (zO ci (fs.set fi v))) q lv st) : Z M Po kc ks n σ pc lv (v :: .ref i :: st) := by
  subst hq; intro p l e s m args below meth c b G D hC H locs ls hz hP hS hl
  obtain ⟨C, T, N, hc, hfi, hws, hlk⟩ := hF
  obtain ⟨C', T', N', ty0, hc', hty, hnm⟩ := hT
  obtain ⟨rfl, rfl, rfl⟩ : C = C' ∧ T = T' ∧ N = N' := by
    have := Option.some.inj (hc.symm.trans hc')
    simp only [Prod.mk.injEq] at this
    exact this
  obtain ⟨hfin, -, hpt⟩ := hk C T N hc
  have he := zw_O (b := b) (G := G) hs hi
  have hK := hC.k
  have hts : ∀ w ∈ TB, w.before args s = true := fun w h => hC.tb h
  have hap := va_apart (own := (mY M).cls) hts hws ty0 hty hnm hK hc
  obtain ⟨r, h1, cell, q1, q2, q3, q4⟩ := hP i _ he
  have hr : r = (C, T, N) := Option.some.inj (h1.symm.trans hc)
  subst hr
  obtain ⟨hSl, hfc, kC, hkC, hkind⟩ := hK.1 ci _ hc
  obtain ⟨cf, kf, fj, f, hif, hsl⟩ := hSl fi hfi
  have hlay := hts _ (hws _ (u_in_lay hfi))
  unfold u_lay at hlay
  rw [if_neg (by rw [hfin]; decide)] at hlay
  have hst := (u_facts hfc hkC (u_lays hts hws hfi) hif).1
  have h6 := u_store hfc hkC hkind hlay hif hpt (hn b) (hfit b)
  have fin : ∀ H1 : Heap, H1[b + i]? = some (cell.setSlot f.slot (zv b v)) → H1.size = H.size → (∀ q, q ≠ b + i → H1[q]? = H[q]?) → W p l e (mR M) s m args below meth c H1 (locs ++ [⟨b + i, f.slot⟩]) kc ks (MQ below (zQc b G D Po) args s (mR M).cells (mR M).slots (fun q => b ≤ q)) (F0 m (pc + 3) ls (st.map (zv b))) := by
    intro H1 e1 z oq
    rw [hsl] at e1
    have hP1 : va_P D zCl (zw b G n (va_up σ i (zO ci (fs.set fi v)))) H1 := by
      rw [← zw_set, ze_O]
      refine hP.set zw_D he ?_ oq
      refine ⟨_, hc, ?_⟩
      rw [List.map_set]
      exact t_OB.to (V := updV (vp_V (fs.map (zv b))) fi (zv b v)) ⟨_, e1, q2, q3, t_set q4 hap hfi (zv b v)⟩ (fun j _ => vp_updV_set (by rw [List.length_map]; exact hlen) (zv b v) j)
    exact k p l e s m args below meth c b G D hC H1 _ ls (z.trans hz) hP1 (hS.put z oq (Nat.le_add_right b i)) hl
  rcases hlk with hlk | ⟨host, hlk⟩
  · exact W.putK hC.1 hC.2.1 (f := f) ⟨hC.2.2.2.1, hC.tb hlk, ⟨_, _, _, hif⟩, hst⟩ (by rw [q2]; exact h6) q1 q3 (by rw [hsl]; exact k2_hasslot (q4 fi hfi)) rfl rfl hd fin
  · exact va_WputK hC.1 hC.2.1 (f := f) hC.2.2.2.1 (va_Nw.use rfl (hC.nb hlk)) hif hst (by rw [q2]; exact h6) q1 q3 (by rw [hsl]; exact k2_hasslot (q4 fi hfi)) rfl rfl hd fin
theorem z_putF {idx ci i : Nat} {fs : List Value} {v : Value} {ty : FieldType} (fi : Nat) (hd : decode (mB M) pc = .ok (.putfield idx, 3)) (hq : pc + 3 = q) (hF : zFG (mY M).cls idx ci fi) (hT : zFT ci) (hk : zFk ci fi true (mY M).cls ty) (hy : (mY M).name = "<init>") (hnl : ∀ (C : String) (T : u_T) (N : Nat), zCl[ci]? = some (C, T, N) → Cond.fieldLink (mY M).cls idx (T fi).1 (T fi).2.1 (T fi).2.2.1 ∈ TB) (hs : σ i = zO ci fs) (hi : i < n) (hn : ∀ b, narrow ty (zv b v) = zv b v) (hfit : ∀ b, fits ty (zv b v) = true) (hlen : fi < fs.length) (k : Z M Po kc ks n (va_up σ i (zO ci (fs.set fi v))) q lv st) : Z M Po kc ks n σ pc lv (v :: .ref i :: st) := by
  subst hq; intro p l e s m args below meth c b G D hC H locs ls hz hP hS hl
  obtain ⟨C, T, N, hc, hfi, hws, -⟩ := hF
  obtain ⟨C', T', N', ty0, hc', hty, hnm⟩ := hT
  obtain ⟨rfl, rfl, rfl⟩ : C = C' ∧ T = T' ∧ N = N' := by
    have := Option.some.inj (hc.symm.trans hc')
    simp only [Prod.mk.injEq] at this
    exact this
  obtain ⟨hfin, hdecl, hpt⟩ := hk C T N hc
  have hdecl := hdecl rfl
  have hlk := hnl C T N hc
  have he := zw_O (b := b) (G := G) hs hi
  have hK := hC.k
  have hts : ∀ w ∈ TB, w.before args s = true := fun w h => hC.tb h
  have hap := va_apart (own := (mY M).cls) hts hws ty0 hty hnm hK hc
  obtain ⟨r, h1, cell, q1, q2, q3, q4⟩ := hP i _ he
  have hr : r = (C, T, N) := Option.some.inj (h1.symm.trans hc)
  subst hr
  obtain ⟨hSl, hfc, kC, hkC, hkind⟩ := hK.1 ci _ hc
  obtain ⟨cf, kf, fj, f, hif, hsl⟩ := hSl fi hfi
  have hlay := hts _ (hws _ (u_in_lay hfi))
  unfold u_lay at hlay
  rw [if_pos hfin] at hlay
  have hst := (u_facts hfc hkC (u_lays hts hws hfi) hif).1
  have hcf : m.cls = cf := by
    obtain ⟨_, _, c', _, _, _, -, -, hf', -, -, -, hown2, -⟩ := Cond.laysFinal_spec hlay
    have e1 : c' = cf := by have := hif.symm.trans hf'; simp at this; exact this.1.symm
    rw [hdecl] at hown2
    rw [← e1]; exact Option.some.inj (hC.2.2.2.1.symm.trans hown2)
  have h6 := u_fits hfc hkC hkind (Or.inr hlay) hif hpt (hn b) (hfit b)
  refine W.putFinK hC.1 hC.2.1 hC.2.2.2.1 (hC.tb hlk) hif hst hcf (hC.2.2.2.2.2.2.2.2.2.2 hy) (by rw [q2]; exact h6) q1 q3 (by rw [hsl]; exact k2_hasslot (q4 fi hfi)) rfl rfl hd fun H1 e1 z oq => ?_
  rw [hsl] at e1
  have hP1 : va_P D zCl (zw b G n (va_up σ i (zO ci (fs.set fi v)))) H1 := by
    rw [← zw_set, ze_O]
    refine hP.set zw_D he ?_ oq
    refine ⟨_, hc, ?_⟩
    rw [List.map_set]
    exact t_OB.to (V := updV (vp_V (fs.map (zv b))) fi (zv b v)) ⟨_, e1, q2, q3, t_set q4 hap hfi (zv b v)⟩ (fun j _ => vp_updV_set (by rw [List.length_map]; exact hlen) (zv b v) j)
  exact k p l e s m args below meth c b G D hC H1 _ ls (z.trans hz) hP1 (hS.put z oq (Nat.le_add_right b i)) hl
/-- new cells -/
theorem zP_push {b : Nat} {G : Nat → ClassId} {D : va_G} {H H1 : Heap} {e : va_E} (hz : H.size = b + n) (hP : va_P D zCl (zw b G n σ) H) (o1 : ∀ q, q < H.size → H1[q]? = H[q]?) (he : va_at D zCl (b + n, ze b G e) H1) : va_P D zCl (zw b G (n + 1) (va_up σ n e)) H1 := by
  rw [← zw_push]
  refine va_P.app (hP.kept (fun k x hx => o1 x.1 ((hP k x hx).lt))) (fun k x hx => ?_)
  have hk : k < 1 := (List.getElem?_eq_some_iff.mp hx).1
  rw [show k = 0 by omega] at hx
  cases hx
  exact he
theorem zS_push {b : Nat} {s : State} {H H1 : Heap} {locs : List Loc} (hS : va_S (fun q => b ≤ q) s.heap H locs) (z : H1.size = H.size + 1) (o1 : ∀ q, q < H.size → H1[q]? = H[q]?) : va_S (fun q => b ≤ q) s.heap H1 locs :=
  ⟨Nat.le_trans hS.1 (by omega), fun x h1 h2 => (o1 x (Nat.lt_of_lt_of_le h1 hS.1)).trans (hS.2.1 x h1 h2), hS.2.2⟩
theorem z_newl {N : Nat} {a : ArrayType} (hd : decode (mB M) pc = .ok (.newarray a, 2)) (ha : newarray.typeOf a = .long) (hq : pc + 2 = q) (hw : Cond.arrayClass .long ∈ TB) (hN : N < 67108864) (hc : kc + 1 ≤ (mR M).cells) (hs : ks + N ≤ (mR M).slots) (k : Z M Po (kc + 1) (ks + N) (n + 1) (va_up σ n (zN N (fun _ => 0))) q lv (.ref n :: st)) : Z M Po kc ks n σ pc lv (.int (nI N) :: st) := by
  subst hq; intro p l e s m args below meth c b G D hC H locs ls hz hP hS hl
  refine va_newaK (N := N) hC.1 hC.2.1 (by rw [ha]; exact hC.tb hw) rfl hd rfl (nI_pos (by omega)) (nI_clamp (by omega)) (by rw [ha]; show N * 8 ≤ _; omega) hc hs rfl fun H1 cA e1 z1 o1 hAr hNm => ?_
  rw [ha] at e1 hNm
  have hG : cA = G 1 := by
    have h1 : s.vm.findClass ("[" ++ FieldType.long.toString) = some (G 1) := (hC.k.2 1 _ rfl).2
    exact Option.some.inj (hNm.symm.trans h1)
  subst hG
  have hP1 := zP_push (H1 := H1) (e := zN N (fun _ => 0)) hz hP o1 (by rw [ze_N, ← hz]; exact e1)
  have := k p l e s m args below meth c b G D hC H1 locs ls (by rw [z1, hz, Nat.add_assoc]) hP1 (zS_push hS z1 o1) hl
  rw [hz]
  exact this
theorem z_newi {N : Nat} {a : ArrayType} (hd : decode (mB M) pc = .ok (.newarray a, 2)) (ha : newarray.typeOf a = .int) (hq : pc + 2 = q) (hw : Cond.arrayClass .int ∈ TB) (hN : N < 67108864) (hc : kc + 1 ≤ (mR M).cells) (hs : ks + N ≤ (mR M).slots) (k : Z M Po (kc + 1) (ks + N) (n + 1) (va_up σ n (zI N (fun _ => 0))) q lv (.ref n :: st)) : Z M Po kc ks n σ pc lv (.int (nI N) :: st) := by
  subst hq; intro p l e s m args below meth c b G D hC H locs ls hz hP hS hl
  refine va_newaK (N := N) hC.1 hC.2.1 (by rw [ha]; exact hC.tb hw) rfl hd rfl (nI_pos (by omega)) (nI_clamp (by omega)) (by rw [ha]; show N * 4 ≤ _; omega) hc hs rfl fun H1 cA e1 z1 o1 hAr hNm => ?_
  rw [ha] at e1 hNm
  have hG : cA = G 0 := by
    have h1 : s.vm.findClass ("[" ++ FieldType.int.toString) = some (G 0) := (hC.k.2 0 _ rfl).2
    exact Option.some.inj (hNm.symm.trans h1)
  subst hG
  have hP1 := zP_push (H1 := H1) (e := zI N (fun _ => 0)) hz hP o1 (by rw [ze_I, ← hz]; exact e1)
  have := k p l e s m args below meth c b G D hC H1 locs ls (by rw [z1, hz, Nat.add_assoc]) hP1 (zS_push hS z1 o1) hl
  rw [hz]
  exact this
theorem z_newr {N idx : Nat} (hd : decode (mB M) pc = .ok (.anewarray idx, 3)) (hq : pc + 3 = q) (hcl : Cond.classLink (mY M).cls idx "RecurrentSeries$Series" ∈ TB) (hov : Cond.arrayOver (.object "RecurrentSeries$Series") ∈ NB) (hN : N < 67108864) (hc : kc + 1 ≤ (mR M).cells) (hs : ks + N ≤ (mR M).slots) (k : Z M Po (kc + 1) (ks + N) (n + 1) (va_up σ n (zR N (fun _ => none))) q lv (.ref n :: st)) : Z M Po kc ks n σ pc lv (.int (nI N) :: st) := by
  subst hq; intro p l e s m args below meth c b G D hC H locs ls hz hP hS hl
  have hNc : (nI N).toNatClampNeg = N := nI_clamp (by omega)
  refine W.anew hC.1 hC.2.1 hC.2.2.2.1 (hC.tb hcl) (va_AO.use (hC.nb hov)) rfl hd rfl (nI_pos (by omega)) (by rw [hNc]; omega) hc (by rw [hNc]; exact hs) fun cA kA comp f1 f2 f3 f4 => ?_
  rw [hNc]
  generalize hH1 : H.push ({ cls := cA, slots := Array.replicate N .null, vm := .none } : Cell) = H1
  have z1 : H1.size = H.size + 1 := by rw [← hH1, Array.size_push]
  have e1 : H1[H.size]? = some (arrV cA N (fun _ => .null)) := by rw [← hH1, Array.getElem?_push_size, ← arrV_new]
  have o1 : ∀ q : Nat, q < H.size → H1[q]? = H[q]? := fun q hq => by rw [← hH1, Array.getElem?_push, if_neg (Nat.ne_of_lt hq)]
  have hG : cA = G 2 := by
    obtain ⟨_, _, -, -, -, h1⟩ := (hC.k.2 2 _ rfl).2
    exact Option.some.inj (f1.symm.trans h1)
  subst hG
  have hP1 := zP_push (H1 := H1) (e := zR N (fun _ => none)) hz hP o1 (by rw [ze_R, ← hz]; exact e1)
  have := k p l e s m args below meth c b G D hC H1 locs ls (by rw [z1, hz, Nat.add_assoc]) hP1 (zS_push hS z1 o1) hl
  rw [hz]
  exact this
def zNw (own : String) (idx ci N : Nat) (fs : List Value) : Prop := ∃ (C : String) (T : u_T) (ty : Nat → FieldType), zCl[ci]? = some (C, T, N) ∧ (∀ w ∈ u_ws C T N, w ∈ TB) ∧ (∀ k, k < N → parseFieldDescriptor (T k).2.2.1 = some (ty k)) ∧ Cond.classLink own idx C ∈ TB ∧ Cond.instantiable C N ∈ TB ∧ Cond.initialized C ∈ TB ∧ ∀ b j, j < N → defaultValue (ty j) = vp_V (fs.map (zv b)) j
theorem z_new {idx N ci : Nat} {fs : List Value} (hd : decode (mB M) pc = .ok (.new idx, 3)) (hq : pc + 3 = q) (hF : zNw (mY M).cls idx ci N fs) (hc : kc + 1 ≤ (mR M).cells) (hs : ks + N ≤ (mR M).slots) (k : Z M Po (kc + 1) (ks + N) (n + 1) (va_up σ n (zO ci fs)) q lv (.ref n :: st)) : Z M Po kc ks n σ pc lv st := by
  subst hq; intro p l e s m args below meth c b G D hC H locs ls hz hP hS hl
  obtain ⟨C, T, ty, hcl, hws, hty, h1, h2, h3, hfs⟩ := hF
  have hKn := hC.k.1 ci _ hcl
  have hts : ∀ w ∈ TB, w.before args s = true := fun w h => hC.tb h
  refine W.newcK hC.1 hC.2.1 hC.2.2.2.1 (hC.tb h1) (hC.tb h2) (hC.tb h3) rfl hd hc hs hKn.2.1 rfl fun H1 kC hkC e1 z1 o1 => ?_
  have hP1 := zP_push (H1 := H1) (e := zO ci fs) hz hP o1 (by rw [ze_O, ← hz]; exact ⟨_, hcl, (u_born ty hts hws hKn hkC e1 hty).to (hfs b)⟩)
  have := k p l e s m args below meth c b G D hC H1 locs ls (by rw [z1, hz, Nat.add_assoc]) hP1 (zS_push hS z1 o1) hl
  rw [hz]
  exact this
/-- returns -/
theorem zQ_of {b : Nat} {G : Nat → ClassId} {D : va_G} {s : State} {args : Array Value} {H : Heap} {locs : List Loc} {r : Option Value} (h : Po r n σ) (hz : H.size = b + n) (hP : va_P D zCl (zw b G n σ) H) (hS : va_S (fun q => b ≤ q) s.heap H locs) (t : State) (ht : t.heap = H) : zQc b G D Po args s (.returned (r.map (zv b))) t :=
  ⟨⟨r, n, σ, rfl, h, by rw [ht]; exact hz, by rw [ht]; exact hP⟩, hS.F ht⟩
theorem z_iret {v : Int32} (hd : decode (mB M) pc = .ok (.ireturn, 1)) (hT : mT M = some .int) (hc : kc ≤ (mR M).cells) (hs : ks ≤ (mR M).slots) (h : Po (some (.int v)) n σ) : Z M Po kc ks n σ pc lv [.int v] := by
  intro p l e s m args below meth c b G D hC H locs ls hz hP hS hl
  exact W.widen hc hs (W.iret hC.1 hC.2.1 (hC.2.2.2.2.2.2.1.trans hT) (fun t ht _ => zQ_of h hz hP hS t ht) hS.2.2 hd hC.2.2.2.2.2.2.2.1)
theorem z_zret {v : Int32} {ty : FieldType} (hd : decode (mB M) pc = .ok (.ireturn, 1)) (hT : mT M = some ty) (hn : narrow ty (.int v) = .int v) (hc : kc ≤ (mR M).cells) (hs : ks ≤ (mR M).slots) (h : Po (some (.int v)) n σ) : Z M Po kc ks n σ pc lv [.int v] := by
  intro p l e s m args below meth c b G D hC H locs ls hz hP hS hl
  exact W.widen hc hs (W.zret hC.1 hC.2.1 (hC.2.2.2.2.2.2.1.trans hT) hn (fun t ht _ => zQ_of h hz hP hS t ht) hS.2.2 hd hC.2.2.2.2.2.2.2.1)
theorem z_lret {v : Int64} (hd : decode (mB M) pc = .ok (.lreturn, 1)) (hT : mT M = some .long) (hc : kc ≤ (mR M).cells) (hs : ks ≤ (mR M).slots) (h : Po (some (.long v)) n σ) : Z M Po kc ks n σ pc lv [.long v] := by
  intro p l e s m args below meth c b G D hC H locs ls hz hP hS hl
  exact W.widen hc hs (W.lret hC.1 hC.2.1 (hC.2.2.2.2.2.2.1.trans hT) (fun t ht _ => zQ_of h hz hP hS t ht) hS.2.2 hd hC.2.2.2.2.2.2.2.1)
theorem z_vret (hd : decode (mB M) pc = .ok (.return_, 1)) (hT : mT M = none) (hc : kc ≤ (mR M).cells) (hs : ks ≤ (mR M).slots) (h : Po none n σ) : Z M Po kc ks n σ pc lv [] := by
  intro p l e s m args below meth c b G D hC H locs ls hz hP hS hl
  exact W.widen hc hs (W.vret hC.1 hC.2.1 (hC.2.2.2.2.2.2.1.trans hT) (fun t ht _ => zQ_of h hz hP hS t ht) hS.2.2 hd hC.2.2.2.2.2.2.2.1)
/-- calls -/
theorem z_after {p : Program} {l : Launch} {e : Env} {R : Room} {s : State} {m : MethodId} {args : Array Value} {below : List Frame} {meth : Method} {c : Code} {H : Heap} {locs : List Loc} {cells slots mc ms : Nat} {Q : State → Prop} {b : Nat} {G : Nat → ClassId} {D : va_G} {Po' : Option Value → Nat → zWd → Prop} {ls : Array Slot} {st0 rest : List Value} {a : Array Value}
    (hr : va_Run p l e R s m args below meth c H locs cells slots mc ms (F0 m pc ls st0) rest (zQc b G D Po' a) (fun q => b ≤ q)) (hS : va_S (fun q => b ≤ q) s.heap H locs)
    (kk : ∀ (r : Option Value) (n' : Nat) (σ' : zWd), Po' r n' σ' → ∀ (H1 : Heap) (locs1 : List Loc), H1.size = b + n' → va_P D zCl (zw b G n' σ') H1 → va_S (fun q => b ≤ q) s.heap H1 locs1 → W p l e R s m args below meth c H1 locs1 (cells + mc) (slots + ms) Q (F0 m (pc + 3) ls ((r.map (zv b)).toList ++ rest))) : W p l e R s m args below meth c H locs cells slots Q (F0 m pc ls st0) := by
  intro T hT X
  obtain ⟨v, st₀, t, T', L, h0, X', hL, e1, e2, ⟨⟨r, n', σ', hv, hp, hz, hP⟩, hF⟩, st⟩ := hr T hT X
  cases hv
  obtain ⟨hF1, hF2⟩ := hF
  rw [h0] at hF1 hF2
  obtain ⟨t2, a1, b1⟩ := kk r n' σ' hp T'.heap (locs ++ L) (by rw [e1]; exact hz) (by rw [e1]; exact hP)
    ⟨Nat.le_trans hS.1 (by rw [e1]; exact hF1), fun q h1 h2 => by rw [e1, hF2 q (Nat.lt_of_lt_of_le h1 hS.1) h2]; exact hS.2.1 q h1 h2, fun q hq => by
      rcases List.mem_append.mp hq with h | h
      · exact hS.2.2 q h
      · exact hL q h⟩ T' rfl X'
  exact ⟨t2, st t2 a1, b1⟩
theorem zPc_blind {b : Nat} {G : Nat → ClassId} {D : va_G} {avs : List Value} : FrameBlind (zPc b G D n σ avs) := by
  intro a U g mk h
  obtain ⟨h0, hz, hP, hK, hN⟩ := h
  exact ⟨h0, hz, hP, va_K.moved (u := U) (U := U.calling g mk a) (Vm.Alike.refl U.vm) hK, NB_same (s := U) (U := U.calling g mk a) rfl hN⟩
theorem zPc_pre {b : Nat} {G : Nat → ClassId} {D : va_G} {avs : List Value} {p : Program} {s : State} {m : MethodId} {args : Array Value} {meth : Method} {c : Code} {H : Heap} (hC : zCx M b G D p s m args meth c) (hz : H.size = b + n) (hP : va_P D zCl (zw b G n σ) H) (U : State) (hU : U.heap = H) (hW : s.WarmedH U.vm) : zPc b G D n σ avs (avs.map (zv b)).toArray U :=
  ⟨rfl, by rw [hU]; exact hz, by rw [hU]; exact hP, va_K.moved hW.alike hC.k, NB_warm hW hC.2.2.2.2.2.1⟩
def zCk (M' : zMI) (k : Nat) : Prop := Cond.code (mY M') (mB M') (mL M') (mT M') ∈ TB ∧ Cond.initialized (mY M').cls ∈ TB ∧ (mY M').cls ≠ "java/lang/invoke/MethodHandle" ∧ (mY M').cls ≠ "java/lang/invoke/VarHandle" ∧ (parseMethodDescriptor (mY M').desc).map (fun d => d.parameters.length) = some k
def zLk (own : String) (idx : Nat) (y : MethodName) : Prop := Cond.methodLink own idx y ∈ TB ∨ ∃ host : String, Cond.methodLinkNest own idx y host ∈ NB
def zFit (M M' : zMI) : Prop := (mR M').frames + 1 ≤ (mR M).frames ∧ 8 + (mL M' + 11) + (mR M').locals ≤ (mR M).locals
theorem z_cat {b : Nat} {rest : List Value} {m : MethodId} {pc : Nat} {ls : Array Slot} {r : List Value} (h : (rest.map fun v => v.category).sum ≤ 8) : 2 * (F0 m pc ls r).monitorRoom + ((rest.map (zv b)).map fun v => v.category).sum ≤ 8 := by
  refine lv_room ?_
  rw [List.map_map]
  have : ((fun v : Value => v.category) ∘ zv b) = fun v => v.category := by funext v; exact zv_cat b v
  rw [this]
  exact h
theorem z_callS {M' : zMI} {idx : Nat} {As rest : List Value} {Po' : Option Value → Nat → zWd → Prop} (hd : decode (mB M) pc = .ok (.invokestatic idx, 3)) (hq : pc + 3 = q) (hM : Ct M' As n σ Po') (hk : zCk M' As.length) (hl0 : zLk (mY M).cls idx (mY M')) (hst : Cond.static (mY M') ∈ TB) (hR : zFit M M') (hcat : (rest.map fun v => v.category).sum ≤ 8) (hc : kc + (mR M').cells ≤ (mR M).cells) (hs : ks + (mR M').slots ≤ (mR M).slots)
    (k : ∀ (r : Option Value) (n' : Nat) (σ' : zWd), Po' r n' σ' → Z M Po (kc + (mR M').cells) (ks + (mR M').slots) n' σ' q lv (r.toList ++ rest)) : Z M Po kc ks n σ pc lv (As.reverse ++ rest) := by
  subst hq; intro p l e s m args below meth c b G D hC H locs ls hz hP hS hl
  have hts : ∀ w ∈ mW M, w.before args s = true := hC.2.2.2.2.1
  have hpre : PreS s H (zPc b G D n σ As) (As.map (zv b)) := ⟨zPc_blind, zPc_pre hC hz hP⟩
  have hstk : (As.reverse ++ rest).map (zv b) = (As.map (zv b)).reverse ++ rest.map (zv b) := by rw [List.map_append, List.map_reverse]
  have hrun : va_Run p l e (mR M) s m args below meth c H locs kc ks (mR M').cells (mR M').slots (F0 m pc ls ((As.reverse ++ rest).map (zv b))) (rest.map (zv b)) (zQc b G D Po' (As.map (zv b)).toArray) (fun q => b ≤ q) := by
    rcases hl0 with hl0 | ⟨host, hl0⟩
    · exact va_runS (n := As.length) ⟨hC.1, hC.2.1, hC.2.2.1, hC.2.2.2.1, hts⟩ (hM l b G D) ⟨callB_of As.length hts (mW_good hk.1) rfl rfl rfl (hC.tb hk.2.1) (hC.tb hl0) hk.2.2 hR, hC.tb hst⟩ hpre rfl (List.length_map _) hl.1 hstk (z_cat hcat) hd ⟨hc, hs⟩
    · exact va_runSN (n := As.length) ⟨hC.1, hC.2.1, hC.2.2.1, hC.2.2.2.1, hts⟩ (hM l b G D) ⟨va_cnB As.length hts (mW_good hk.1) rfl rfl rfl (hC.nb hl0) (hC.tb hk.2.1) hk.2.2 hR, hC.tb hst, trivial⟩ hpre rfl (List.length_map _) hl.1 hstk (z_cat hcat) hd ⟨hc, hs⟩
  refine z_after hrun hS (fun r n' σ' hp H1 locs1 hz1 hP1 hS1 => ?_)
  have := k r n' σ' hp p l e s m args below meth c b G D hC H1 locs1 ls hz1 hP1 hS1 hl
  rw [List.map_append] at this
  cases r <;> exact this
theorem z_callV {M' : zMI} {idx i ci : Nat} {fs As rest : List Value} {Po' : Option Value → Nat → zWd → Prop} {vc : vw_C} (hd : decode (mB M) pc = .ok (.invokevirtual idx, 3)) (hq : pc + 3 = q) (hM : Ct M' (.ref i :: As) n σ Po') (hs0 : σ i = zO ci fs) (hi : i < n) (hvc : zCl[ci]? = some vc) (hk : zCk M' As.length) (hl0 : zLk (mY M).cls idx (mY M')) (hst : Cond.instanceMethod (mY M') ∈ TB) (hsel : Cond.selects vc.1 (mY M') (mY M') ∈ TB) (hR : zFit M M') (hcat : (rest.map fun v => v.category).sum ≤ 8) (hc : kc + (mR M').cells ≤ (mR M).cells) (hs : ks + (mR M').slots ≤ (mR M).slots)
    (k : ∀ (r : Option Value) (n' : Nat) (σ' : zWd), Po' r n' σ' → Z M Po (kc + (mR M').cells) (ks + (mR M').slots) n' σ' q lv (r.toList ++ rest)) : Z M Po kc ks n σ pc lv (As.reverse ++ .ref i :: rest) := by
  subst hq; intro p l e s m args below meth c b G D hC H locs ls hz hP hS hl
  have hts : ∀ w ∈ mW M, w.before args s = true := hC.2.2.2.2.1
  have hpre : PreV s H vc.1 (b + i) (zPc b G D n σ (.ref i :: As)) (As.map (zv b)) := ⟨zPc_blind, va_recv hC.k hP hvc (zw_O hs0 hi), zPc_pre hC hz hP⟩
  have hstk : (As.reverse ++ .ref i :: rest).map (zv b) = (As.map (zv b)).reverse ++ .ref (b + i) :: rest.map (zv b) := by rw [List.map_append, List.map_reverse]; rfl
  have hrun : va_Run p l e (mR M) s m args below meth c H locs kc ks (mR M').cells (mR M').slots (F0 m pc ls ((As.reverse ++ .ref i :: rest).map (zv b))) (rest.map (zv b)) (zQc b G D Po' (Value.ref (b + i) :: As.map (zv b)).toArray) (fun q => b ≤ q) := by
    rcases hl0 with hl0 | ⟨host, hl0⟩
    · exact va_runV (n := As.length) ⟨hC.1, hC.2.1, hC.2.2.1, hC.2.2.2.1, hts⟩ (hM l b G D) ⟨callB_of As.length hts (mW_good hk.1) rfl rfl rfl (hC.tb hk.2.1) (hC.tb hl0) hk.2.2 hR, hC.tb hst, hC.tb hsel⟩ hpre rfl (List.length_map _) hl.1 hstk (z_cat hcat) hd ⟨hc, hs⟩
    · exact va_runVN (n := As.length) ⟨hC.1, hC.2.1, hC.2.2.1, hC.2.2.2.1, hts⟩ (hM l b G D) ⟨va_cnB As.length hts (mW_good hk.1) rfl rfl rfl (hC.nb hl0) (hC.tb hk.2.1) hk.2.2 hR, hC.tb hst, hC.tb hsel⟩ hpre rfl (List.length_map _) hl.1 hstk (z_cat hcat) hd ⟨hc, hs⟩
  refine z_after hrun hS (fun r n' σ' hp H1 locs1 hz1 hP1 hS1 => ?_)
  have := k r n' σ' hp p l e s m args below meth c b G D hC H1 locs1 ls hz1 hP1 hS1 hl
  rw [List.map_append] at this
  cases r <;> exact this
theorem z_callI {M' : zMI} {idx i : Nat} {As rest : List Value} {Po' : Option Value → Nat → zWd → Prop} (hd : decode (mB M) pc = .ok (.invokespecial idx, 3)) (hq : pc + 3 = q) (hM : Ct M' (.ref i :: As) n σ Po') (hT : mT M' = none) (hy : (mY M').name = "<init>") (hk : zCk M' As.length) (hl0 : zLk (mY M).cls idx (mY M')) (hst : Cond.instanceMethod (mY M') ∈ TB) (hR : zFit M M') (hcat : (rest.map fun v => v.category).sum ≤ 8) (hc : kc + (mR M').cells ≤ (mR M).cells) (hs : ks + (mR M').slots ≤ (mR M).slots)
    (k : ∀ (r : Option Value) (n' : Nat) (σ' : zWd), Po' r n' σ' → Z M Po (kc + (mR M').cells) (ks + (mR M').slots) n' σ' q lv (r.toList ++ rest)) : Z M Po kc ks n σ pc lv (As.reverse ++ .ref i :: rest) := by
  subst hq; intro p l e s m args below meth c b G D hC H locs ls hz hP hS hl
  have hts : ∀ w ∈ mW M, w.before args s = true := hC.2.2.2.2.1
  have hpre : PreS s H (zPc b G D n σ (.ref i :: As)) (.ref (b + i) :: As.map (zv b)) := ⟨zPc_blind, zPc_pre (avs := .ref i :: As) hC hz hP⟩
  have hstk : (As.reverse ++ .ref i :: rest).map (zv b) = (As.map (zv b)).reverse ++ .ref (b + i) :: rest.map (zv b) := by rw [List.map_append, List.map_reverse]; rfl
  have hrun : va_Run p l e (mR M) s m args below meth c H locs kc ks (mR M').cells (mR M').slots (F0 m pc ls ((As.reverse ++ .ref i :: rest).map (zv b))) (rest.map (zv b)) (zQc b G D Po' (Value.ref (b + i) :: As.map (zv b)).toArray) (fun q => b ≤ q) := by
    rcases hl0 with hl0 | ⟨host, hl0⟩
    · exact va_runI (n := As.length) ⟨hC.1, hC.2.1, hC.2.2.1, hC.2.2.2.1, hts⟩ (hM l b G D) ⟨hT ▸ callB_of As.length hts (mW_good hk.1) rfl rfl rfl (hC.tb hk.2.1) (hC.tb hl0) hk.2.2 hR, hy, hC.tb hst⟩ hpre rfl (List.length_map _) hl.1 hstk (z_cat hcat) hd ⟨hc, hs⟩
    · exact va_runIN (n := As.length) ⟨hC.1, hC.2.1, hC.2.2.1, hC.2.2.2.1, hts⟩ (hM l b G D) ⟨hT ▸ va_cnB As.length hts (mW_good hk.1) rfl rfl rfl (hC.nb hl0) (hC.tb hk.2.1) hk.2.2 hR, hy, hC.tb hst⟩ hpre rfl (List.length_map _) hl.1 hstk (z_cat hcat) hd ⟨hc, hs⟩
  refine z_after hrun hS (fun r n' σ' hp H1 locs1 hz1 hP1 hS1 => ?_)
  have := k r n' σ' hp p l e s m args below meth c b G D hC H1 locs1 ls hz1 hP1 hS1 hl
  rw [List.map_append] at this
  cases r <;> exact this
theorem z_objInit {idx i : Nat} {rest : List Value} (hd : decode (mB M) pc = .ok (.invokespecial idx, 3)) (hq : pc + 3 = q) (h1 : Cond.methodLink (mY M).cls idx Lib.objectInit ∈ TB) (h2 : Cond.instanceMethod Lib.objectInit ∈ TB) (h3 : Cond.code Lib.objectInit ⟨#[0xb1]⟩ 1 none ∈ TB) (hf : 1 ≤ (mR M).frames) (hlo : 20 ≤ (mR M).locals) (hcat : (rest.map fun v => v.category).sum ≤ 8) (k : Z M Po kc ks n σ q lv rest) : Z M Po kc ks n σ pc lv (.ref i :: rest) := by
  subst hq; intro p l e s m args below meth c b G D hC H locs ls hz hP hS hl
  refine W.objInit hC.1 hC.2.1 hC.2.2.2.1 (hC.tb h1) (hC.tb h2) (hC.tb h3) rfl (by rw [hC.2.2.1]; exact hl.1) rfl hd hf ?_ (k p l e s m args below meth c b G D hC H locs ls hz hP hS hl)
  have := z_cat (b := b) (m := m) (pc := pc) (ls := ls) (r := (Value.ref i :: rest).map (zv b)) hcat
  omega

end ZW
