/-! The walk's own judgement. A method is named by a tuple (its name, code, locals, type, room); the words of every method are the same, TB; the world is a function from places to cells: place i lies at address b + i, an array class is named by a number (0: ints, 1: longs, 2: Series). Z M Po kc ks n σ pc lv st: from pc, with locals lv, stack st and the world σ of n cells, the method comes to its end with Po. Ct M avs n σ Po: its contract. -/

abbrev zWd : Type := Nat → va_E
abbrev mY (M : zMI) : MethodName := M.1
abbrev mB (M : zMI) : ByteArray := M.2.1
abbrev mL (M : zMI) : Nat := M.2.2.1
abbrev mT (M : zMI) : Option FieldType := M.2.2.2.1
abbrev mR (M : zMI) : Room := M.2.2.2.2
def TB : List Cond := lw_tbl.filter goodWord
def zIsNest : Cond → Bool
  | .fieldLinkNest .. => true
  | .methodLinkNest .. => true
  | .arrayOver (.object _) => true
  | _ => false
def NB : List Cond := tables_1.filter zIsNest
def mW (M : zMI) : List Cond := .code (mY M) (mB M) (mL M) (mT M) :: TB
theorem mW_tb {M : zMI} {w : Cond} (h : w ∈ TB) : w ∈ mW M := List.mem_cons_of_mem _ h
theorem TB_in {w : Cond} (h : w ∈ lw_tbl) (hg : goodWord w = true) : w ∈ TB := List.mem_filter.mpr ⟨h, hg⟩
theorem NB_in {w : Cond} (h : w ∈ tables_1) (hg : zIsNest w = true) : w ∈ NB := List.mem_filter.mpr ⟨h, hg⟩
theorem mW_good {M M' : zMI} (h : Cond.code (mY M') (mB M') (mL M') (mT M') ∈ TB) : GoodIn (mW M) (mW M') := by
  intro w hw
  have hT : w ∈ TB := by
    rcases List.mem_cons.mp hw with rfl | hw
    · exact h
    · exact hw
  exact ⟨mW_tb hT, good_of_word (List.mem_filter.mp hT).2⟩
theorem NB_warm {s U : State} (hW : s.WarmedH U.vm) (h : ∀ w ∈ NB, va_Nw w s) : ∀ w ∈ NB, va_Nw w U := by
  intro w hw
  have h1 := h w hw
  have h2 := (List.mem_filter.mp hw).2
  cases w with
  | fieldLinkNest => exact va_Nw.warmF hW h1
  | methodLinkNest => exact va_Nw.warmM hW h1
  | arrayOver t => cases t <;> first | exact va_AO.moved hW.alike h1 | cases h2
  | _ => cases h2
theorem NB_same {s U : State} (hW : s.vm = U.vm) (h : ∀ w ∈ NB, va_Nw w s) : ∀ w ∈ NB, va_Nw w U := by
  intro w hw
  have h1 := h w hw
  have h2 := (List.mem_filter.mp hw).2
  cases w with
  | fieldLinkNest => exact va_Nw.same rfl hW h1
  | methodLinkNest => exact va_Nw.same rfl hW h1
  | arrayOver t => cases t <;> first | exact va_AO.moved (by rw [hW]; exact Vm.Alike.refl _) h1 | cases h2
  | _ => cases h2
/-- values and cells of the world as they lie in the heap -/
def zv (b : Nat) : Value → Value
  | .ref i => .ref (b + i)
  | v => v
theorem zv_cat (b : Nat) (v : Value) : (zv b v).category = v.category := by cases v <;> rfl
def ze (b : Nat) (G : Nat → ClassId) : va_E → va_E
  | .inl (t, n, .inr (.inr (.inr (.inr f)))) => .inl (G t, n, .inr (.inr (.inr (.inr (fun j => (f j).map (b + ·))))))
  | .inl (t, a) => .inl (G t, a)
  | .inr (c, fs) => .inr (c, fs.map (zv b))
def zN (N : Nat) (g : Nat → Nat) : va_E := .inl (1, N, .inr (.inl fun j => lN (g j)))
def zI (N : Nat) (f : Nat → Int32) : va_E := .inl (0, N, .inl f)
def zR (N : Nat) (f : Nat → Option Nat) : va_E := .inl (2, N, .inr (.inr (.inr (.inr f))))
def zO (c : Nat) (fs : List Value) : va_E := .inr (c, fs)
theorem ze_N (b : Nat) (G : Nat → ClassId) (N : Nat) (g : Nat → Nat) : ze b G (zN N g) = .inl (G 1, N, .inr (.inl fun j => lN (g j))) := rfl
theorem ze_I (b : Nat) (G : Nat → ClassId) (N : Nat) (f : Nat → Int32) : ze b G (zI N f) = .inl (G 0, N, .inl f) := rfl
theorem ze_R (b : Nat) (G : Nat → ClassId) (N : Nat) (f : Nat → Option Nat) : ze b G (zR N f) = .inl (G 2, N, .inr (.inr (.inr (.inr (fun j => (f j).map (b + ·)))))) := rfl
theorem ze_O (b : Nat) (G : Nat → ClassId) (c : Nat) (fs : List Value) : ze b G (zO c fs) = .inr (c, fs.map (zv b)) := rfl
def zw (b : Nat) (G : Nat → ClassId) (n : Nat) (σ : zWd) : va_W := (List.range n).map (fun i => (b + i, ze b G (σ i)))
theorem zw_at {b : Nat} {G : Nat → ClassId} {n : Nat} {σ : zWd} {i : Nat} (h : i < n) : (zw b G n σ)[i]? = some (b + i, ze b G (σ i)) := by
  simp [zw, h]
theorem zw_of {b : Nat} {G : Nat → ClassId} {n : Nat} {σ : zWd} {i : Nat} {q : Nat × va_E} (h : (zw b G n σ)[i]? = some q) : i < n ∧ q = (b + i, ze b G (σ i)) := by
  have hl : i < n := by
    have := (List.getElem?_eq_some_iff.mp h).1
    simpa [zw] using this
  rw [zw_at hl] at h
  exact ⟨hl, (Option.some.inj h).symm⟩
theorem zw_set {b : Nat} {G : Nat → ClassId} {n : Nat} {σ : zWd} {i : Nat} {e : va_E} : (zw b G n σ).set i (b + i, ze b G e) = zw b G n (va_up σ i e) := by
  apply List.ext_getElem?
  intro j
  by_cases hj : j < n
  · rw [zw_at hj, List.getElem?_set]
    have hl : (zw b G n σ).length = n := by simp [zw]
    by_cases hij : i = j
    · subst hij
      rw [if_pos rfl, if_pos (by rw [hl]; exact hj)]
      simp [va_up]
    · rw [if_neg hij, zw_at hj]
      have : ¬ j = i := fun z => hij z.symm
      simp [va_up, this]
  · rw [List.getElem?_eq_none (by simp [zw]; omega), List.getElem?_eq_none (by simp [zw]; omega)]
theorem zw_push {b : Nat} {G : Nat → ClassId} {n : Nat} {σ : zWd} {e : va_E} : zw b G n σ ++ [(b + n, ze b G e)] = zw b G (n + 1) (va_up σ n e) := by
  apply List.ext_getElem?
  intro j
  have hl : (zw b G n σ).length = n := by simp [zw]
  by_cases hj : j < n
  · rw [List.getElem?_append_left (by rw [hl]; exact hj), zw_at hj, zw_at (by omega)]
    have : ¬ j = n := by omega
    simp [va_up, this]
  · by_cases hjn : j = n
    · subst hjn
      rw [List.getElem?_append_right (by omega), zw_at (by omega), hl, Nat.sub_self]
      simp [va_up]
    · rw [List.getElem?_eq_none (by simp [zw]; omega), List.getElem?_eq_none (by simp [zw]; omega)]
theorem zw_D {b : Nat} {G : Nat → ClassId} {n : Nat} {σ : zWd} : va_D (fun q => b ≤ q) (zw b G n σ) := by
  refine ⟨fun i j p q hi hj h => ?_, fun k q hk => ?_⟩
  · obtain ⟨-, rfl⟩ := zw_of hi
    obtain ⟨-, rfl⟩ := zw_of hj
    have : b + i = b + j := h
    omega
  · obtain ⟨-, rfl⟩ := zw_of hk
    exact Nat.le_add_right b k
theorem zw_P {b : Nat} {G : Nat → ClassId} {D : va_G} {cl : List vw_C} {n : Nat} {σ : zWd} {H : Heap} (h : va_P D cl (zw b G n σ) H) {i : Nat} (hi : i < n) : va_at D cl (b + i, ze b G (σ i)) H := h i _ (zw_at hi)
def zt (G : Nat → ClassId) : List (ClassId × FieldType) := [(G 0, .int), (G 1, .long), (G 2, .object "RecurrentSeries$Series")]
/-- locals -/
def zn2 : Option Value → Bool
  | some v => v.category != 2
  | none => true
def zkb : List (Option Value) → Nat → Bool
  | _, 0 => true
  | lv, i + 1 => match lv[i]? with
    | some o => zn2 o
    | none => true
def zl (b : Nat) (ls : Array Slot) (nL : Nat) (lv : List (Option Value)) : Prop := ls.size = nL ∧ lv_wf ls ∧ lv.length ≤ nL ∧ ∀ (i : Nat) (v : Value), lv[i]? = some (some v) → ls[i]? = some (.val (zv b v))
def zp (b : Nat) (lv : List (Option Value)) : List (Nat × Value) := (List.range lv.length).filterMap (fun i => (lv[i]?.join).map (fun v => (i, zv b v)))
theorem zp_in {b : Nat} {lv : List (Option Value)} {j : Nat} {x : Value} : (j, x) ∈ zp b lv ↔ ∃ v, lv[j]? = some (some v) ∧ x = zv b v := by
  constructor
  · intro h
    obtain ⟨i, hi, he⟩ := List.mem_filterMap.mp h
    cases hv : lv[i]? with
    | none => rw [hv] at he; cases he
    | some o =>
      cases o with
      | none => rw [hv] at he; cases he
      | some v =>
        rw [hv] at he
        cases he
        exact ⟨v, hv, rfl⟩
  · rintro ⟨v, hv, rfl⟩
    refine List.mem_filterMap.mpr ⟨j, List.mem_range.mpr ?_, by rw [hv]; rfl⟩
    exact (List.getElem?_eq_some_iff.mp hv).1
theorem zl_has {b : Nat} {ls : Array Slot} {nL : Nat} {lv : List (Option Value)} (h : zl b ls nL lv) : lv_has ls nL (zp b lv) := by
  refine ⟨h.1, h.2.1, fun q hq => ?_⟩
  obtain ⟨v, hv, hx⟩ := zp_in.mp (show (q.1, q.2) ∈ zp b lv from hq)
  rw [hx]
  exact h.2.2.2 _ _ hv
theorem zkb_use {lv : List (Option Value)} {i j : Nat} {v : Value} (h : zkb lv i = true) (hj : j + 1 = i) (hv : lv[j]? = some (some v)) : v.category ≠ 2 := by
  subst hj
  simp only [zkb, hv, zn2] at h
  simpa using h
theorem zl_set1 {b : Nat} {ls ls' : Array Slot} {nL i : Nat} {lv : List (Option Value)} {x : Value} (h : zl b ls nL lv) (hi : i < lv.length) (hk : zkb lv i = true)
    (h' : lv_has ls' nL ((i, zv b x) :: (zp b lv).filter (fun q => !(q.1 == i) && !(q.1 + 1 == i && q.2.category == 2)))) : zl b ls' nL (lv.set i (some x)) := by
  refine ⟨h'.1, h'.2.1, by rw [List.length_set]; exact h.2.2.1, fun j v hj => ?_⟩
  by_cases hji : i = j
  · subst hji
    rw [List.getElem?_set_self hi] at hj
    cases hj
    exact h'.2.2 (i, zv b x) List.mem_cons_self
  · rw [List.getElem?_set_ne hji] at hj
    refine h'.2.2 (j, zv b v) (List.mem_cons_of_mem _ (List.mem_filter.mpr ⟨zp_in.mpr ⟨v, hj, rfl⟩, ?_⟩))
    have h1 : ¬ j = i := fun z => hji z.symm
    simp only [Bool.and_eq_true, Bool.not_eq_true', beq_eq_false_iff_ne, ne_eq, Bool.and_eq_false_iff, zv_cat]
    refine ⟨h1, ?_⟩
    by_cases h2 : j + 1 = i
    · exact Or.inr (zkb_use hk h2 hj)
    · exact Or.inl h2
theorem zl_set2 {b : Nat} {ls ls' : Array Slot} {nL i : Nat} {lv : List (Option Value)} {x : Value} (h : zl b ls nL lv) (hi : i + 1 < lv.length) (hk : zkb lv i = true)
    (h' : lv_has ls' nL ((i, zv b x) :: (zp b lv).filter (fun q => !(q.1 == i) && (!(q.1 == i + 1) && !(q.1 + 1 == i && q.2.category == 2))))) : zl b ls' nL ((lv.set i (some x)).set (i + 1) none) := by
  refine ⟨h'.1, h'.2.1, by rw [List.length_set, List.length_set]; exact h.2.2.1, fun j v hj => ?_⟩
  by_cases hj1 : i + 1 = j
  · subst hj1
    rw [List.getElem?_set_self (by rw [List.length_set]; exact hi)] at hj
    cases hj
  · rw [List.getElem?_set_ne hj1] at hj
    by_cases hji : i = j
    · subst hji
      rw [List.getElem?_set_self (by omega)] at hj
      cases hj
      exact h'.2.2 (i, zv b x) List.mem_cons_self
    · rw [List.getElem?_set_ne hji] at hj
      refine h'.2.2 (j, zv b v) (List.mem_cons_of_mem _ (List.mem_filter.mpr ⟨zp_in.mpr ⟨v, hj, rfl⟩, ?_⟩))
      have h1 : ¬ j = i := fun z => hji z.symm
      have h3 : ¬ j = i + 1 := fun z => hj1 z.symm
      simp only [Bool.and_eq_true, Bool.not_eq_true', beq_eq_false_iff_ne, ne_eq, Bool.and_eq_false_iff, zv_cat]
      refine ⟨h1, h3, ?_⟩
      by_cases h2 : j + 1 = i
      · exact Or.inr (zkb_use hk h2 hj)
      · exact Or.inl h2
def zE : List Value → List (Option Value)
  | [] => []
  | v :: vs => if v.category = 2 then some v :: none :: zE vs else some v :: zE vs
theorem zE_in {b : Nat} : ∀ (avs : List Value) (o i : Nat) (v : Value), (zE avs)[i]? = some (some v) → (o + i, zv b v) ∈ lv_args o (avs.map (zv b))
  | [], o, i, v, h => by simp [zE] at h
  | a :: avs, o, i, v, h => by
    simp only [List.map_cons, lv_args, zv_cat]
    by_cases hc : a.category = 2
    · rw [zE, if_pos hc] at h
      rw [if_pos hc]
      match i, h with
      | 0, h =>
        cases h
        exact List.mem_cons_self
      | 1, h => cases h
      | i + 2, h =>
        have h1 : (zE avs)[i]? = some (some v) := h
        have h2 := zE_in (b := b) avs (o + 2) i v h1
        rw [show o + (i + 2) = o + 2 + i by omega]
        exact List.mem_cons_of_mem _ h2
    · rw [zE, if_neg hc] at h
      rw [if_neg hc]
      match i, h with
      | 0, h =>
        cases h
        exact List.mem_cons_self
      | i + 1, h =>
        have h1 : (zE avs)[i]? = some (some v) := h
        have h2 := zE_in (b := b) avs (o + 1) i v h1
        rw [show o + (i + 1) = o + 1 + i by omega]
        exact List.mem_cons_of_mem _ h2
theorem zE_len {b : Nat} : ∀ (avs : List Value), (lg_sl (avs.map (zv b))).length = (zE avs).length
  | [] => rfl
  | a :: avs => by
    have ih := zE_len (b := b) avs
    simp only [lg_sl, List.map_cons, List.flatMap_cons, List.length_append] at ih ⊢
    rw [ih, zv_cat]
    by_cases hc : a.category = 2
    · rw [zE, if_pos hc, if_pos hc]
      simp only [List.length_cons, List.length_nil]
      omega
    · rw [zE, if_neg hc, if_neg hc]
      simp only [List.length_cons, List.length_nil]
      omega
/-- the judgement -/
def zCx (M : zMI) (b : Nat) (G : Nat → ClassId) (D : va_G) (p : Program) (s : State) (m : MethodId) (args : Array Value) (meth : Method) (c : Code) : Prop :=
  p.tables.exec = Jvm.exec ∧ c.code = mB M ∧ c.maxLocals = mL M ∧ s.vm.findClass (mY M).cls = some m.cls ∧ (∀ w ∈ mW M, w.before args s = true) ∧ (∀ w ∈ NB, va_Nw w s) ∧ meth.sig.returnType = mT M ∧ meth.locks = false ∧ va_K D zCl (zt G) s ∧ b ≤ s.heap.size ∧ ((mY M).name = "<init>" → meth.name = "<init>")
theorem zCx.tb {M : zMI} {b : Nat} {G : Nat → ClassId} {D : va_G} {p : Program} {s : State} {m : MethodId} {args : Array Value} {meth : Method} {c : Code} (h : zCx M b G D p s m args meth c) {w : Cond} (hw : w ∈ TB) : w.before args s = true := h.2.2.2.2.1 w (mW_tb hw)
theorem zCx.nb {M : zMI} {b : Nat} {G : Nat → ClassId} {D : va_G} {p : Program} {s : State} {m : MethodId} {args : Array Value} {meth : Method} {c : Code} (h : zCx M b G D p s m args meth c) {w : Cond} (hw : w ∈ NB) : va_Nw w s := h.2.2.2.2.2.1 w hw
theorem zCx.k {M : zMI} {b : Nat} {G : Nat → ClassId} {D : va_G} {p : Program} {s : State} {m : MethodId} {args : Array Value} {meth : Method} {c : Code} (h : zCx M b G D p s m args meth c) : va_K D zCl (zt G) s := h.2.2.2.2.2.2.2.2.1
def zQc (b : Nat) (G : Nat → ClassId) (D : va_G) (Po : Option Value → Nat → zWd → Prop) : Array Value → State → Outcome → State → Prop := fun _ st oc t =>
  (∃ (r : Option Value) (n' : Nat) (σ' : zWd), oc = .returned (r.map (zv b)) ∧ Po r n' σ' ∧ t.heap.size = b + n' ∧ va_P D zCl (zw b G n' σ') t.heap) ∧ va_F (fun q => b ≤ q) st t
def zPc (b : Nat) (G : Nat → ClassId) (D : va_G) (n : Nat) (σ : zWd) (avs : List Value) : Array Value → State → Prop :=
  va_Pc (avs.map (zv b)) (fun U => U.heap.size = b + n ∧ va_P D zCl (zw b G n σ) U.heap ∧ va_K D zCl (zt G) U ∧ ∀ w ∈ NB, va_Nw w U)
def Z (M : zMI) (Po : Option Value → Nat → zWd → Prop) (kc ks n : Nat) (σ : zWd) (pc : Nat) (lv : List (Option Value)) (st : List Value) : Prop :=
  ∀ (p : Program) (l : Launch) (e : Env) (s : State) (m : MethodId) (args : Array Value) (below : List Frame) (meth : Method) (c : Code) (b : Nat) (G : Nat → ClassId) (D : va_G), zCx M b G D p s m args meth c →
  ∀ (H : Heap) (locs : List Loc) (ls : Array Slot), H.size = b + n → va_P D zCl (zw b G n σ) H → va_S (fun q => b ≤ q) s.heap H locs → zl b ls (mL M) lv →
    W p l e (mR M) s m args below meth c H locs kc ks (MQ below (zQc b G D Po) args s (mR M).cells (mR M).slots (fun q => b ≤ q)) (F0 m pc ls (st.map (zv b)))
def Ct (M : zMI) (avs : List Value) (n : Nat) (σ : zWd) (Po : Option Value → Nat → zWd → Prop) : Prop :=
  ∀ (l : Launch) (b : Nat) (G : Nat → ClassId) (D : va_G), Met l (mY M) (mW M) (mR M) (zPc b G D n σ avs) (zQc b G D Po) (mR M).cells (mR M).slots (fun q => b ≤ q)
theorem Ct.of {M : zMI} {avs : List Value} {n : Nat} {σ : zWd} {Po : Option Value → Nat → zWd → Prop} {lv : List (Option Value)} (k : Nat) (hy : plainName (mY M).cls = true) (he : zE avs ++ List.replicate k none = lv) (hl : lv.length ≤ mL M) (body : Z M Po 0 0 n σ 0 lv []) : Ct M avs n σ Po := by
  intro l b G D
  refine Met.ofW (cc := mB M) (maxL := mL M) (ret := mT M) hy rfl ?_
  intro p e s m args below meth c s₁ B hml hv
  obtain ⟨rfl, hsz, hP, hK, hN⟩ := hv
  have hcx : zCx M b G D p s m (avs.map (zv b)).toArray meth c := ⟨B.exec, B.bytes, hml, findClass_of_methodNamed B.named, atoms_spec (ws := mW M) B.pre, hN, B.returns, B.notSynchronized, hK, by omega, fun h => ((name_of_methodNamed B.named B.method).1).trans h⟩
  have hlen : (lg_sl (avs.map (zv b))).length ≤ mL M := by
    rw [zE_len]
    rw [← he, List.length_append] at hl
    omega
  have hh := lv_entry (avs.map (zv b)) hlen
  rw [lg_entry_eq]
  refine body p l e s m _ below meth c b G D hcx s.heap [] _ hsz hP va_S.rf ⟨hh.1, hh.2.1, hl, fun i v hi => ?_⟩
  rw [← he] at hi
  have hi2 : (zE avs)[i]? = some (some v) := by
    by_cases hz : i < (zE avs).length
    · rwa [List.getElem?_append_left hz] at hi
    · rw [List.getElem?_append_right (by omega)] at hi
      have := List.eq_of_mem_replicate (List.mem_of_getElem? hi)
      cases this
  have h3 := hh.2.2 _ (zE_in (b := b) avs 0 i v hi2)
  simpa using h3
theorem Ct.weaken {M : zMI} {avs : List Value} {n : Nat} {σ : zWd} {Po Po' : Option Value → Nat → zWd → Prop} (h : Ct M avs n σ Po) (hp : ∀ r n' σ', Po r n' σ' → Po' r n' σ') : Ct M avs n σ Po' := by
  intro l b G D p e h1 h2 h3 s m args below h4 h5 h6 h7
  obtain ⟨k, o, g1, g2, g3, ⟨⟨⟨r, n', σ', e1, e2, e3⟩, hF⟩, hL⟩⟩ := h l b G D p e h1 h2 h3 s m args below h4 h5 h6 h7
  exact ⟨k, o, g1, g2, g3, ⟨⟨⟨r, n', σ', e1, hp _ _ _ e2, e3⟩, hF⟩, hL⟩⟩

section ZR
variable {M : zMI} {Po : Option Value → Nat → zWd → Prop} {kc ks n pc q : Nat} {σ : zWd} {lv : List (Option Value)} {st : List Value}
theorem Z.eq {st' : List Value} (h : st = st') (k : Z M Po kc ks n σ pc lv st') : Z M Po kc ks n σ pc lv st := h ▸ k
theorem Z.eqw {σ' : zWd} (h : σ = σ') (k : Z M Po kc ks n σ' pc lv st) : Z M Po kc ks n σ pc lv st := h ▸ k
theorem Z.widen {kc' ks' : Nat} (h1 : kc ≤ kc') (h2 : ks ≤ ks') (k : Z M Po kc' ks' n σ pc lv st) : Z M Po kc ks n σ pc lv st := by
  intro p l e s m args below meth c b G D hC H locs ls hz hP hS hl
  exact W.widen h1 h2 (k p l e s m args below meth c b G D hC H locs ls hz hP hS hl)
theorem z_iadd {x y : Int32} (hd : decode (mB M) pc = .ok (.iadd, 1)) (hq : pc + 1 = q)  (k : Z M Po kc ks n σ q lv (.int (x + y) :: st)) : Z M Po kc ks n σ pc lv (.int y :: .int x :: st) := by
  subst hq; intro p l e s m args below meth c b G D hC H locs ls hz hP hS hl
  exact lv_iadd hC.1 hC.2.1 hd (k p l e s m args below meth c b G D hC H locs ls hz hP hS hl)
theorem z_isub {x y : Int32} (hd : decode (mB M) pc = .ok (.isub, 1)) (hq : pc + 1 = q)  (k : Z M Po kc ks n σ q lv (.int (x - y) :: st)) : Z M Po kc ks n σ pc lv (.int y :: .int x :: st) := by
  subst hq; intro p l e s m args below meth c b G D hC H locs ls hz hP hS hl
  exact lv_isub hC.1 hC.2.1 hd (k p l e s m args below meth c b G D hC H locs ls hz hP hS hl)
theorem z_imul {x y : Int32} (hd : decode (mB M) pc = .ok (.imul, 1)) (hq : pc + 1 = q)  (k : Z M Po kc ks n σ q lv (.int (x * y) :: st)) : Z M Po kc ks n σ pc lv (.int y :: .int x :: st) := by
  subst hq; intro p l e s m args below meth c b G D hC H locs ls hz hP hS hl
  exact lv_imul hC.1 hC.2.1 hd (k p l e s m args below meth c b G D hC H locs ls hz hP hS hl)
theorem z_iand {x y : Int32} (hd : decode (mB M) pc = .ok (.iand, 1)) (hq : pc + 1 = q)  (k : Z M Po kc ks n σ q lv (.int (x &&& y) :: st)) : Z M Po kc ks n σ pc lv (.int y :: .int x :: st) := by
  subst hq; intro p l e s m args below meth c b G D hC H locs ls hz hP hS hl
  exact lv_iand hC.1 hC.2.1 hd (k p l e s m args below meth c b G D hC H locs ls hz hP hS hl)
theorem z_ior {x y : Int32} (hd : decode (mB M) pc = .ok (.ior, 1)) (hq : pc + 1 = q)  (k : Z M Po kc ks n σ q lv (.int (x ||| y) :: st)) : Z M Po kc ks n σ pc lv (.int y :: .int x :: st) := by
  subst hq; intro p l e s m args below meth c b G D hC H locs ls hz hP hS hl
  exact lv_ior hC.1 hC.2.1 hd (k p l e s m args below meth c b G D hC H locs ls hz hP hS hl)
theorem z_ladd {x y : Int64} (hd : decode (mB M) pc = .ok (.ladd, 1)) (hq : pc + 1 = q)  (k : Z M Po kc ks n σ q lv (.long (x + y) :: st)) : Z M Po kc ks n σ pc lv (.long y :: .long x :: st) := by
  subst hq; intro p l e s m args below meth c b G D hC H locs ls hz hP hS hl
  exact lv_ladd hC.1 hC.2.1 hd (k p l e s m args below meth c b G D hC H locs ls hz hP hS hl)
theorem z_lsub {x y : Int64} (hd : decode (mB M) pc = .ok (.lsub, 1)) (hq : pc + 1 = q)  (k : Z M Po kc ks n σ q lv (.long (x - y) :: st)) : Z M Po kc ks n σ pc lv (.long y :: .long x :: st) := by
  subst hq; intro p l e s m args below meth c b G D hC H locs ls hz hP hS hl
  exact lv_lsub hC.1 hC.2.1 hd (k p l e s m args below meth c b G D hC H locs ls hz hP hS hl)
theorem z_lmul {x y : Int64} (hd : decode (mB M) pc = .ok (.lmul, 1)) (hq : pc + 1 = q)  (k : Z M Po kc ks n σ q lv (.long (x * y) :: st)) : Z M Po kc ks n σ pc lv (.long y :: .long x :: st) := by
  subst hq; intro p l e s m args below meth c b G D hC H locs ls hz hP hS hl
  exact lv_lmul hC.1 hC.2.1 hd (k p l e s m args below meth c b G D hC H locs ls hz hP hS hl)
theorem z_land {x y : Int64} (hd : decode (mB M) pc = .ok (.land, 1)) (hq : pc + 1 = q)  (k : Z M Po kc ks n σ q lv (.long (x &&& y) :: st)) : Z M Po kc ks n σ pc lv (.long y :: .long x :: st) := by
  subst hq; intro p l e s m args below meth c b G D hC H locs ls hz hP hS hl
  exact lv_land hC.1 hC.2.1 hd (k p l e s m args below meth c b G D hC H locs ls hz hP hS hl)
theorem z_lor {x y : Int64} (hd : decode (mB M) pc = .ok (.lor, 1)) (hq : pc + 1 = q)  (k : Z M Po kc ks n σ q lv (.long (x ||| y) :: st)) : Z M Po kc ks n σ pc lv (.long y :: .long x :: st) := by
  subst hq; intro p l e s m args below meth c b G D hC H locs ls hz hP hS hl
  exact lv_lor hC.1 hC.2.1 hd (k p l e s m args below meth c b G D hC H locs ls hz hP hS hl)
theorem z_irem {x y : Int32} (hd : decode (mB M) pc = .ok (.irem, 1)) (hq : pc + 1 = q) (hne : ¬ y = 0) (k : Z M Po kc ks n σ q lv (.int (x - x / y * y) :: st)) : Z M Po kc ks n σ pc lv (.int y :: .int x :: st) := by
  subst hq; intro p l e s m args below meth c b G D hC H locs ls hz hP hS hl
  exact lv_irem hC.1 hC.2.1 hd hne (k p l e s m args below meth c b G D hC H locs ls hz hP hS hl)
theorem z_idiv {x y : Int32} (hd : decode (mB M) pc = .ok (.idiv, 1)) (hq : pc + 1 = q) (hne : ¬ y = 0) (k : Z M Po kc ks n σ q lv (.int (x / y) :: st)) : Z M Po kc ks n σ pc lv (.int y :: .int x :: st) := by
  subst hq; intro p l e s m args below meth c b G D hC H locs ls hz hP hS hl
  exact lv_idiv hC.1 hC.2.1 hd hne (k p l e s m args below meth c b G D hC H locs ls hz hP hS hl)
theorem z_lrem {x y : Int64} (hd : decode (mB M) pc = .ok (.lrem, 1)) (hq : pc + 1 = q) (hne : ¬ y = 0) (k : Z M Po kc ks n σ q lv (.long (x - x / y * y) :: st)) : Z M Po kc ks n σ pc lv (.long y :: .long x :: st) := by
  subst hq; intro p l e s m args below meth c b G D hC H locs ls hz hP hS hl
  exact lv_lrem hC.1 hC.2.1 hd hne (k p l e s m args below meth c b G D hC H locs ls hz hP hS hl)
theorem z_i2l {x : Int32} (hd : decode (mB M) pc = .ok (.i2l, 1)) (hq : pc + 1 = q)  (k : Z M Po kc ks n σ q lv (.long (x.toInt64) :: st)) : Z M Po kc ks n σ pc lv (.int x :: st) := by
  subst hq; intro p l e s m args below meth c b G D hC H locs ls hz hP hS hl
  exact lv_i2l hC.1 hC.2.1 hd rfl (k p l e s m args below meth c b G D hC H locs ls hz hP hS hl)
theorem z_l2i {x : Int64} (hd : decode (mB M) pc = .ok (.l2i, 1)) (hq : pc + 1 = q)  (k : Z M Po kc ks n σ q lv (.int (x.toInt32) :: st)) : Z M Po kc ks n σ pc lv (.long x :: st) := by
  subst hq; intro p l e s m args below meth c b G D hC H locs ls hz hP hS hl
  exact lv_l2i hC.1 hC.2.1 hd rfl (k p l e s m args below meth c b G D hC H locs ls hz hP hS hl)
theorem z_lshr {x : Int64} {y : Int32} (hd : decode (mB M) pc = .ok (.lshr, 1)) (hq : pc + 1 = q)  (k : Z M Po kc ks n σ q lv (.long (x >>> (y.toInt64 &&& 63)) :: st)) : Z M Po kc ks n σ pc lv (.int y :: .long x :: st) := by
  subst hq; intro p l e s m args below meth c b G D hC H locs ls hz hP hS hl
  exact lv_lshr hC.1 hC.2.1 hd rfl (k p l e s m args below meth c b G D hC H locs ls hz hP hS hl)
theorem z_lshl {x : Int64} {y : Int32} (hd : decode (mB M) pc = .ok (.lshl, 1)) (hq : pc + 1 = q)  (k : Z M Po kc ks n σ q lv (.long (x <<< (y.toInt64 &&& 63)) :: st)) : Z M Po kc ks n σ pc lv (.int y :: .long x :: st) := by
  subst hq; intro p l e s m args below meth c b G D hC H locs ls hz hP hS hl
  exact lv_lshl hC.1 hC.2.1 hd rfl (k p l e s m args below meth c b G D hC H locs ls hz hP hS hl)
theorem z_lcmp {x y : Int64} (hd : decode (mB M) pc = .ok (.lcmp, 1)) (hq : pc + 1 = q)  (k : Z M Po kc ks n σ q lv (.int (lg_cmp x y) :: st)) : Z M Po kc ks n σ pc lv (.long y :: .long x :: st) := by
  subst hq; intro p l e s m args below meth c b G D hC H locs ls hz hP hS hl
  exact W.lcmp hC.1 hC.2.1 hd (k p l e s m args below meth c b G D hC H locs ls hz hP hS hl)
theorem z_iconst {i : Int} {v : Int32} (hd : decode (mB M) pc = .ok (.iconst i, 1)) (hq : pc + 1 = q) (hv : Int32.ofInt i = v) (k : Z M Po kc ks n σ q lv (.int v :: st)) : Z M Po kc ks n σ pc lv (st) := by
  subst hq; intro p l e s m args below meth c b G D hC H locs ls hz hP hS hl
  exact lv_iconst hC.1 hC.2.1 hd hv (k p l e s m args below meth c b G D hC H locs ls hz hP hS hl)
theorem z_bipush {i : Int} {v : Int32} (hd : decode (mB M) pc = .ok (.bipush i, 2)) (hq : pc + 2 = q) (hv : (Int8.ofInt i).toInt32 = v) (k : Z M Po kc ks n σ q lv (.int v :: st)) : Z M Po kc ks n σ pc lv (st) := by
  subst hq; intro p l e s m args below meth c b G D hC H locs ls hz hP hS hl
  exact lv_bipush hC.1 hC.2.1 hd hv (k p l e s m args below meth c b G D hC H locs ls hz hP hS hl)
theorem z_sipush {i : Int} {v : Int32} (hd : decode (mB M) pc = .ok (.sipush i, 3)) (hq : pc + 3 = q) (hv : (Int16.ofInt i).toInt32 = v) (k : Z M Po kc ks n σ q lv (.int v :: st)) : Z M Po kc ks n σ pc lv (st) := by
  subst hq; intro p l e s m args below meth c b G D hC H locs ls hz hP hS hl
  exact lv_sipush hC.1 hC.2.1 hd hv (k p l e s m args below meth c b G D hC H locs ls hz hP hS hl)
theorem z_lconst {i : Fin 2} {v : Int64} (hd : decode (mB M) pc = .ok (.lconst i, 1)) (hq : pc + 1 = q) (hv : Int64.ofNat (i : Nat) = v) (k : Z M Po kc ks n σ q lv (.long v :: st)) : Z M Po kc ks n σ pc lv (st) := by
  subst hq; intro p l e s m args below meth c b G D hC H locs ls hz hP hS hl
  exact lv_lconst hC.1 hC.2.1 hd hv (k p l e s m args below meth c b G D hC H locs ls hz hP hS hl)
theorem z_ldc2 {idx : Nat} {v : Int64} (hd : decode (mB M) pc = .ok (.ldc2_w idx, 3)) (hq : pc + 3 = q) (hv : Cond.constantLong (mY M).cls idx v ∈ TB) (k : Z M Po kc ks n σ q lv (.long v :: st)) : Z M Po kc ks n σ pc lv (st) := by
  subst hq; intro p l e s m args below meth c b G D hC H locs ls hz hP hS hl
  exact lv_ldc2 hC.1 hC.2.1 hC.2.2.2.1 (hC.tb hv) hd (k p l e s m args below meth c b G D hC H locs ls hz hP hS hl)
theorem z_ldc {idx : Nat} {v : Int32} (hd : decode (mB M) pc = .ok (.ldc idx, 2)) (hq : pc + 2 = q) (hv : Cond.constant (mY M).cls idx v ∈ TB) (k : Z M Po kc ks n σ q lv (.int v :: st)) : Z M Po kc ks n σ pc lv (st) := by
  subst hq; intro p l e s m args below meth c b G D hC H locs ls hz hP hS hl
  exact lv_ldc hC.1 hC.2.1 hC.2.2.2.1 (hC.tb hv) hd (k p l e s m args below meth c b G D hC H locs ls hz hP hS hl)
theorem z_dup_i {x : Int32} (hd : decode (mB M) pc = .ok (.dup, 1)) (hq : pc + 1 = q)  (k : Z M Po kc ks n σ q lv (.int x :: .int x :: st)) : Z M Po kc ks n σ pc lv (.int x :: st) := by
  subst hq; intro p l e s m args below meth c b G D hC H locs ls hz hP hS hl
  exact lv_dup hC.1 hC.2.1 hd rfl (k p l e s m args below meth c b G D hC H locs ls hz hP hS hl)
theorem z_dup_r {x : Nat} (hd : decode (mB M) pc = .ok (.dup, 1)) (hq : pc + 1 = q)  (k : Z M Po kc ks n σ q lv (.ref x :: .ref x :: st)) : Z M Po kc ks n σ pc lv (.ref x :: st) := by
  subst hq; intro p l e s m args below meth c b G D hC H locs ls hz hP hS hl
  exact lv_dup hC.1 hC.2.1 hd rfl (k p l e s m args below meth c b G D hC H locs ls hz hP hS hl)
theorem z_pop_i {x : Int32} (hd : decode (mB M) pc = .ok (.pop, 1)) (hq : pc + 1 = q)  (k : Z M Po kc ks n σ q lv (st)) : Z M Po kc ks n σ pc lv (.int x :: st) := by
  subst hq; intro p l e s m args below meth c b G D hC H locs ls hz hP hS hl
  exact lv_pop hC.1 hC.2.1 hd rfl (k p l e s m args below meth c b G D hC H locs ls hz hP hS hl)
theorem z_dup2_ir {x : Int32} {y : Nat} (hd : decode (mB M) pc = .ok (.dup2, 1)) (hq : pc + 1 = q)  (k : Z M Po kc ks n σ q lv (.int x :: .ref y :: .int x :: .ref y :: st)) : Z M Po kc ks n σ pc lv (.int x :: .ref y :: st) := by
  subst hq; intro p l e s m args below meth c b G D hC H locs ls hz hP hS hl
  exact lv_dup2_11 hC.1 hC.2.1 hd rfl rfl (k p l e s m args below meth c b G D hC H locs ls hz hP hS hl)
theorem zn_iadd {x y : Nat} (hd : decode (mB M) pc = .ok (.iadd, 1)) (hq : pc + 1 = q)  (k : Z M Po kc ks n σ q lv (.int (nI (x + y)) :: st)) : Z M Po kc ks n σ pc lv (.int (nI y) :: .int (nI x) :: st) := z_iadd hd hq (by rw [nI_add]; exact k)
theorem zn_isub {x y : Nat} (hd : decode (mB M) pc = .ok (.isub, 1)) (hq : pc + 1 = q) (h : y ≤ x) (k : Z M Po kc ks n σ q lv (.int (nI (x - y)) :: st)) : Z M Po kc ks n σ pc lv (.int (nI y) :: .int (nI x) :: st) := z_isub hd hq (by rw [pk_sub h]; exact k)
theorem zn_imul {x y : Nat} (hd : decode (mB M) pc = .ok (.imul, 1)) (hq : pc + 1 = q)  (k : Z M Po kc ks n σ q lv (.int (nI (x * y)) :: st)) : Z M Po kc ks n σ pc lv (.int (nI y) :: .int (nI x) :: st) := z_imul hd hq (by rw [pk_mul]; exact k)
theorem zn_irem {x y : Nat} (hd : decode (mB M) pc = .ok (.irem, 1)) (hq : pc + 1 = q) (hx : x < 2 ^ 31) (h0 : 0 < y) (hy : y < 2 ^ 31) (k : Z M Po kc ks n σ q lv (.int (nI (x % y)) :: st)) : Z M Po kc ks n σ pc lv (.int (nI y) :: .int (nI x) :: st) := z_irem hd hq (nI_ne0 h0 hy) (by rw [pk_rem hx h0 hy]; exact k)
theorem zn_idiv {x y : Nat} (hd : decode (mB M) pc = .ok (.idiv, 1)) (hq : pc + 1 = q) (hx : x < 2 ^ 31) (h0 : 0 < y) (hy : y < 2 ^ 31) (k : Z M Po kc ks n σ q lv (.int (nI (x / y)) :: st)) : Z M Po kc ks n σ pc lv (.int (nI y) :: .int (nI x) :: st) := z_idiv hd hq (nI_ne0 h0 hy) (by rw [pk_div hx h0 hy]; exact k)
theorem zn_ladd {x y : Nat} (hd : decode (mB M) pc = .ok (.ladd, 1)) (hq : pc + 1 = q)  (k : Z M Po kc ks n σ q lv (.long (lN (x + y)) :: st)) : Z M Po kc ks n σ pc lv (.long (lN y) :: .long (lN x) :: st) := z_ladd hd hq (by rw [lN_add]; exact k)
theorem zn_lsub {x y : Nat} (hd : decode (mB M) pc = .ok (.lsub, 1)) (hq : pc + 1 = q) (h : y ≤ x) (k : Z M Po kc ks n σ q lv (.long (lN (x - y)) :: st)) : Z M Po kc ks n σ pc lv (.long (lN y) :: .long (lN x) :: st) := z_lsub hd hq (by rw [lN_sub h]; exact k)
theorem zn_lmul {x y : Nat} (hd : decode (mB M) pc = .ok (.lmul, 1)) (hq : pc + 1 = q)  (k : Z M Po kc ks n σ q lv (.long (lN (x * y)) :: st)) : Z M Po kc ks n σ pc lv (.long (lN y) :: .long (lN x) :: st) := z_lmul hd hq (by rw [lN_mul]; exact k)
theorem z_lne0 {y : Nat} (h0 : 0 < y) (hy : y < 2 ^ 63) : ¬ lN y = 0 := fun h => by have := (pk_lEQ hy (show 0 < 2 ^ 63 by decide)).mp (h.trans (show (0 : Int64) = lN 0 from rfl)); omega
theorem zn_lrem {x y : Nat} (hd : decode (mB M) pc = .ok (.lrem, 1)) (hq : pc + 1 = q) (hx : x < 2 ^ 63) (h0 : 0 < y) (hy : y < 2 ^ 63) (k : Z M Po kc ks n σ q lv (.long (lN (x % y)) :: st)) : Z M Po kc ks n σ pc lv (.long (lN y) :: .long (lN x) :: st) := z_lrem hd hq (z_lne0 h0 hy) (by rw [pk_lRem hx h0 hy]; exact k)
theorem zn_i2l {x : Nat} (hd : decode (mB M) pc = .ok (.i2l, 1)) (hq : pc + 1 = q) (hx : x < 2 ^ 31) (k : Z M Po kc ks n σ q lv (.long (lN x) :: st)) : Z M Po kc ks n σ pc lv (.int (nI x) :: st) := z_i2l hd hq (by rw [nI_l hx]; exact k)
theorem zn_l2i {x : Nat} (hd : decode (mB M) pc = .ok (.l2i, 1)) (hq : pc + 1 = q)  (k : Z M Po kc ks n σ q lv (.int (nI x) :: st)) : Z M Po kc ks n σ pc lv (.long (lN x) :: st) := z_l2i hd hq (by rw [lN_i]; exact k)
theorem z_if_eq {x : Int32} {off : Int} {tgt : Nat} (hd : decode (mB M) pc = .ok (.ifCond .eq off, 3)) (hq : pc + 3 = q) (ht : (pc : Int) + off = (tgt : Int)) (kt : x = 0 → Z M Po kc ks n σ tgt lv st) (kf : ¬ (x = 0) → Z M Po kc ks n σ q lv st) : Z M Po kc ks n σ pc lv (.int x :: st) := by
  subst hq; intro p l e s m args below meth c b G D hC H locs ls hz hP hS hl
  exact lv_if_eq hC.1 hC.2.1 hd ht (fun hh => kt hh p l e s m args below meth c b G D hC H locs ls hz hP hS hl) (fun hh => kf hh p l e s m args below meth c b G D hC H locs ls hz hP hS hl)
theorem z_icmp_eq {x y : Int32} {off : Int} {tgt : Nat} (hd : decode (mB M) pc = .ok (.if_icmp .eq off, 3)) (hq : pc + 3 = q) (ht : (pc : Int) + off = (tgt : Int)) (kt : x = y → Z M Po kc ks n σ tgt lv st) (kf : ¬ (x = y) → Z M Po kc ks n σ q lv st) : Z M Po kc ks n σ pc lv (.int y :: .int x :: st) := by
  subst hq; intro p l e s m args below meth c b G D hC H locs ls hz hP hS hl
  exact lv_icmp_eq hC.1 hC.2.1 hd ht (fun hh => kt hh p l e s m args below meth c b G D hC H locs ls hz hP hS hl) (fun hh => kf hh p l e s m args below meth c b G D hC H locs ls hz hP hS hl)
theorem z_if_ne {x : Int32} {off : Int} {tgt : Nat} (hd : decode (mB M) pc = .ok (.ifCond .ne off, 3)) (hq : pc + 3 = q) (ht : (pc : Int) + off = (tgt : Int)) (kt : ¬ x = 0 → Z M Po kc ks n σ tgt lv st) (kf : x = 0 → Z M Po kc ks n σ q lv st) : Z M Po kc ks n σ pc lv (.int x :: st) := by
  subst hq; intro p l e s m args below meth c b G D hC H locs ls hz hP hS hl
  exact lv_if_ne hC.1 hC.2.1 hd ht (fun hh => kt hh p l e s m args below meth c b G D hC H locs ls hz hP hS hl) (fun hh => kf hh p l e s m args below meth c b G D hC H locs ls hz hP hS hl)
theorem z_icmp_ne {x y : Int32} {off : Int} {tgt : Nat} (hd : decode (mB M) pc = .ok (.if_icmp .ne off, 3)) (hq : pc + 3 = q) (ht : (pc : Int) + off = (tgt : Int)) (kt : ¬ x = y → Z M Po kc ks n σ tgt lv st) (kf : x = y → Z M Po kc ks n σ q lv st) : Z M Po kc ks n σ pc lv (.int y :: .int x :: st) := by
  subst hq; intro p l e s m args below meth c b G D hC H locs ls hz hP hS hl
  exact lv_icmp_ne hC.1 hC.2.1 hd ht (fun hh => kt hh p l e s m args below meth c b G D hC H locs ls hz hP hS hl) (fun hh => kf hh p l e s m args below meth c b G D hC H locs ls hz hP hS hl)
theorem z_if_lt {x : Int32} {off : Int} {tgt : Nat} (hd : decode (mB M) pc = .ok (.ifCond .lt off, 3)) (hq : pc + 3 = q) (ht : (pc : Int) + off = (tgt : Int)) (kt : x < 0 → Z M Po kc ks n σ tgt lv st) (kf : ¬ (x < 0) → Z M Po kc ks n σ q lv st) : Z M Po kc ks n σ pc lv (.int x :: st) := by
  subst hq; intro p l e s m args below meth c b G D hC H locs ls hz hP hS hl
  exact lv_if_lt hC.1 hC.2.1 hd ht (fun hh => kt hh p l e s m args below meth c b G D hC H locs ls hz hP hS hl) (fun hh => kf hh p l e s m args below meth c b G D hC H locs ls hz hP hS hl)
theorem z_icmp_lt {x y : Int32} {off : Int} {tgt : Nat} (hd : decode (mB M) pc = .ok (.if_icmp .lt off, 3)) (hq : pc + 3 = q) (ht : (pc : Int) + off = (tgt : Int)) (kt : x < y → Z M Po kc ks n σ tgt lv st) (kf : ¬ (x < y) → Z M Po kc ks n σ q lv st) : Z M Po kc ks n σ pc lv (.int y :: .int x :: st) := by
  subst hq; intro p l e s m args below meth c b G D hC H locs ls hz hP hS hl
  exact lv_icmp_lt hC.1 hC.2.1 hd ht (fun hh => kt hh p l e s m args below meth c b G D hC H locs ls hz hP hS hl) (fun hh => kf hh p l e s m args below meth c b G D hC H locs ls hz hP hS hl)
theorem z_if_ge {x : Int32} {off : Int} {tgt : Nat} (hd : decode (mB M) pc = .ok (.ifCond .ge off, 3)) (hq : pc + 3 = q) (ht : (pc : Int) + off = (tgt : Int)) (kt : 0 ≤ x → Z M Po kc ks n σ tgt lv st) (kf : ¬ (0 ≤ x) → Z M Po kc ks n σ q lv st) : Z M Po kc ks n σ pc lv (.int x :: st) := by
  subst hq; intro p l e s m args below meth c b G D hC H locs ls hz hP hS hl
  exact lv_if_ge hC.1 hC.2.1 hd ht (fun hh => kt hh p l e s m args below meth c b G D hC H locs ls hz hP hS hl) (fun hh => kf hh p l e s m args below meth c b G D hC H locs ls hz hP hS hl)
theorem z_icmp_ge {x y : Int32} {off : Int} {tgt : Nat} (hd : decode (mB M) pc = .ok (.if_icmp .ge off, 3)) (hq : pc + 3 = q) (ht : (pc : Int) + off = (tgt : Int)) (kt : y ≤ x → Z M Po kc ks n σ tgt lv st) (kf : ¬ (y ≤ x) → Z M Po kc ks n σ q lv st) : Z M Po kc ks n σ pc lv (.int y :: .int x :: st) := by
  subst hq; intro p l e s m args below meth c b G D hC H locs ls hz hP hS hl
  exact lv_icmp_ge hC.1 hC.2.1 hd ht (fun hh => kt hh p l e s m args below meth c b G D hC H locs ls hz hP hS hl) (fun hh => kf hh p l e s m args below meth c b G D hC H locs ls hz hP hS hl)
theorem z_if_gt {x : Int32} {off : Int} {tgt : Nat} (hd : decode (mB M) pc = .ok (.ifCond .gt off, 3)) (hq : pc + 3 = q) (ht : (pc : Int) + off = (tgt : Int)) (kt : 0 < x → Z M Po kc ks n σ tgt lv st) (kf : ¬ (0 < x) → Z M Po kc ks n σ q lv st) : Z M Po kc ks n σ pc lv (.int x :: st) := by
  subst hq; intro p l e s m args below meth c b G D hC H locs ls hz hP hS hl
  exact lv_if_gt hC.1 hC.2.1 hd ht (fun hh => kt hh p l e s m args below meth c b G D hC H locs ls hz hP hS hl) (fun hh => kf hh p l e s m args below meth c b G D hC H locs ls hz hP hS hl)
theorem z_icmp_gt {x y : Int32} {off : Int} {tgt : Nat} (hd : decode (mB M) pc = .ok (.if_icmp .gt off, 3)) (hq : pc + 3 = q) (ht : (pc : Int) + off = (tgt : Int)) (kt : y < x → Z M Po kc ks n σ tgt lv st) (kf : ¬ (y < x) → Z M Po kc ks n σ q lv st) : Z M Po kc ks n σ pc lv (.int y :: .int x :: st) := by
  subst hq; intro p l e s m args below meth c b G D hC H locs ls hz hP hS hl
  exact lv_icmp_gt hC.1 hC.2.1 hd ht (fun hh => kt hh p l e s m args below meth c b G D hC H locs ls hz hP hS hl) (fun hh => kf hh p l e s m args below meth c b G D hC H locs ls hz hP hS hl)
theorem z_if_le {x : Int32} {off : Int} {tgt : Nat} (hd : decode (mB M) pc = .ok (.ifCond .le off, 3)) (hq : pc + 3 = q) (ht : (pc : Int) + off = (tgt : Int)) (kt : x ≤ 0 → Z M Po kc ks n σ tgt lv st) (kf : ¬ (x ≤ 0) → Z M Po kc ks n σ q lv st) : Z M Po kc ks n σ pc lv (.int x :: st) := by
  subst hq; intro p l e s m args below meth c b G D hC H locs ls hz hP hS hl
  exact lv_if_le hC.1 hC.2.1 hd ht (fun hh => kt hh p l e s m args below meth c b G D hC H locs ls hz hP hS hl) (fun hh => kf hh p l e s m args below meth c b G D hC H locs ls hz hP hS hl)
theorem z_icmp_le {x y : Int32} {off : Int} {tgt : Nat} (hd : decode (mB M) pc = .ok (.if_icmp .le off, 3)) (hq : pc + 3 = q) (ht : (pc : Int) + off = (tgt : Int)) (kt : x ≤ y → Z M Po kc ks n σ tgt lv st) (kf : ¬ (x ≤ y) → Z M Po kc ks n σ q lv st) : Z M Po kc ks n σ pc lv (.int y :: .int x :: st) := by
  subst hq; intro p l e s m args below meth c b G D hC H locs ls hz hP hS hl
  exact lv_icmp_le hC.1 hC.2.1 hd ht (fun hh => kt hh p l e s m args below meth c b G D hC H locs ls hz hP hS hl) (fun hh => kf hh p l e s m args below meth c b G D hC H locs ls hz hP hS hl)
theorem zn_icmp_eq {x y : Nat} {off : Int} {tgt : Nat} (hd : decode (mB M) pc = .ok (.if_icmp .eq off, 3)) (hq : pc + 3 = q) (ht : (pc : Int) + off = (tgt : Int)) (hx : x < 2 ^ 31) (hy : y < 2 ^ 31) (kt : x = y → Z M Po kc ks n σ tgt lv st) (kf : ¬ (x = y) → Z M Po kc ks n σ q lv st) : Z M Po kc ks n σ pc lv (.int (nI y) :: .int (nI x) :: st) := z_icmp_eq hd hq ht (fun h => kt ((nI_eq hx hy).mp h)) (fun h => kf (fun g => h ((nI_eq hx hy).mpr g)))
theorem zn_icmp_lt {x y : Nat} {off : Int} {tgt : Nat} (hd : decode (mB M) pc = .ok (.if_icmp .lt off, 3)) (hq : pc + 3 = q) (ht : (pc : Int) + off = (tgt : Int)) (hx : x < 2 ^ 31) (hy : y < 2 ^ 31) (kt : x < y → Z M Po kc ks n σ tgt lv st) (kf : ¬ (x < y) → Z M Po kc ks n σ q lv st) : Z M Po kc ks n σ pc lv (.int (nI y) :: .int (nI x) :: st) := z_icmp_lt hd hq ht (fun h => kt ((nI_ltI hx hy).mp h)) (fun h => kf (fun g => h ((nI_ltI hx hy).mpr g)))
theorem zn_icmp_ge {x y : Nat} {off : Int} {tgt : Nat} (hd : decode (mB M) pc = .ok (.if_icmp .ge off, 3)) (hq : pc + 3 = q) (ht : (pc : Int) + off = (tgt : Int)) (hx : x < 2 ^ 31) (hy : y < 2 ^ 31) (kt : y ≤ x → Z M Po kc ks n σ tgt lv st) (kf : ¬ (y ≤ x) → Z M Po kc ks n σ q lv st) : Z M Po kc ks n σ pc lv (.int (nI y) :: .int (nI x) :: st) := z_icmp_ge hd hq ht (fun h => kt ((nI_leI hy hx).mp h)) (fun h => kf (fun g => h ((nI_leI hy hx).mpr g)))
theorem zn_icmp_gt {x y : Nat} {off : Int} {tgt : Nat} (hd : decode (mB M) pc = .ok (.if_icmp .gt off, 3)) (hq : pc + 3 = q) (ht : (pc : Int) + off = (tgt : Int)) (hx : x < 2 ^ 31) (hy : y < 2 ^ 31) (kt : y < x → Z M Po kc ks n σ tgt lv st) (kf : ¬ (y < x) → Z M Po kc ks n σ q lv st) : Z M Po kc ks n σ pc lv (.int (nI y) :: .int (nI x) :: st) := z_icmp_gt hd hq ht (fun h => kt ((nI_ltI hy hx).mp h)) (fun h => kf (fun g => h ((nI_ltI hy hx).mpr g)))
theorem zn_icmp_le {x y : Nat} {off : Int} {tgt : Nat} (hd : decode (mB M) pc = .ok (.if_icmp .le off, 3)) (hq : pc + 3 = q) (ht : (pc : Int) + off = (tgt : Int)) (hx : x < 2 ^ 31) (hy : y < 2 ^ 31) (kt : x ≤ y → Z M Po kc ks n σ tgt lv st) (kf : ¬ (x ≤ y) → Z M Po kc ks n σ q lv st) : Z M Po kc ks n σ pc lv (.int (nI y) :: .int (nI x) :: st) := z_icmp_le hd hq ht (fun h => kt ((nI_leI hx hy).mp h)) (fun h => kf (fun g => h ((nI_leI hx hy).mpr g)))
theorem zn_icmp_ne {x y : Nat} {off : Int} {tgt : Nat} (hd : decode (mB M) pc = .ok (.if_icmp .ne off, 3)) (hq : pc + 3 = q) (ht : (pc : Int) + off = (tgt : Int)) (hx : x < 2 ^ 31) (hy : y < 2 ^ 31) (kt : ¬ x = y → Z M Po kc ks n σ tgt lv st) (kf : x = y → Z M Po kc ks n σ q lv st) : Z M Po kc ks n σ pc lv (.int (nI y) :: .int (nI x) :: st) := z_icmp_ne hd hq ht (fun h => kt (fun g => h ((nI_eq hx hy).mpr g))) (fun h => kf ((nI_eq hx hy).mp h))
theorem z_lgN {x y : Nat} (hx : x < 2 ^ 63) (hy : y < 2 ^ 63) : lg_cmp (lN x) (lN y) = if y < x then 1 else if x = y then 0 else -1 := by
  unfold lg_cmp
  by_cases h1 : y < x
  · rw [if_pos h1, if_pos ((pk_lLT hy hx).mpr h1)]
  · rw [if_neg h1, if_neg (fun z => h1 ((pk_lLT hy hx).mp z))]
    by_cases h2 : x = y
    · subst h2; simp
    · rw [if_neg h2, if_neg (fun z => h2 ((pk_lEQ hx hy).mp z))]
theorem z_goto {off : Int} {tgt : Nat} (hd : decode (mB M) pc = .ok (.goto off, 3)) (ht : (pc : Int) + off = (tgt : Int)) (k : Z M Po kc ks n σ tgt lv st) : Z M Po kc ks n σ pc lv st := by
  intro p l e s m args below meth c b G D hC H locs ls hz hP hS hl
  exact lv_goto hC.1 hC.2.1 hd ht (k p l e s m args below meth c b G D hC H locs ls hz hP hS hl)
theorem z_iload_n {j : Fin 4} {i : Nat} {x : Int32} (hd : decode (mB M) pc = .ok (.iload_n j, 1)) (hi : (j : Nat) = i) (hv : lv[i]? = some (some (.int x))) (hq : pc + 1 = q) (k : Z M Po kc ks n σ q lv (.int x :: st)) : Z M Po kc ks n σ pc lv st := by
  subst hq; intro p l e s m args below meth c b G D hC H locs ls hz hP hS hl
  exact lv_iload_n hC.1 hC.2.1 hd hi (hl.2.2.2 _ _ hv) (k p l e s m args below meth c b G D hC H locs ls hz hP hS hl)
theorem z_iload {i : Nat} {x : Int32} (hd : decode (mB M) pc = .ok (.iload i, 2)) (hv : lv[i]? = some (some (.int x))) (hq : pc + 2 = q) (k : Z M Po kc ks n σ q lv (.int x :: st)) : Z M Po kc ks n σ pc lv st := by
  subst hq; intro p l e s m args below meth c b G D hC H locs ls hz hP hS hl
  exact lv_iload hC.1 hC.2.1 hd (hl.2.2.2 _ _ hv) (k p l e s m args below meth c b G D hC H locs ls hz hP hS hl)
theorem z_istore_n {j : Fin 4} {i : Nat} {x : Int32} (hd : decode (mB M) pc = .ok (.istore_n j, 1)) (hi : (j : Nat) = i) (hn : i < lv.length) (hk : zkb lv i = true) (hq : pc + 1 = q) (k : Z M Po kc ks n σ q (lv.set i (some (.int x))) st) : Z M Po kc ks n σ pc lv (.int x :: st) := by
  subst hq; intro p l e s m args below meth c b G D hC H locs ls hz hP hS hl
  exact lv_istore_n hC.1 hC.2.1 hd hi (zl_has hl) (Nat.lt_of_lt_of_le hn hl.2.2.1) rfl (fun ls' h' => k p l e s m args below meth c b G D hC H locs ls' hz hP hS (zl_set1 (x := .int x) hl hn hk h'))
theorem z_istore {i : Nat} {x : Int32} (hd : decode (mB M) pc = .ok (.istore i, 2)) (hn : i < lv.length) (hk : zkb lv i = true) (hq : pc + 2 = q) (k : Z M Po kc ks n σ q (lv.set i (some (.int x))) st) : Z M Po kc ks n σ pc lv (.int x :: st) := by
  subst hq; intro p l e s m args below meth c b G D hC H locs ls hz hP hS hl
  exact lv_istore hC.1 hC.2.1 hd (zl_has hl) (Nat.lt_of_lt_of_le hn hl.2.2.1) rfl (fun ls' h' => k p l e s m args below meth c b G D hC H locs ls' hz hP hS (zl_set1 (x := .int x) hl hn hk h'))
theorem z_lload_n {j : Fin 4} {i : Nat} {x : Int64} (hd : decode (mB M) pc = .ok (.lload_n j, 1)) (hi : (j : Nat) = i) (hv : lv[i]? = some (some (.long x))) (hq : pc + 1 = q) (k : Z M Po kc ks n σ q lv (.long x :: st)) : Z M Po kc ks n σ pc lv st := by
  subst hq; intro p l e s m args below meth c b G D hC H locs ls hz hP hS hl
  exact lv_lload_n hC.1 hC.2.1 hd hi (hl.2.2.2 _ _ hv) (k p l e s m args below meth c b G D hC H locs ls hz hP hS hl)
theorem z_lload {i : Nat} {x : Int64} (hd : decode (mB M) pc = .ok (.lload i, 2)) (hv : lv[i]? = some (some (.long x))) (hq : pc + 2 = q) (k : Z M Po kc ks n σ q lv (.long x :: st)) : Z M Po kc ks n σ pc lv st := by
  subst hq; intro p l e s m args below meth c b G D hC H locs ls hz hP hS hl
  exact lv_lload hC.1 hC.2.1 hd (hl.2.2.2 _ _ hv) (k p l e s m args below meth c b G D hC H locs ls hz hP hS hl)
theorem z_lstore_n {j : Fin 4} {i : Nat} {x : Int64} (hd : decode (mB M) pc = .ok (.lstore_n j, 1)) (hi : (j : Nat) = i) (hn : i + 1 < lv.length) (hk : zkb lv i = true) (hq : pc + 1 = q) (k : Z M Po kc ks n σ q ((lv.set i (some (.long x))).set (i + 1) none) st) : Z M Po kc ks n σ pc lv (.long x :: st) := by
  subst hq; intro p l e s m args below meth c b G D hC H locs ls hz hP hS hl
  exact lv_lstore_n hC.1 hC.2.1 hd hi (zl_has hl) (Nat.lt_of_lt_of_le hn hl.2.2.1) rfl (fun ls' h' => k p l e s m args below meth c b G D hC H locs ls' hz hP hS (zl_set2 (x := .long x) hl hn hk h'))
theorem z_lstore {i : Nat} {x : Int64} (hd : decode (mB M) pc = .ok (.lstore i, 2)) (hn : i + 1 < lv.length) (hk : zkb lv i = true) (hq : pc + 2 = q) (k : Z M Po kc ks n σ q ((lv.set i (some (.long x))).set (i + 1) none) st) : Z M Po kc ks n σ pc lv (.long x :: st) := by
  subst hq; intro p l e s m args below meth c b G D hC H locs ls hz hP hS hl
  exact lv_lstore hC.1 hC.2.1 hd (zl_has hl) (Nat.lt_of_lt_of_le hn hl.2.2.1) rfl (fun ls' h' => k p l e s m args below meth c b G D hC H locs ls' hz hP hS (zl_set2 (x := .long x) hl hn hk h'))
theorem z_aload_n {j : Fin 4} {i : Nat} {x : Nat} (hd : decode (mB M) pc = .ok (.aload_n j, 1)) (hi : (j : Nat) = i) (hv : lv[i]? = some (some (.ref x))) (hq : pc + 1 = q) (k : Z M Po kc ks n σ q lv (.ref x :: st)) : Z M Po kc ks n σ pc lv st := by
  subst hq; intro p l e s m args below meth c b G D hC H locs ls hz hP hS hl
  exact lv_aload_n hC.1 hC.2.1 hd hi (hl.2.2.2 _ _ hv) (k p l e s m args below meth c b G D hC H locs ls hz hP hS hl)
theorem z_aload {i : Nat} {x : Nat} (hd : decode (mB M) pc = .ok (.aload i, 2)) (hv : lv[i]? = some (some (.ref x))) (hq : pc + 2 = q) (k : Z M Po kc ks n σ q lv (.ref x :: st)) : Z M Po kc ks n σ pc lv st := by
  subst hq; intro p l e s m args below meth c b G D hC H locs ls hz hP hS hl
  exact lv_aload hC.1 hC.2.1 hd (hl.2.2.2 _ _ hv) (k p l e s m args below meth c b G D hC H locs ls hz hP hS hl)
theorem z_astore_n {j : Fin 4} {i : Nat} {x : Nat} (hd : decode (mB M) pc = .ok (.astore_n j, 1)) (hi : (j : Nat) = i) (hn : i < lv.length) (hk : zkb lv i = true) (hq : pc + 1 = q) (k : Z M Po kc ks n σ q (lv.set i (some (.ref x))) st) : Z M Po kc ks n σ pc lv (.ref x :: st) := by
  subst hq; intro p l e s m args below meth c b G D hC H locs ls hz hP hS hl
  exact lv_astore_n hC.1 hC.2.1 hd hi (zl_has hl) (Nat.lt_of_lt_of_le hn hl.2.2.1) rfl (fun ls' h' => k p l e s m args below meth c b G D hC H locs ls' hz hP hS (zl_set1 (x := .ref x) hl hn hk h'))
theorem z_astore {i : Nat} {x : Nat} (hd : decode (mB M) pc = .ok (.astore i, 2)) (hn : i < lv.length) (hk : zkb lv i = true) (hq : pc + 2 = q) (k : Z M Po kc ks n σ q (lv.set i (some (.ref x))) st) : Z M Po kc ks n σ pc lv (.ref x :: st) := by
  subst hq; intro p l e s m args below meth c b G D hC H locs ls hz hP hS hl
  exact lv_astore hC.1 hC.2.1 hd (zl_has hl) (Nat.lt_of_lt_of_le hn hl.2.2.1) rfl (fun ls' h' => k p l e s m args below meth c b G D hC H locs ls' hz hP hS (zl_set1 (x := .ref x) hl hn hk h'))
theorem z_iinc {i : Nat} {x v : Int32} {d : Int} (hd : decode (mB M) pc = .ok (.iinc i d, 3)) (hv : lv[i]? = some (some (.int x))) (hx : x + Int32.ofInt d = v) (hn : i < lv.length) (hk : zkb lv i = true) (hq : pc + 3 = q) (k : Z M Po kc ks n σ q (lv.set i (some (.int v))) st) : Z M Po kc ks n σ pc lv st := by
  subst hq; intro p l e s m args below meth c b G D hC H locs ls hz hP hS hl
  obtain ⟨j, hj⟩ := List.getElem?_of_mem (zp_in (b := b).mpr ⟨_, hv, rfl⟩)
  exact lv_iinc hC.1 hC.2.1 hd (zl_has hl) hj hx (Nat.lt_of_lt_of_le hn hl.2.2.1) rfl (fun ls' h' => k p l e s m args below meth c b G D hC H locs ls' hz hP hS (zl_set1 (x := .int v) hl hn hk h'))
theorem z_ild0 {t : List (Option Value)} {x : Int32} (hd : decode (mB M) pc = .ok (.iload_n 0, 1)) (hq : pc + 1 = q) (k : Z M Po kc ks n σ q (some (.int x) :: t) (.int x :: st)) : Z M Po kc ks n σ pc (some (.int x) :: t) st := z_iload_n (i := 0) hd rfl rfl hq k
theorem z_ist0 {o : Option Value} {t : List (Option Value)} {x : Int32} (hd : decode (mB M) pc = .ok (.istore_n 0, 1)) (hq : pc + 1 = q) (k : Z M Po kc ks n σ q (some (.int x) :: t) st) : Z M Po kc ks n σ pc (o :: t) (.int x :: st) := z_istore_n (i := 0) hd rfl (by simp only [List.length_cons]; omega) rfl hq k
theorem z_lld0 {t : List (Option Value)} {x : Int64} (hd : decode (mB M) pc = .ok (.lload_n 0, 1)) (hq : pc + 1 = q) (k : Z M Po kc ks n σ q (some (.long x) :: t) (.long x :: st)) : Z M Po kc ks n σ pc (some (.long x) :: t) st := z_lload_n (i := 0) hd rfl rfl hq k
theorem z_lst0 {o o2 : Option Value} {t : List (Option Value)} {x : Int64} (hd : decode (mB M) pc = .ok (.lstore_n 0, 1)) (hq : pc + 1 = q) (k : Z M Po kc ks n σ q (some (.long x) :: none :: t) st) : Z M Po kc ks n σ pc (o :: o2 :: t) (.long x :: st) := z_lstore_n (i := 0) hd rfl (by simp only [List.length_cons]; omega) rfl hq k
theorem z_ald0 {t : List (Option Value)} {x : Nat} (hd : decode (mB M) pc = .ok (.aload_n 0, 1)) (hq : pc + 1 = q) (k : Z M Po kc ks n σ q (some (.ref x) :: t) (.ref x :: st)) : Z M Po kc ks n σ pc (some (.ref x) :: t) st := z_aload_n (i := 0) hd rfl rfl hq k
theorem z_ast0 {o : Option Value} {t : List (Option Value)} {x : Nat} (hd : decode (mB M) pc = .ok (.astore_n 0, 1)) (hq : pc + 1 = q) (k : Z M Po kc ks n σ q (some (.ref x) :: t) st) : Z M Po kc ks n σ pc (o :: t) (.ref x :: st) := z_astore_n (i := 0) hd rfl (by simp only [List.length_cons]; omega) rfl hq k
theorem zn_iinc0 {t : List (Option Value)} {x d : Nat} (hd : decode (mB M) pc = .ok (.iinc 0 (d : Int), 3)) (hq : pc + 3 = q) (k : Z M Po kc ks n σ q (some (.int (nI (x + d))) :: t) st) : Z M Po kc ks n σ pc (some (.int (nI x)) :: t) st := z_iinc (i := 0) hd rfl (show nI x + Int32.ofInt (d : Int) = nI (x + d) from nI_add x d) (by simp only [List.length_cons]; omega) rfl hq k
theorem z_ild1 {a0 : Option Value} {t : List (Option Value)} {x : Int32} (hd : decode (mB M) pc = .ok (.iload_n 1, 1)) (hq : pc + 1 = q) (k : Z M Po kc ks n σ q (a0 :: some (.int x) :: t) (.int x :: st)) : Z M Po kc ks n σ pc (a0 :: some (.int x) :: t) st := z_iload_n (i := 1) hd rfl rfl hq k
theorem z_ist1 {a0 : Option Value} {o : Option Value} {t : List (Option Value)} {x : Int32} (hd : decode (mB M) pc = .ok (.istore_n 1, 1)) (hq : pc + 1 = q) (hk : zn2 a0 = true) (k : Z M Po kc ks n σ q (a0 :: some (.int x) :: t) st) : Z M Po kc ks n σ pc (a0 :: o :: t) (.int x :: st) := z_istore_n (i := 1) hd rfl (by simp only [List.length_cons]; omega) hk hq k
theorem z_lld1 {a0 : Option Value} {t : List (Option Value)} {x : Int64} (hd : decode (mB M) pc = .ok (.lload_n 1, 1)) (hq : pc + 1 = q) (k : Z M Po kc ks n σ q (a0 :: some (.long x) :: t) (.long x :: st)) : Z M Po kc ks n σ pc (a0 :: some (.long x) :: t) st := z_lload_n (i := 1) hd rfl rfl hq k
theorem z_lst1 {a0 : Option Value} {o o2 : Option Value} {t : List (Option Value)} {x : Int64} (hd : decode (mB M) pc = .ok (.lstore_n 1, 1)) (hq : pc + 1 = q) (hk : zn2 a0 = true) (k : Z M Po kc ks n σ q (a0 :: some (.long x) :: none :: t) st) : Z M Po kc ks n σ pc (a0 :: o :: o2 :: t) (.long x :: st) := z_lstore_n (i := 1) hd rfl (by simp only [List.length_cons]; omega) hk hq k
theorem z_ald1 {a0 : Option Value} {t : List (Option Value)} {x : Nat} (hd : decode (mB M) pc = .ok (.aload_n 1, 1)) (hq : pc + 1 = q) (k : Z M Po kc ks n σ q (a0 :: some (.ref x) :: t) (.ref x :: st)) : Z M Po kc ks n σ pc (a0 :: some (.ref x) :: t) st := z_aload_n (i := 1) hd rfl rfl hq k
theorem z_ast1 {a0 : Option Value} {o : Option Value} {t : List (Option Value)} {x : Nat} (hd : decode (mB M) pc = .ok (.astore_n 1, 1)) (hq : pc + 1 = q) (hk : zn2 a0 = true) (k : Z M Po kc ks n σ q (a0 :: some (.ref x) :: t) st) : Z M Po kc ks n σ pc (a0 :: o :: t) (.ref x :: st) := z_astore_n (i := 1) hd rfl (by simp only [List.length_cons]; omega) hk hq k
theorem zn_iinc1 {a0 : Option Value} {t : List (Option Value)} {x d : Nat} (hd : decode (mB M) pc = .ok (.iinc 1 (d : Int), 3)) (hq : pc + 3 = q) (hk : zn2 a0 = true) (k : Z M Po kc ks n σ q (a0 :: some (.int (nI (x + d))) :: t) st) : Z M Po kc ks n σ pc (a0 :: some (.int (nI x)) :: t) st := z_iinc (i := 1) hd rfl (show nI x + Int32.ofInt (d : Int) = nI (x + d) from nI_add x d) (by simp only [List.length_cons]; omega) hk hq k
theorem z_ild2 {a0 a1 : Option Value} {t : List (Option Value)} {x : Int32} (hd : decode (mB M) pc = .ok (.iload_n 2, 1)) (hq : pc + 1 = q) (k : Z M Po kc ks n σ q (a0 :: a1 :: some (.int x) :: t) (.int x :: st)) : Z M Po kc ks n σ pc (a0 :: a1 :: some (.int x) :: t) st := z_iload_n (i := 2) hd rfl rfl hq k
theorem z_ist2 {a0 a1 : Option Value} {o : Option Value} {t : List (Option Value)} {x : Int32} (hd : decode (mB M) pc = .ok (.istore_n 2, 1)) (hq : pc + 1 = q) (hk : zn2 a1 = true) (k : Z M Po kc ks n σ q (a0 :: a1 :: some (.int x) :: t) st) : Z M Po kc ks n σ pc (a0 :: a1 :: o :: t) (.int x :: st) := z_istore_n (i := 2) hd rfl (by simp only [List.length_cons]; omega) hk hq k
theorem z_lld2 {a0 a1 : Option Value} {t : List (Option Value)} {x : Int64} (hd : decode (mB M) pc = .ok (.lload_n 2, 1)) (hq : pc + 1 = q) (k : Z M Po kc ks n σ q (a0 :: a1 :: some (.long x) :: t) (.long x :: st)) : Z M Po kc ks n σ pc (a0 :: a1 :: some (.long x) :: t) st := z_lload_n (i := 2) hd rfl rfl hq k
theorem z_lst2 {a0 a1 : Option Value} {o o2 : Option Value} {t : List (Option Value)} {x : Int64} (hd : decode (mB M) pc = .ok (.lstore_n 2, 1)) (hq : pc + 1 = q) (hk : zn2 a1 = true) (k : Z M Po kc ks n σ q (a0 :: a1 :: some (.long x) :: none :: t) st) : Z M Po kc ks n σ pc (a0 :: a1 :: o :: o2 :: t) (.long x :: st) := z_lstore_n (i := 2) hd rfl (by simp only [List.length_cons]; omega) hk hq k
theorem z_ald2 {a0 a1 : Option Value} {t : List (Option Value)} {x : Nat} (hd : decode (mB M) pc = .ok (.aload_n 2, 1)) (hq : pc + 1 = q) (k : Z M Po kc ks n σ q (a0 :: a1 :: some (.ref x) :: t) (.ref x :: st)) : Z M Po kc ks n σ pc (a0 :: a1 :: some (.ref x) :: t) st := z_aload_n (i := 2) hd rfl rfl hq k
theorem z_ast2 {a0 a1 : Option Value} {o : Option Value} {t : List (Option Value)} {x : Nat} (hd : decode (mB M) pc = .ok (.astore_n 2, 1)) (hq : pc + 1 = q) (hk : zn2 a1 = true) (k : Z M Po kc ks n σ q (a0 :: a1 :: some (.ref x) :: t) st) : Z M Po kc ks n σ pc (a0 :: a1 :: o :: t) (.ref x :: st) := z_astore_n (i := 2) hd rfl (by simp only [List.length_cons]; omega) hk hq k
theorem zn_iinc2 {a0 a1 : Option Value} {t : List (Option Value)} {x d : Nat} (hd : decode (mB M) pc = .ok (.iinc 2 (d : Int), 3)) (hq : pc + 3 = q) (hk : zn2 a1 = true) (k : Z M Po kc ks n σ q (a0 :: a1 :: some (.int (nI (x + d))) :: t) st) : Z M Po kc ks n σ pc (a0 :: a1 :: some (.int (nI x)) :: t) st := z_iinc (i := 2) hd rfl (show nI x + Int32.ofInt (d : Int) = nI (x + d) from nI_add x d) (by simp only [List.length_cons]; omega) hk hq k
theorem z_ild3 {a0 a1 a2 : Option Value} {t : List (Option Value)} {x : Int32} (hd : decode (mB M) pc = .ok (.iload_n 3, 1)) (hq : pc + 1 = q) (k : Z M Po kc ks n σ q (a0 :: a1 :: a2 :: some (.int x) :: t) (.int x :: st)) : Z M Po kc ks n σ pc (a0 :: a1 :: a2 :: some (.int x) :: t) st := z_iload_n (i := 3) hd rfl rfl hq k
theorem z_ist3 {a0 a1 a2 : Option Value} {o : Option Value} {t : List (Option Value)} {x : Int32} (hd : decode (mB M) pc = .ok (.istore_n 3, 1)) (hq : pc + 1 = q) (hk : zn2 a2 = true) (k : Z M Po kc ks n σ q (a0 :: a1 :: a2 :: some (.int x) :: t) st) : Z M Po kc ks n σ pc (a0 :: a1 :: a2 :: o :: t) (.int x :: st) := z_istore_n (i := 3) hd rfl (by simp only [List.length_cons]; omega) hk hq k
theorem z_lld3 {a0 a1 a2 : Option Value} {t : List (Option Value)} {x : Int64} (hd : decode (mB M) pc = .ok (.lload_n 3, 1)) (hq : pc + 1 = q) (k : Z M Po kc ks n σ q (a0 :: a1 :: a2 :: some (.long x) :: t) (.long x :: st)) : Z M Po kc ks n σ pc (a0 :: a1 :: a2 :: some (.long x) :: t) st := z_lload_n (i := 3) hd rfl rfl hq k
theorem z_lst3 {a0 a1 a2 : Option Value} {o o2 : Option Value} {t : List (Option Value)} {x : Int64} (hd : decode (mB M) pc = .ok (.lstore_n 3, 1)) (hq : pc + 1 = q) (hk : zn2 a2 = true) (k : Z M Po kc ks n σ q (a0 :: a1 :: a2 :: some (.long x) :: none :: t) st) : Z M Po kc ks n σ pc (a0 :: a1 :: a2 :: o :: o2 :: t) (.long x :: st) := z_lstore_n (i := 3) hd rfl (by simp only [List.length_cons]; omega) hk hq k
theorem z_ald3 {a0 a1 a2 : Option Value} {t : List (Option Value)} {x : Nat} (hd : decode (mB M) pc = .ok (.aload_n 3, 1)) (hq : pc + 1 = q) (k : Z M Po kc ks n σ q (a0 :: a1 :: a2 :: some (.ref x) :: t) (.ref x :: st)) : Z M Po kc ks n σ pc (a0 :: a1 :: a2 :: some (.ref x) :: t) st := z_aload_n (i := 3) hd rfl rfl hq k
theorem z_ast3 {a0 a1 a2 : Option Value} {o : Option Value} {t : List (Option Value)} {x : Nat} (hd : decode (mB M) pc = .ok (.astore_n 3, 1)) (hq : pc + 1 = q) (hk : zn2 a2 = true) (k : Z M Po kc ks n σ q (a0 :: a1 :: a2 :: some (.ref x) :: t) st) : Z M Po kc ks n σ pc (a0 :: a1 :: a2 :: o :: t) (.ref x :: st) := z_astore_n (i := 3) hd rfl (by simp only [List.length_cons]; omega) hk hq k
theorem zn_iinc3 {a0 a1 a2 : Option Value} {t : List (Option Value)} {x d : Nat} (hd : decode (mB M) pc = .ok (.iinc 3 (d : Int), 3)) (hq : pc + 3 = q) (hk : zn2 a2 = true) (k : Z M Po kc ks n σ q (a0 :: a1 :: a2 :: some (.int (nI (x + d))) :: t) st) : Z M Po kc ks n σ pc (a0 :: a1 :: a2 :: some (.int (nI x)) :: t) st := z_iinc (i := 3) hd rfl (show nI x + Int32.ofInt (d : Int) = nI (x + d) from nI_add x d) (by simp only [List.length_cons]; omega) hk hq k
theorem z_ild4 {a0 a1 a2 a3 : Option Value} {t : List (Option Value)} {x : Int32} (hd : decode (mB M) pc = .ok (.iload 4, 2)) (hq : pc + 2 = q) (k : Z M Po kc ks n σ q (a0 :: a1 :: a2 :: a3 :: some (.int x) :: t) (.int x :: st)) : Z M Po kc ks n σ pc (a0 :: a1 :: a2 :: a3 :: some (.int x) :: t) st := z_iload (i := 4) hd rfl hq k
theorem z_ist4 {a0 a1 a2 a3 : Option Value} {o : Option Value} {t : List (Option Value)} {x : Int32} (hd : decode (mB M) pc = .ok (.istore 4, 2)) (hq : pc + 2 = q) (hk : zn2 a3 = true) (k : Z M Po kc ks n σ q (a0 :: a1 :: a2 :: a3 :: some (.int x) :: t) st) : Z M Po kc ks n σ pc (a0 :: a1 :: a2 :: a3 :: o :: t) (.int x :: st) := z_istore (i := 4) hd (by simp only [List.length_cons]; omega) hk hq k
theorem z_lld4 {a0 a1 a2 a3 : Option Value} {t : List (Option Value)} {x : Int64} (hd : decode (mB M) pc = .ok (.lload 4, 2)) (hq : pc + 2 = q) (k : Z M Po kc ks n σ q (a0 :: a1 :: a2 :: a3 :: some (.long x) :: t) (.long x :: st)) : Z M Po kc ks n σ pc (a0 :: a1 :: a2 :: a3 :: some (.long x) :: t) st := z_lload (i := 4) hd rfl hq k
theorem z_lst4 {a0 a1 a2 a3 : Option Value} {o o2 : Option Value} {t : List (Option Value)} {x : Int64} (hd : decode (mB M) pc = .ok (.lstore 4, 2)) (hq : pc + 2 = q) (hk : zn2 a3 = true) (k : Z M Po kc ks n σ q (a0 :: a1 :: a2 :: a3 :: some (.long x) :: none :: t) st) : Z M Po kc ks n σ pc (a0 :: a1 :: a2 :: a3 :: o :: o2 :: t) (.long x :: st) := z_lstore (i := 4) hd (by simp only [List.length_cons]; omega) hk hq k
theorem z_ald4 {a0 a1 a2 a3 : Option Value} {t : List (Option Value)} {x : Nat} (hd : decode (mB M) pc = .ok (.aload 4, 2)) (hq : pc + 2 = q) (k : Z M Po kc ks n σ q (a0 :: a1 :: a2 :: a3 :: some (.ref x) :: t) (.ref x :: st)) : Z M Po kc ks n σ pc (a0 :: a1 :: a2 :: a3 :: some (.ref x) :: t) st := z_aload (i := 4) hd rfl hq k
theorem z_ast4 {a0 a1 a2 a3 : Option Value} {o : Option Value} {t : List (Option Value)} {x : Nat} (hd : decode (mB M) pc = .ok (.astore 4, 2)) (hq : pc + 2 = q) (hk : zn2 a3 = true) (k : Z M Po kc ks n σ q (a0 :: a1 :: a2 :: a3 :: some (.ref x) :: t) st) : Z M Po kc ks n σ pc (a0 :: a1 :: a2 :: a3 :: o :: t) (.ref x :: st) := z_astore (i := 4) hd (by simp only [List.length_cons]; omega) hk hq k
theorem zn_iinc4 {a0 a1 a2 a3 : Option Value} {t : List (Option Value)} {x d : Nat} (hd : decode (mB M) pc = .ok (.iinc 4 (d : Int), 3)) (hq : pc + 3 = q) (hk : zn2 a3 = true) (k : Z M Po kc ks n σ q (a0 :: a1 :: a2 :: a3 :: some (.int (nI (x + d))) :: t) st) : Z M Po kc ks n σ pc (a0 :: a1 :: a2 :: a3 :: some (.int (nI x)) :: t) st := z_iinc (i := 4) hd rfl (show nI x + Int32.ofInt (d : Int) = nI (x + d) from nI_add x d) (by simp only [List.length_cons]; omega) hk hq k
theorem z_ild5 {a0 a1 a2 a3 a4 : Option Value} {t : List (Option Value)} {x : Int32} (hd : decode (mB M) pc = .ok (.iload 5, 2)) (hq : pc + 2 = q) (k : Z M Po kc ks n σ q (a0 :: a1 :: a2 :: a3 :: a4 :: some (.int x) :: t) (.int x :: st)) : Z M Po kc ks n σ pc (a0 :: a1 :: a2 :: a3 :: a4 :: some (.int x) :: t) st := z_iload (i := 5) hd rfl hq k
theorem z_ist5 {a0 a1 a2 a3 a4 : Option Value} {o : Option Value} {t : List (Option Value)} {x : Int32} (hd : decode (mB M) pc = .ok (.istore 5, 2)) (hq : pc + 2 = q) (hk : zn2 a4 = true) (k : Z M Po kc ks n σ q (a0 :: a1 :: a2 :: a3 :: a4 :: some (.int x) :: t) st) : Z M Po kc ks n σ pc (a0 :: a1 :: a2 :: a3 :: a4 :: o :: t) (.int x :: st) := z_istore (i := 5) hd (by simp only [List.length_cons]; omega) hk hq k
theorem z_lld5 {a0 a1 a2 a3 a4 : Option Value} {t : List (Option Value)} {x : Int64} (hd : decode (mB M) pc = .ok (.lload 5, 2)) (hq : pc + 2 = q) (k : Z M Po kc ks n σ q (a0 :: a1 :: a2 :: a3 :: a4 :: some (.long x) :: t) (.long x :: st)) : Z M Po kc ks n σ pc (a0 :: a1 :: a2 :: a3 :: a4 :: some (.long x) :: t) st := z_lload (i := 5) hd rfl hq k
theorem z_lst5 {a0 a1 a2 a3 a4 : Option Value} {o o2 : Option Value} {t : List (Option Value)} {x : Int64} (hd : decode (mB M) pc = .ok (.lstore 5, 2)) (hq : pc + 2 = q) (hk : zn2 a4 = true) (k : Z M Po kc ks n σ q (a0 :: a1 :: a2 :: a3 :: a4 :: some (.long x) :: none :: t) st) : Z M Po kc ks n σ pc (a0 :: a1 :: a2 :: a3 :: a4 :: o :: o2 :: t) (.long x :: st) := z_lstore (i := 5) hd (by simp only [List.length_cons]; omega) hk hq k
theorem z_ald5 {a0 a1 a2 a3 a4 : Option Value} {t : List (Option Value)} {x : Nat} (hd : decode (mB M) pc = .ok (.aload 5, 2)) (hq : pc + 2 = q) (k : Z M Po kc ks n σ q (a0 :: a1 :: a2 :: a3 :: a4 :: some (.ref x) :: t) (.ref x :: st)) : Z M Po kc ks n σ pc (a0 :: a1 :: a2 :: a3 :: a4 :: some (.ref x) :: t) st := z_aload (i := 5) hd rfl hq k
theorem z_ast5 {a0 a1 a2 a3 a4 : Option Value} {o : Option Value} {t : List (Option Value)} {x : Nat} (hd : decode (mB M) pc = .ok (.astore 5, 2)) (hq : pc + 2 = q) (hk : zn2 a4 = true) (k : Z M Po kc ks n σ q (a0 :: a1 :: a2 :: a3 :: a4 :: some (.ref x) :: t) st) : Z M Po kc ks n σ pc (a0 :: a1 :: a2 :: a3 :: a4 :: o :: t) (.ref x :: st) := z_astore (i := 5) hd (by simp only [List.length_cons]; omega) hk hq k
theorem zn_iinc5 {a0 a1 a2 a3 a4 : Option Value} {t : List (Option Value)} {x d : Nat} (hd : decode (mB M) pc = .ok (.iinc 5 (d : Int), 3)) (hq : pc + 3 = q) (hk : zn2 a4 = true) (k : Z M Po kc ks n σ q (a0 :: a1 :: a2 :: a3 :: a4 :: some (.int (nI (x + d))) :: t) st) : Z M Po kc ks n σ pc (a0 :: a1 :: a2 :: a3 :: a4 :: some (.int (nI x)) :: t) st := z_iinc (i := 5) hd rfl (show nI x + Int32.ofInt (d : Int) = nI (x + d) from nI_add x d) (by simp only [List.length_cons]; omega) hk hq k
theorem z_ild6 {a0 a1 a2 a3 a4 a5 : Option Value} {t : List (Option Value)} {x : Int32} (hd : decode (mB M) pc = .ok (.iload 6, 2)) (hq : pc + 2 = q) (k : Z M Po kc ks n σ q (a0 :: a1 :: a2 :: a3 :: a4 :: a5 :: some (.int x) :: t) (.int x :: st)) : Z M Po kc ks n σ pc (a0 :: a1 :: a2 :: a3 :: a4 :: a5 :: some (.int x) :: t) st := z_iload (i := 6) hd rfl hq k
theorem z_ist6 {a0 a1 a2 a3 a4 a5 : Option Value} {o : Option Value} {t : List (Option Value)} {x : Int32} (hd : decode (mB M) pc = .ok (.istore 6, 2)) (hq : pc + 2 = q) (hk : zn2 a5 = true) (k : Z M Po kc ks n σ q (a0 :: a1 :: a2 :: a3 :: a4 :: a5 :: some (.int x) :: t) st) : Z M Po kc ks n σ pc (a0 :: a1 :: a2 :: a3 :: a4 :: a5 :: o :: t) (.int x :: st) := z_istore (i := 6) hd (by simp only [List.length_cons]; omega) hk hq k
theorem z_lld6 {a0 a1 a2 a3 a4 a5 : Option Value} {t : List (Option Value)} {x : Int64} (hd : decode (mB M) pc = .ok (.lload 6, 2)) (hq : pc + 2 = q) (k : Z M Po kc ks n σ q (a0 :: a1 :: a2 :: a3 :: a4 :: a5 :: some (.long x) :: t) (.long x :: st)) : Z M Po kc ks n σ pc (a0 :: a1 :: a2 :: a3 :: a4 :: a5 :: some (.long x) :: t) st := z_lload (i := 6) hd rfl hq k
theorem z_lst6 {a0 a1 a2 a3 a4 a5 : Option Value} {o o2 : Option Value} {t : List (Option Value)} {x : Int64} (hd : decode (mB M) pc = .ok (.lstore 6, 2)) (hq : pc + 2 = q) (hk : zn2 a5 = true) (k : Z M Po kc ks n σ q (a0 :: a1 :: a2 :: a3 :: a4 :: a5 :: some (.long x) :: none :: t) st) : Z M Po kc ks n σ pc (a0 :: a1 :: a2 :: a3 :: a4 :: a5 :: o :: o2 :: t) (.long x :: st) := z_lstore (i := 6) hd (by simp only [List.length_cons]; omega) hk hq k
theorem z_ald6 {a0 a1 a2 a3 a4 a5 : Option Value} {t : List (Option Value)} {x : Nat} (hd : decode (mB M) pc = .ok (.aload 6, 2)) (hq : pc + 2 = q) (k : Z M Po kc ks n σ q (a0 :: a1 :: a2 :: a3 :: a4 :: a5 :: some (.ref x) :: t) (.ref x :: st)) : Z M Po kc ks n σ pc (a0 :: a1 :: a2 :: a3 :: a4 :: a5 :: some (.ref x) :: t) st := z_aload (i := 6) hd rfl hq k
theorem z_ast6 {a0 a1 a2 a3 a4 a5 : Option Value} {o : Option Value} {t : List (Option Value)} {x : Nat} (hd : decode (mB M) pc = .ok (.astore 6, 2)) (hq : pc + 2 = q) (hk : zn2 a5 = true) (k : Z M Po kc ks n σ q (a0 :: a1 :: a2 :: a3 :: a4 :: a5 :: some (.ref x) :: t) st) : Z M Po kc ks n σ pc (a0 :: a1 :: a2 :: a3 :: a4 :: a5 :: o :: t) (.ref x :: st) := z_astore (i := 6) hd (by simp only [List.length_cons]; omega) hk hq k
theorem zn_iinc6 {a0 a1 a2 a3 a4 a5 : Option Value} {t : List (Option Value)} {x d : Nat} (hd : decode (mB M) pc = .ok (.iinc 6 (d : Int), 3)) (hq : pc + 3 = q) (hk : zn2 a5 = true) (k : Z M Po kc ks n σ q (a0 :: a1 :: a2 :: a3 :: a4 :: a5 :: some (.int (nI (x + d))) :: t) st) : Z M Po kc ks n σ pc (a0 :: a1 :: a2 :: a3 :: a4 :: a5 :: some (.int (nI x)) :: t) st := z_iinc (i := 6) hd rfl (show nI x + Int32.ofInt (d : Int) = nI (x + d) from nI_add x d) (by simp only [List.length_cons]; omega) hk hq k
theorem z_ild7 {a0 a1 a2 a3 a4 a5 a6 : Option Value} {t : List (Option Value)} {x : Int32} (hd : decode (mB M) pc = .ok (.iload 7, 2)) (hq : pc + 2 = q) (k : Z M Po kc ks n σ q (a0 :: a1 :: a2 :: a3 :: a4 :: a5 :: a6 :: some (.int x) :: t) (.int x :: st)) : Z M Po kc ks n σ pc (a0 :: a1 :: a2 :: a3 :: a4 :: a5 :: a6 :: some (.int x) :: t) st := z_iload (i := 7) hd rfl hq k
theorem z_ist7 {a0 a1 a2 a3 a4 a5 a6 : Option Value} {o : Option Value} {t : List (Option Value)} {x : Int32} (hd : decode (mB M) pc = .ok (.istore 7, 2)) (hq : pc + 2 = q) (hk : zn2 a6 = true) (k : Z M Po kc ks n σ q (a0 :: a1 :: a2 :: a3 :: a4 :: a5 :: a6 :: some (.int x) :: t) st) : Z M Po kc ks n σ pc (a0 :: a1 :: a2 :: a3 :: a4 :: a5 :: a6 :: o :: t) (.int x :: st) := z_istore (i := 7) hd (by simp only [List.length_cons]; omega) hk hq k
theorem z_lld7 {a0 a1 a2 a3 a4 a5 a6 : Option Value} {t : List (Option Value)} {x : Int64} (hd : decode (mB M) pc = .ok (.lload 7, 2)) (hq : pc + 2 = q) (k : Z M Po kc ks n σ q (a0 :: a1 :: a2 :: a3 :: a4 :: a5 :: a6 :: some (.long x) :: t) (.long x :: st)) : Z M Po kc ks n σ pc (a0 :: a1 :: a2 :: a3 :: a4 :: a5 :: a6 :: some (.long x) :: t) st := z_lload (i := 7) hd rfl hq k
theorem z_lst7 {a0 a1 a2 a3 a4 a5 a6 : Option Value} {o o2 : Option Value} {t : List (Option Value)} {x : Int64} (hd : decode (mB M) pc = .ok (.lstore 7, 2)) (hq : pc + 2 = q) (hk : zn2 a6 = true) (k : Z M Po kc ks n σ q (a0 :: a1 :: a2 :: a3 :: a4 :: a5 :: a6 :: some (.long x) :: none :: t) st) : Z M Po kc ks n σ pc (a0 :: a1 :: a2 :: a3 :: a4 :: a5 :: a6 :: o :: o2 :: t) (.long x :: st) := z_lstore (i := 7) hd (by simp only [List.length_cons]; omega) hk hq k
theorem z_ald7 {a0 a1 a2 a3 a4 a5 a6 : Option Value} {t : List (Option Value)} {x : Nat} (hd : decode (mB M) pc = .ok (.aload 7, 2)) (hq : pc + 2 = q) (k : Z M Po kc ks n σ q (a0 :: a1 :: a2 :: a3 :: a4 :: a5 :: a6 :: some (.ref x) :: t) (.ref x :: st)) : Z M Po kc ks n σ pc (a0 :: a1 :: a2 :: a3 :: a4 :: a5 :: a6 :: some (.ref x) :: t) st := z_aload (i := 7) hd rfl hq k
theorem z_ast7 {a0 a1 a2 a3 a4 a5 a6 : Option Value} {o : Option Value} {t : List (Option Value)} {x : Nat} (hd : decode (mB M) pc = .ok (.astore 7, 2)) (hq : pc + 2 = q) (hk : zn2 a6 = true) (k : Z M Po kc ks n σ q (a0 :: a1 :: a2 :: a3 :: a4 :: a5 :: a6 :: some (.ref x) :: t) st) : Z M Po kc ks n σ pc (a0 :: a1 :: a2 :: a3 :: a4 :: a5 :: a6 :: o :: t) (.ref x :: st) := z_astore (i := 7) hd (by simp only [List.length_cons]; omega) hk hq k
theorem zn_iinc7 {a0 a1 a2 a3 a4 a5 a6 : Option Value} {t : List (Option Value)} {x d : Nat} (hd : decode (mB M) pc = .ok (.iinc 7 (d : Int), 3)) (hq : pc + 3 = q) (hk : zn2 a6 = true) (k : Z M Po kc ks n σ q (a0 :: a1 :: a2 :: a3 :: a4 :: a5 :: a6 :: some (.int (nI (x + d))) :: t) st) : Z M Po kc ks n σ pc (a0 :: a1 :: a2 :: a3 :: a4 :: a5 :: a6 :: some (.int (nI x)) :: t) st := z_iinc (i := 7) hd rfl (show nI x + Int32.ofInt (d : Int) = nI (x + d) from nI_add x d) (by simp only [List.length_cons]; omega) hk hq k
theorem z_ild8 {a0 a1 a2 a3 a4 a5 a6 a7 : Option Value} {t : List (Option Value)} {x : Int32} (hd : decode (mB M) pc = .ok (.iload 8, 2)) (hq : pc + 2 = q) (k : Z M Po kc ks n σ q (a0 :: a1 :: a2 :: a3 :: a4 :: a5 :: a6 :: a7 :: some (.int x) :: t) (.int x :: st)) : Z M Po kc ks n σ pc (a0 :: a1 :: a2 :: a3 :: a4 :: a5 :: a6 :: a7 :: some (.int x) :: t) st := z_iload (i := 8) hd rfl hq k
theorem z_ist8 {a0 a1 a2 a3 a4 a5 a6 a7 : Option Value} {o : Option Value} {t : List (Option Value)} {x : Int32} (hd : decode (mB M) pc = .ok (.istore 8, 2)) (hq : pc + 2 = q) (hk : zn2 a7 = true) (k : Z M Po kc ks n σ q (a0 :: a1 :: a2 :: a3 :: a4 :: a5 :: a6 :: a7 :: some (.int x) :: t) st) : Z M Po kc ks n σ pc (a0 :: a1 :: a2 :: a3 :: a4 :: a5 :: a6 :: a7 :: o :: t) (.int x :: st) := z_istore (i := 8) hd (by simp only [List.length_cons]; omega) hk hq k
theorem z_lld8 {a0 a1 a2 a3 a4 a5 a6 a7 : Option Value} {t : List (Option Value)} {x : Int64} (hd : decode (mB M) pc = .ok (.lload 8, 2)) (hq : pc + 2 = q) (k : Z M Po kc ks n σ q (a0 :: a1 :: a2 :: a3 :: a4 :: a5 :: a6 :: a7 :: some (.long x) :: t) (.long x :: st)) : Z M Po kc ks n σ pc (a0 :: a1 :: a2 :: a3 :: a4 :: a5 :: a6 :: a7 :: some (.long x) :: t) st := z_lload (i := 8) hd rfl hq k
theorem z_lst8 {a0 a1 a2 a3 a4 a5 a6 a7 : Option Value} {o o2 : Option Value} {t : List (Option Value)} {x : Int64} (hd : decode (mB M) pc = .ok (.lstore 8, 2)) (hq : pc + 2 = q) (hk : zn2 a7 = true) (k : Z M Po kc ks n σ q (a0 :: a1 :: a2 :: a3 :: a4 :: a5 :: a6 :: a7 :: some (.long x) :: none :: t) st) : Z M Po kc ks n σ pc (a0 :: a1 :: a2 :: a3 :: a4 :: a5 :: a6 :: a7 :: o :: o2 :: t) (.long x :: st) := z_lstore (i := 8) hd (by simp only [List.length_cons]; omega) hk hq k
theorem z_ald8 {a0 a1 a2 a3 a4 a5 a6 a7 : Option Value} {t : List (Option Value)} {x : Nat} (hd : decode (mB M) pc = .ok (.aload 8, 2)) (hq : pc + 2 = q) (k : Z M Po kc ks n σ q (a0 :: a1 :: a2 :: a3 :: a4 :: a5 :: a6 :: a7 :: some (.ref x) :: t) (.ref x :: st)) : Z M Po kc ks n σ pc (a0 :: a1 :: a2 :: a3 :: a4 :: a5 :: a6 :: a7 :: some (.ref x) :: t) st := z_aload (i := 8) hd rfl hq k
theorem z_ast8 {a0 a1 a2 a3 a4 a5 a6 a7 : Option Value} {o : Option Value} {t : List (Option Value)} {x : Nat} (hd : decode (mB M) pc = .ok (.astore 8, 2)) (hq : pc + 2 = q) (hk : zn2 a7 = true) (k : Z M Po kc ks n σ q (a0 :: a1 :: a2 :: a3 :: a4 :: a5 :: a6 :: a7 :: some (.ref x) :: t) st) : Z M Po kc ks n σ pc (a0 :: a1 :: a2 :: a3 :: a4 :: a5 :: a6 :: a7 :: o :: t) (.ref x :: st) := z_astore (i := 8) hd (by simp only [List.length_cons]; omega) hk hq k
theorem zn_iinc8 {a0 a1 a2 a3 a4 a5 a6 a7 : Option Value} {t : List (Option Value)} {x d : Nat} (hd : decode (mB M) pc = .ok (.iinc 8 (d : Int), 3)) (hq : pc + 3 = q) (hk : zn2 a7 = true) (k : Z M Po kc ks n σ q (a0 :: a1 :: a2 :: a3 :: a4 :: a5 :: a6 :: a7 :: some (.int (nI (x + d))) :: t) st) : Z M Po kc ks n σ pc (a0 :: a1 :: a2 :: a3 :: a4 :: a5 :: a6 :: a7 :: some (.int (nI x)) :: t) st := z_iinc (i := 8) hd rfl (show nI x + Int32.ofInt (d : Int) = nI (x + d) from nI_add x d) (by simp only [List.length_cons]; omega) hk hq k
theorem z_ild9 {a0 a1 a2 a3 a4 a5 a6 a7 a8 : Option Value} {t : List (Option Value)} {x : Int32} (hd : decode (mB M) pc = .ok (.iload 9, 2)) (hq : pc + 2 = q) (k : Z M Po kc ks n σ q (a0 :: a1 :: a2 :: a3 :: a4 :: a5 :: a6 :: a7 :: a8 :: some (.int x) :: t) (.int x :: st)) : Z M Po kc ks n σ pc (a0 :: a1 :: a2 :: a3 :: a4 :: a5 :: a6 :: a7 :: a8 :: some (.int x) :: t) st := z_iload (i := 9) hd rfl hq k
theorem z_ist9 {a0 a1 a2 a3 a4 a5 a6 a7 a8 : Option Value} {o : Option Value} {t : List (Option Value)} {x : Int32} (hd : decode (mB M) pc = .ok (.istore 9, 2)) (hq : pc + 2 = q) (hk : zn2 a8 = true) (k : Z M Po kc ks n σ q (a0 :: a1 :: a2 :: a3 :: a4 :: a5 :: a6 :: a7 :: a8 :: some (.int x) :: t) st) : Z M Po kc ks n σ pc (a0 :: a1 :: a2 :: a3 :: a4 :: a5 :: a6 :: a7 :: a8 :: o :: t) (.int x :: st) := z_istore (i := 9) hd (by simp only [List.length_cons]; omega) hk hq k
theorem z_lld9 {a0 a1 a2 a3 a4 a5 a6 a7 a8 : Option Value} {t : List (Option Value)} {x : Int64} (hd : decode (mB M) pc = .ok (.lload 9, 2)) (hq : pc + 2 = q) (k : Z M Po kc ks n σ q (a0 :: a1 :: a2 :: a3 :: a4 :: a5 :: a6 :: a7 :: a8 :: some (.long x) :: t) (.long x :: st)) : Z M Po kc ks n σ pc (a0 :: a1 :: a2 :: a3 :: a4 :: a5 :: a6 :: a7 :: a8 :: some (.long x) :: t) st := z_lload (i := 9) hd rfl hq k
theorem z_lst9 {a0 a1 a2 a3 a4 a5 a6 a7 a8 : Option Value} {o o2 : Option Value} {t : List (Option Value)} {x : Int64} (hd : decode (mB M) pc = .ok (.lstore 9, 2)) (hq : pc + 2 = q) (hk : zn2 a8 = true) (k : Z M Po kc ks n σ q (a0 :: a1 :: a2 :: a3 :: a4 :: a5 :: a6 :: a7 :: a8 :: some (.long x) :: none :: t) st) : Z M Po kc ks n σ pc (a0 :: a1 :: a2 :: a3 :: a4 :: a5 :: a6 :: a7 :: a8 :: o :: o2 :: t) (.long x :: st) := z_lstore (i := 9) hd (by simp only [List.length_cons]; omega) hk hq k
theorem z_ald9 {a0 a1 a2 a3 a4 a5 a6 a7 a8 : Option Value} {t : List (Option Value)} {x : Nat} (hd : decode (mB M) pc = .ok (.aload 9, 2)) (hq : pc + 2 = q) (k : Z M Po kc ks n σ q (a0 :: a1 :: a2 :: a3 :: a4 :: a5 :: a6 :: a7 :: a8 :: some (.ref x) :: t) (.ref x :: st)) : Z M Po kc ks n σ pc (a0 :: a1 :: a2 :: a3 :: a4 :: a5 :: a6 :: a7 :: a8 :: some (.ref x) :: t) st := z_aload (i := 9) hd rfl hq k
theorem z_ast9 {a0 a1 a2 a3 a4 a5 a6 a7 a8 : Option Value} {o : Option Value} {t : List (Option Value)} {x : Nat} (hd : decode (mB M) pc = .ok (.astore 9, 2)) (hq : pc + 2 = q) (hk : zn2 a8 = true) (k : Z M Po kc ks n σ q (a0 :: a1 :: a2 :: a3 :: a4 :: a5 :: a6 :: a7 :: a8 :: some (.ref x) :: t) st) : Z M Po kc ks n σ pc (a0 :: a1 :: a2 :: a3 :: a4 :: a5 :: a6 :: a7 :: a8 :: o :: t) (.ref x :: st) := z_astore (i := 9) hd (by simp only [List.length_cons]; omega) hk hq k
theorem zn_iinc9 {a0 a1 a2 a3 a4 a5 a6 a7 a8 : Option Value} {t : List (Option Value)} {x d : Nat} (hd : decode (mB M) pc = .ok (.iinc 9 (d : Int), 3)) (hq : pc + 3 = q) (hk : zn2 a8 = true) (k : Z M Po kc ks n σ q (a0 :: a1 :: a2 :: a3 :: a4 :: a5 :: a6 :: a7 :: a8 :: some (.int (nI (x + d))) :: t) st) : Z M Po kc ks n σ pc (a0 :: a1 :: a2 :: a3 :: a4 :: a5 :: a6 :: a7 :: a8 :: some (.int (nI x)) :: t) st := z_iinc (i := 9) hd rfl (show nI x + Int32.ofInt (d : Int) = nI (x + d) from nI_add x d) (by simp only [List.length_cons]; omega) hk hq k
theorem z_ild10 {a0 a1 a2 a3 a4 a5 a6 a7 a8 a9 : Option Value} {t : List (Option Value)} {x : Int32} (hd : decode (mB M) pc = .ok (.iload 10, 2)) (hq : pc + 2 = q) (k : Z M Po kc ks n σ q (a0 :: a1 :: a2 :: a3 :: a4 :: a5 :: a6 :: a7 :: a8 :: a9 :: some (.int x) :: t) (.int x :: st)) : Z M Po kc ks n σ pc (a0 :: a1 :: a2 :: a3 :: a4 :: a5 :: a6 :: a7 :: a8 :: a9 :: some (.int x) :: t) st := z_iload (i := 10) hd rfl hq k
theorem z_ist10 {a0 a1 a2 a3 a4 a5 a6 a7 a8 a9 : Option Value} {o : Option Value} {t : List (Option Value)} {x : Int32} (hd : decode (mB M) pc = .ok (.istore 10, 2)) (hq : pc + 2 = q) (hk : zn2 a9 = true) (k : Z M Po kc ks n σ q (a0 :: a1 :: a2 :: a3 :: a4 :: a5 :: a6 :: a7 :: a8 :: a9 :: some (.int x) :: t) st) : Z M Po kc ks n σ pc (a0 :: a1 :: a2 :: a3 :: a4 :: a5 :: a6 :: a7 :: a8 :: a9 :: o :: t) (.int x :: st) := z_istore (i := 10) hd (by simp only [List.length_cons]; omega) hk hq k
theorem z_lld10 {a0 a1 a2 a3 a4 a5 a6 a7 a8 a9 : Option Value} {t : List (Option Value)} {x : Int64} (hd : decode (mB M) pc = .ok (.lload 10, 2)) (hq : pc + 2 = q) (k : Z M Po kc ks n σ q (a0 :: a1 :: a2 :: a3 :: a4 :: a5 :: a6 :: a7 :: a8 :: a9 :: some (.long x) :: t) (.long x :: st)) : Z M Po kc ks n σ pc (a0 :: a1 :: a2 :: a3 :: a4 :: a5 :: a6 :: a7 :: a8 :: a9 :: some (.long x) :: t) st := z_lload (i := 10) hd rfl hq k
theorem z_lst10 {a0 a1 a2 a3 a4 a5 a6 a7 a8 a9 : Option Value} {o o2 : Option Value} {t : List (Option Value)} {x : Int64} (hd : decode (mB M) pc = .ok (.lstore 10, 2)) (hq : pc + 2 = q) (hk : zn2 a9 = true) (k : Z M Po kc ks n σ q (a0 :: a1 :: a2 :: a3 :: a4 :: a5 :: a6 :: a7 :: a8 :: a9 :: some (.long x) :: none :: t) st) : Z M Po kc ks n σ pc (a0 :: a1 :: a2 :: a3 :: a4 :: a5 :: a6 :: a7 :: a8 :: a9 :: o :: o2 :: t) (.long x :: st) := z_lstore (i := 10) hd (by simp only [List.length_cons]; omega) hk hq k
theorem z_ald10 {a0 a1 a2 a3 a4 a5 a6 a7 a8 a9 : Option Value} {t : List (Option Value)} {x : Nat} (hd : decode (mB M) pc = .ok (.aload 10, 2)) (hq : pc + 2 = q) (k : Z M Po kc ks n σ q (a0 :: a1 :: a2 :: a3 :: a4 :: a5 :: a6 :: a7 :: a8 :: a9 :: some (.ref x) :: t) (.ref x :: st)) : Z M Po kc ks n σ pc (a0 :: a1 :: a2 :: a3 :: a4 :: a5 :: a6 :: a7 :: a8 :: a9 :: some (.ref x) :: t) st := z_aload (i := 10) hd rfl hq k
theorem z_ast10 {a0 a1 a2 a3 a4 a5 a6 a7 a8 a9 : Option Value} {o : Option Value} {t : List (Option Value)} {x : Nat} (hd : decode (mB M) pc = .ok (.astore 10, 2)) (hq : pc + 2 = q) (hk : zn2 a9 = true) (k : Z M Po kc ks n σ q (a0 :: a1 :: a2 :: a3 :: a4 :: a5 :: a6 :: a7 :: a8 :: a9 :: some (.ref x) :: t) st) : Z M Po kc ks n σ pc (a0 :: a1 :: a2 :: a3 :: a4 :: a5 :: a6 :: a7 :: a8 :: a9 :: o :: t) (.ref x :: st) := z_astore (i := 10) hd (by simp only [List.length_cons]; omega) hk hq k
theorem zn_iinc10 {a0 a1 a2 a3 a4 a5 a6 a7 a8 a9 : Option Value} {t : List (Option Value)} {x d : Nat} (hd : decode (mB M) pc = .ok (.iinc 10 (d : Int), 3)) (hq : pc + 3 = q) (hk : zn2 a9 = true) (k : Z M Po kc ks n σ q (a0 :: a1 :: a2 :: a3 :: a4 :: a5 :: a6 :: a7 :: a8 :: a9 :: some (.int (nI (x + d))) :: t) st) : Z M Po kc ks n σ pc (a0 :: a1 :: a2 :: a3 :: a4 :: a5 :: a6 :: a7 :: a8 :: a9 :: some (.int (nI x)) :: t) st := z_iinc (i := 10) hd rfl (show nI x + Int32.ofInt (d : Int) = nI (x + d) from nI_add x d) (by simp only [List.length_cons]; omega) hk hq k
theorem z_ild11 {a0 a1 a2 a3 a4 a5 a6 a7 a8 a9 a10 : Option Value} {t : List (Option Value)} {x : Int32} (hd : decode (mB M) pc = .ok (.iload 11, 2)) (hq : pc + 2 = q) (k : Z M Po kc ks n σ q (a0 :: a1 :: a2 :: a3 :: a4 :: a5 :: a6 :: a7 :: a8 :: a9 :: a10 :: some (.int x) :: t) (.int x :: st)) : Z M Po kc ks n σ pc (a0 :: a1 :: a2 :: a3 :: a4 :: a5 :: a6 :: a7 :: a8 :: a9 :: a10 :: some (.int x) :: t) st := z_iload (i := 11) hd rfl hq k
theorem z_ist11 {a0 a1 a2 a3 a4 a5 a6 a7 a8 a9 a10 : Option Value} {o : Option Value} {t : List (Option Value)} {x : Int32} (hd : decode (mB M) pc = .ok (.istore 11, 2)) (hq : pc + 2 = q) (hk : zn2 a10 = true) (k : Z M Po kc ks n σ q (a0 :: a1 :: a2 :: a3 :: a4 :: a5 :: a6 :: a7 :: a8 :: a9 :: a10 :: some (.int x) :: t) st) : Z M Po kc ks n σ pc (a0 :: a1 :: a2 :: a3 :: a4 :: a5 :: a6 :: a7 :: a8 :: a9 :: a10 :: o :: t) (.int x :: st) := z_istore (i := 11) hd (by simp only [List.length_cons]; omega) hk hq k
theorem z_lld11 {a0 a1 a2 a3 a4 a5 a6 a7 a8 a9 a10 : Option Value} {t : List (Option Value)} {x : Int64} (hd : decode (mB M) pc = .ok (.lload 11, 2)) (hq : pc + 2 = q) (k : Z M Po kc ks n σ q (a0 :: a1 :: a2 :: a3 :: a4 :: a5 :: a6 :: a7 :: a8 :: a9 :: a10 :: some (.long x) :: t) (.long x :: st)) : Z M Po kc ks n σ pc (a0 :: a1 :: a2 :: a3 :: a4 :: a5 :: a6 :: a7 :: a8 :: a9 :: a10 :: some (.long x) :: t) st := z_lload (i := 11) hd rfl hq k
theorem z_lst11 {a0 a1 a2 a3 a4 a5 a6 a7 a8 a9 a10 : Option Value} {o o2 : Option Value} {t : List (Option Value)} {x : Int64} (hd : decode (mB M) pc = .ok (.lstore 11, 2)) (hq : pc + 2 = q) (hk : zn2 a10 = true) (k : Z M Po kc ks n σ q (a0 :: a1 :: a2 :: a3 :: a4 :: a5 :: a6 :: a7 :: a8 :: a9 :: a10 :: some (.long x) :: none :: t) st) : Z M Po kc ks n σ pc (a0 :: a1 :: a2 :: a3 :: a4 :: a5 :: a6 :: a7 :: a8 :: a9 :: a10 :: o :: o2 :: t) (.long x :: st) := z_lstore (i := 11) hd (by simp only [List.length_cons]; omega) hk hq k
theorem z_ald11 {a0 a1 a2 a3 a4 a5 a6 a7 a8 a9 a10 : Option Value} {t : List (Option Value)} {x : Nat} (hd : decode (mB M) pc = .ok (.aload 11, 2)) (hq : pc + 2 = q) (k : Z M Po kc ks n σ q (a0 :: a1 :: a2 :: a3 :: a4 :: a5 :: a6 :: a7 :: a8 :: a9 :: a10 :: some (.ref x) :: t) (.ref x :: st)) : Z M Po kc ks n σ pc (a0 :: a1 :: a2 :: a3 :: a4 :: a5 :: a6 :: a7 :: a8 :: a9 :: a10 :: some (.ref x) :: t) st := z_aload (i := 11) hd rfl hq k
theorem z_ast11 {a0 a1 a2 a3 a4 a5 a6 a7 a8 a9 a10 : Option Value} {o : Option Value} {t : List (Option Value)} {x : Nat} (hd : decode (mB M) pc = .ok (.astore 11, 2)) (hq : pc + 2 = q) (hk : zn2 a10 = true) (k : Z M Po kc ks n σ q (a0 :: a1 :: a2 :: a3 :: a4 :: a5 :: a6 :: a7 :: a8 :: a9 :: a10 :: some (.ref x) :: t) st) : Z M Po kc ks n σ pc (a0 :: a1 :: a2 :: a3 :: a4 :: a5 :: a6 :: a7 :: a8 :: a9 :: a10 :: o :: t) (.ref x :: st) := z_astore (i := 11) hd (by simp only [List.length_cons]; omega) hk hq k
theorem zn_iinc11 {a0 a1 a2 a3 a4 a5 a6 a7 a8 a9 a10 : Option Value} {t : List (Option Value)} {x d : Nat} (hd : decode (mB M) pc = .ok (.iinc 11 (d : Int), 3)) (hq : pc + 3 = q) (hk : zn2 a10 = true) (k : Z M Po kc ks n σ q (a0 :: a1 :: a2 :: a3 :: a4 :: a5 :: a6 :: a7 :: a8 :: a9 :: a10 :: some (.int (nI (x + d))) :: t) st) : Z M Po kc ks n σ pc (a0 :: a1 :: a2 :: a3 :: a4 :: a5 :: a6 :: a7 :: a8 :: a9 :: a10 :: some (.int (nI x)) :: t) st := z_iinc (i := 11) hd rfl (show nI x + Int32.ofInt (d : Int) = nI (x + d) from nI_add x d) (by simp only [List.length_cons]; omega) hk hq k
theorem z_ild12 {a0 a1 a2 a3 a4 a5 a6 a7 a8 a9 a10 a11 : Option Value} {t : List (Option Value)} {x : Int32} (hd : decode (mB M) pc = .ok (.iload 12, 2)) (hq : pc + 2 = q) (k : Z M Po kc ks n σ q (a0 :: a1 :: a2 :: a3 :: a4 :: a5 :: a6 :: a7 :: a8 :: a9 :: a10 :: a11 :: some (.int x) :: t) (.int x :: st)) : Z M Po kc ks n σ pc (a0 :: a1 :: a2 :: a3 :: a4 :: a5 :: a6 :: a7 :: a8 :: a9 :: a10 :: a11 :: some (.int x) :: t) st := z_iload (i := 12) hd rfl hq k
theorem z_ist12 {a0 a1 a2 a3 a4 a5 a6 a7 a8 a9 a10 a11 : Option Value} {o : Option Value} {t : List (Option Value)} {x : Int32} (hd : decode (mB M) pc = .ok (.istore 12, 2)) (hq : pc + 2 = q) (hk : zn2 a11 = true) (k : Z M Po kc ks n σ q (a0 :: a1 :: a2 :: a3 :: a4 :: a5 :: a6 :: a7 :: a8 :: a9 :: a10 :: a11 :: some (.int x) :: t) st) : Z M Po kc ks n σ pc (a0 :: a1 :: a2 :: a3 :: a4 :: a5 :: a6 :: a7 :: a8 :: a9 :: a10 :: a11 :: o :: t) (.int x :: st) := z_istore (i := 12) hd (by simp only [List.length_cons]; omega) hk hq k
theorem z_lld12 {a0 a1 a2 a3 a4 a5 a6 a7 a8 a9 a10 a11 : Option Value} {t : List (Option Value)} {x : Int64} (hd : decode (mB M) pc = .ok (.lload 12, 2)) (hq : pc + 2 = q) (k : Z M Po kc ks n σ q (a0 :: a1 :: a2 :: a3 :: a4 :: a5 :: a6 :: a7 :: a8 :: a9 :: a10 :: a11 :: some (.long x) :: t) (.long x :: st)) : Z M Po kc ks n σ pc (a0 :: a1 :: a2 :: a3 :: a4 :: a5 :: a6 :: a7 :: a8 :: a9 :: a10 :: a11 :: some (.long x) :: t) st := z_lload (i := 12) hd rfl hq k
theorem z_lst12 {a0 a1 a2 a3 a4 a5 a6 a7 a8 a9 a10 a11 : Option Value} {o o2 : Option Value} {t : List (Option Value)} {x : Int64} (hd : decode (mB M) pc = .ok (.lstore 12, 2)) (hq : pc + 2 = q) (hk : zn2 a11 = true) (k : Z M Po kc ks n σ q (a0 :: a1 :: a2 :: a3 :: a4 :: a5 :: a6 :: a7 :: a8 :: a9 :: a10 :: a11 :: some (.long x) :: none :: t) st) : Z M Po kc ks n σ pc (a0 :: a1 :: a2 :: a3 :: a4 :: a5 :: a6 :: a7 :: a8 :: a9 :: a10 :: a11 :: o :: o2 :: t) (.long x :: st) := z_lstore (i := 12) hd (by simp only [List.length_cons]; omega) hk hq k
theorem z_ald12 {a0 a1 a2 a3 a4 a5 a6 a7 a8 a9 a10 a11 : Option Value} {t : List (Option Value)} {x : Nat} (hd : decode (mB M) pc = .ok (.aload 12, 2)) (hq : pc + 2 = q) (k : Z M Po kc ks n σ q (a0 :: a1 :: a2 :: a3 :: a4 :: a5 :: a6 :: a7 :: a8 :: a9 :: a10 :: a11 :: some (.ref x) :: t) (.ref x :: st)) : Z M Po kc ks n σ pc (a0 :: a1 :: a2 :: a3 :: a4 :: a5 :: a6 :: a7 :: a8 :: a9 :: a10 :: a11 :: some (.ref x) :: t) st := z_aload (i := 12) hd rfl hq k
theorem z_ast12 {a0 a1 a2 a3 a4 a5 a6 a7 a8 a9 a10 a11 : Option Value} {o : Option Value} {t : List (Option Value)} {x : Nat} (hd : decode (mB M) pc = .ok (.astore 12, 2)) (hq : pc + 2 = q) (hk : zn2 a11 = true) (k : Z M Po kc ks n σ q (a0 :: a1 :: a2 :: a3 :: a4 :: a5 :: a6 :: a7 :: a8 :: a9 :: a10 :: a11 :: some (.ref x) :: t) st) : Z M Po kc ks n σ pc (a0 :: a1 :: a2 :: a3 :: a4 :: a5 :: a6 :: a7 :: a8 :: a9 :: a10 :: a11 :: o :: t) (.ref x :: st) := z_astore (i := 12) hd (by simp only [List.length_cons]; omega) hk hq k
theorem zn_iinc12 {a0 a1 a2 a3 a4 a5 a6 a7 a8 a9 a10 a11 : Option Value} {t : List (Option Value)} {x d : Nat} (hd : decode (mB M) pc = .ok (.iinc 12 (d : Int), 3)) (hq : pc + 3 = q) (hk : zn2 a11 = true) (k : Z M Po kc ks n σ q (a0 :: a1 :: a2 :: a3 :: a4 :: a5 :: a6 :: a7 :: a8 :: a9 :: a10 :: a11 :: some (.int (nI (x + d))) :: t) st) : Z M Po kc ks n σ pc (a0 :: a1 :: a2 :: a3 :: a4 :: a5 :: a6 :: a7 :: a8 :: a9 :: a10 :: a11 :: some (.int (nI x)) :: t) st := z_iinc (i := 12) hd rfl (show nI x + Int32.ofInt (d : Int) = nI (x + d) from nI_add x d) (by simp only [List.length_cons]; omega) hk hq k
theorem z_ild13 {a0 a1 a2 a3 a4 a5 a6 a7 a8 a9 a10 a11 a12 : Option Value} {t : List (Option Value)} {x : Int32} (hd : decode (mB M) pc = .ok (.iload 13, 2)) (hq : pc + 2 = q) (k : Z M Po kc ks n σ q (a0 :: a1 :: a2 :: a3 :: a4 :: a5 :: a6 :: a7 :: a8 :: a9 :: a10 :: a11 :: a12 :: some (.int x) :: t) (.int x :: st)) : Z M Po kc ks n σ pc (a0 :: a1 :: a2 :: a3 :: a4 :: a5 :: a6 :: a7 :: a8 :: a9 :: a10 :: a11 :: a12 :: some (.int x) :: t) st := z_iload (i := 13) hd rfl hq k
theorem z_ist13 {a0 a1 a2 a3 a4 a5 a6 a7 a8 a9 a10 a11 a12 : Option Value} {o : Option Value} {t : List (Option Value)} {x : Int32} (hd : decode (mB M) pc = .ok (.istore 13, 2)) (hq : pc + 2 = q) (hk : zn2 a12 = true) (k : Z M Po kc ks n σ q (a0 :: a1 :: a2 :: a3 :: a4 :: a5 :: a6 :: a7 :: a8 :: a9 :: a10 :: a11 :: a12 :: some (.int x) :: t) st) : Z M Po kc ks n σ pc (a0 :: a1 :: a2 :: a3 :: a4 :: a5 :: a6 :: a7 :: a8 :: a9 :: a10 :: a11 :: a12 :: o :: t) (.int x :: st) := z_istore (i := 13) hd (by simp only [List.length_cons]; omega) hk hq k
theorem z_lld13 {a0 a1 a2 a3 a4 a5 a6 a7 a8 a9 a10 a11 a12 : Option Value} {t : List (Option Value)} {x : Int64} (hd : decode (mB M) pc = .ok (.lload 13, 2)) (hq : pc + 2 = q) (k : Z M Po kc ks n σ q (a0 :: a1 :: a2 :: a3 :: a4 :: a5 :: a6 :: a7 :: a8 :: a9 :: a10 :: a11 :: a12 :: some (.long x) :: t) (.long x :: st)) : Z M Po kc ks n σ pc (a0 :: a1 :: a2 :: a3 :: a4 :: a5 :: a6 :: a7 :: a8 :: a9 :: a10 :: a11 :: a12 :: some (.long x) :: t) st := z_lload (i := 13) hd rfl hq k
theorem z_lst13 {a0 a1 a2 a3 a4 a5 a6 a7 a8 a9 a10 a11 a12 : Option Value} {o o2 : Option Value} {t : List (Option Value)} {x : Int64} (hd : decode (mB M) pc = .ok (.lstore 13, 2)) (hq : pc + 2 = q) (hk : zn2 a12 = true) (k : Z M Po kc ks n σ q (a0 :: a1 :: a2 :: a3 :: a4 :: a5 :: a6 :: a7 :: a8 :: a9 :: a10 :: a11 :: a12 :: some (.long x) :: none :: t) st) : Z M Po kc ks n σ pc (a0 :: a1 :: a2 :: a3 :: a4 :: a5 :: a6 :: a7 :: a8 :: a9 :: a10 :: a11 :: a12 :: o :: o2 :: t) (.long x :: st) := z_lstore (i := 13) hd (by simp only [List.length_cons]; omega) hk hq k
theorem z_ald13 {a0 a1 a2 a3 a4 a5 a6 a7 a8 a9 a10 a11 a12 : Option Value} {t : List (Option Value)} {x : Nat} (hd : decode (mB M) pc = .ok (.aload 13, 2)) (hq : pc + 2 = q) (k : Z M Po kc ks n σ q (a0 :: a1 :: a2 :: a3 :: a4 :: a5 :: a6 :: a7 :: a8 :: a9 :: a10 :: a11 :: a12 :: some (.ref x) :: t) (.ref x :: st)) : Z M Po kc ks n σ pc (a0 :: a1 :: a2 :: a3 :: a4 :: a5 :: a6 :: a7 :: a8 :: a9 :: a10 :: a11 :: a12 :: some (.ref x) :: t) st := z_aload (i := 13) hd rfl hq k
theorem z_ast13 {a0 a1 a2 a3 a4 a5 a6 a7 a8 a9 a10 a11 a12 : Option Value} {o : Option Value} {t : List (Option Value)} {x : Nat} (hd : decode (mB M) pc = .ok (.astore 13, 2)) (hq : pc + 2 = q) (hk : zn2 a12 = true) (k : Z M Po kc ks n σ q (a0 :: a1 :: a2 :: a3 :: a4 :: a5 :: a6 :: a7 :: a8 :: a9 :: a10 :: a11 :: a12 :: some (.ref x) :: t) st) : Z M Po kc ks n σ pc (a0 :: a1 :: a2 :: a3 :: a4 :: a5 :: a6 :: a7 :: a8 :: a9 :: a10 :: a11 :: a12 :: o :: t) (.ref x :: st) := z_astore (i := 13) hd (by simp only [List.length_cons]; omega) hk hq k
theorem zn_iinc13 {a0 a1 a2 a3 a4 a5 a6 a7 a8 a9 a10 a11 a12 : Option Value} {t : List (Option Value)} {x d : Nat} (hd : decode (mB M) pc = .ok (.iinc 13 (d : Int), 3)) (hq : pc + 3 = q) (hk : zn2 a12 = true) (k : Z M Po kc ks n σ q (a0 :: a1 :: a2 :: a3 :: a4 :: a5 :: a6 :: a7 :: a8 :: a9 :: a10 :: a11 :: a12 :: some (.int (nI (x + d))) :: t) st) : Z M Po kc ks n σ pc (a0 :: a1 :: a2 :: a3 :: a4 :: a5 :: a6 :: a7 :: a8 :: a9 :: a10 :: a11 :: a12 :: some (.int (nI x)) :: t) st := z_iinc (i := 13) hd rfl (show nI x + Int32.ofInt (d : Int) = nI (x + d) from nI_add x d) (by simp only [List.length_cons]; omega) hk hq k
theorem z_ild14 {a0 a1 a2 a3 a4 a5 a6 a7 a8 a9 a10 a11 a12 a13 : Option Value} {t : List (Option Value)} {x : Int32} (hd : decode (mB M) pc = .ok (.iload 14, 2)) (hq : pc + 2 = q) (k : Z M Po kc ks n σ q (a0 :: a1 :: a2 :: a3 :: a4 :: a5 :: a6 :: a7 :: a8 :: a9 :: a10 :: a11 :: a12 :: a13 :: some (.int x) :: t) (.int x :: st)) : Z M Po kc ks n σ pc (a0 :: a1 :: a2 :: a3 :: a4 :: a5 :: a6 :: a7 :: a8 :: a9 :: a10 :: a11 :: a12 :: a13 :: some (.int x) :: t) st := z_iload (i := 14) hd rfl hq k
theorem z_ist14 {a0 a1 a2 a3 a4 a5 a6 a7 a8 a9 a10 a11 a12 a13 : Option Value} {o : Option Value} {t : List (Option Value)} {x : Int32} (hd : decode (mB M) pc = .ok (.istore 14, 2)) (hq : pc + 2 = q) (hk : zn2 a13 = true) (k : Z M Po kc ks n σ q (a0 :: a1 :: a2 :: a3 :: a4 :: a5 :: a6 :: a7 :: a8 :: a9 :: a10 :: a11 :: a12 :: a13 :: some (.int x) :: t) st) : Z M Po kc ks n σ pc (a0 :: a1 :: a2 :: a3 :: a4 :: a5 :: a6 :: a7 :: a8 :: a9 :: a10 :: a11 :: a12 :: a13 :: o :: t) (.int x :: st) := z_istore (i := 14) hd (by simp only [List.length_cons]; omega) hk hq k
theorem z_lld14 {a0 a1 a2 a3 a4 a5 a6 a7 a8 a9 a10 a11 a12 a13 : Option Value} {t : List (Option Value)} {x : Int64} (hd : decode (mB M) pc = .ok (.lload 14, 2)) (hq : pc + 2 = q) (k : Z M Po kc ks n σ q (a0 :: a1 :: a2 :: a3 :: a4 :: a5 :: a6 :: a7 :: a8 :: a9 :: a10 :: a11 :: a12 :: a13 :: some (.long x) :: t) (.long x :: st)) : Z M Po kc ks n σ pc (a0 :: a1 :: a2 :: a3 :: a4 :: a5 :: a6 :: a7 :: a8 :: a9 :: a10 :: a11 :: a12 :: a13 :: some (.long x) :: t) st := z_lload (i := 14) hd rfl hq k
theorem z_lst14 {a0 a1 a2 a3 a4 a5 a6 a7 a8 a9 a10 a11 a12 a13 : Option Value} {o o2 : Option Value} {t : List (Option Value)} {x : Int64} (hd : decode (mB M) pc = .ok (.lstore 14, 2)) (hq : pc + 2 = q) (hk : zn2 a13 = true) (k : Z M Po kc ks n σ q (a0 :: a1 :: a2 :: a3 :: a4 :: a5 :: a6 :: a7 :: a8 :: a9 :: a10 :: a11 :: a12 :: a13 :: some (.long x) :: none :: t) st) : Z M Po kc ks n σ pc (a0 :: a1 :: a2 :: a3 :: a4 :: a5 :: a6 :: a7 :: a8 :: a9 :: a10 :: a11 :: a12 :: a13 :: o :: o2 :: t) (.long x :: st) := z_lstore (i := 14) hd (by simp only [List.length_cons]; omega) hk hq k
theorem z_ald14 {a0 a1 a2 a3 a4 a5 a6 a7 a8 a9 a10 a11 a12 a13 : Option Value} {t : List (Option Value)} {x : Nat} (hd : decode (mB M) pc = .ok (.aload 14, 2)) (hq : pc + 2 = q) (k : Z M Po kc ks n σ q (a0 :: a1 :: a2 :: a3 :: a4 :: a5 :: a6 :: a7 :: a8 :: a9 :: a10 :: a11 :: a12 :: a13 :: some (.ref x) :: t) (.ref x :: st)) : Z M Po kc ks n σ pc (a0 :: a1 :: a2 :: a3 :: a4 :: a5 :: a6 :: a7 :: a8 :: a9 :: a10 :: a11 :: a12 :: a13 :: some (.ref x) :: t) st := z_aload (i := 14) hd rfl hq k
theorem z_ast14 {a0 a1 a2 a3 a4 a5 a6 a7 a8 a9 a10 a11 a12 a13 : Option Value} {o : Option Value} {t : List (Option Value)} {x : Nat} (hd : decode (mB M) pc = .ok (.astore 14, 2)) (hq : pc + 2 = q) (hk : zn2 a13 = true) (k : Z M Po kc ks n σ q (a0 :: a1 :: a2 :: a3 :: a4 :: a5 :: a6 :: a7 :: a8 :: a9 :: a10 :: a11 :: a12 :: a13 :: some (.ref x) :: t) st) : Z M Po kc ks n σ pc (a0 :: a1 :: a2 :: a3 :: a4 :: a5 :: a6 :: a7 :: a8 :: a9 :: a10 :: a11 :: a12 :: a13 :: o :: t) (.ref x :: st) := z_astore (i := 14) hd (by simp only [List.length_cons]; omega) hk hq k
theorem zn_iinc14 {a0 a1 a2 a3 a4 a5 a6 a7 a8 a9 a10 a11 a12 a13 : Option Value} {t : List (Option Value)} {x d : Nat} (hd : decode (mB M) pc = .ok (.iinc 14 (d : Int), 3)) (hq : pc + 3 = q) (hk : zn2 a13 = true) (k : Z M Po kc ks n σ q (a0 :: a1 :: a2 :: a3 :: a4 :: a5 :: a6 :: a7 :: a8 :: a9 :: a10 :: a11 :: a12 :: a13 :: some (.int (nI (x + d))) :: t) st) : Z M Po kc ks n σ pc (a0 :: a1 :: a2 :: a3 :: a4 :: a5 :: a6 :: a7 :: a8 :: a9 :: a10 :: a11 :: a12 :: a13 :: some (.int (nI x)) :: t) st := z_iinc (i := 14) hd rfl (show nI x + Int32.ofInt (d : Int) = nI (x + d) from nI_add x d) (by simp only [List.length_cons]; omega) hk hq k
theorem z_ild15 {a0 a1 a2 a3 a4 a5 a6 a7 a8 a9 a10 a11 a12 a13 a14 : Option Value} {t : List (Option Value)} {x : Int32} (hd : decode (mB M) pc = .ok (.iload 15, 2)) (hq : pc + 2 = q) (k : Z M Po kc ks n σ q (a0 :: a1 :: a2 :: a3 :: a4 :: a5 :: a6 :: a7 :: a8 :: a9 :: a10 :: a11 :: a12 :: a13 :: a14 :: some (.int x) :: t) (.int x :: st)) : Z M Po kc ks n σ pc (a0 :: a1 :: a2 :: a3 :: a4 :: a5 :: a6 :: a7 :: a8 :: a9 :: a10 :: a11 :: a12 :: a13 :: a14 :: some (.int x) :: t) st := z_iload (i := 15) hd rfl hq k
theorem z_ist15 {a0 a1 a2 a3 a4 a5 a6 a7 a8 a9 a10 a11 a12 a13 a14 : Option Value} {o : Option Value} {t : List (Option Value)} {x : Int32} (hd : decode (mB M) pc = .ok (.istore 15, 2)) (hq : pc + 2 = q) (hk : zn2 a14 = true) (k : Z M Po kc ks n σ q (a0 :: a1 :: a2 :: a3 :: a4 :: a5 :: a6 :: a7 :: a8 :: a9 :: a10 :: a11 :: a12 :: a13 :: a14 :: some (.int x) :: t) st) : Z M Po kc ks n σ pc (a0 :: a1 :: a2 :: a3 :: a4 :: a5 :: a6 :: a7 :: a8 :: a9 :: a10 :: a11 :: a12 :: a13 :: a14 :: o :: t) (.int x :: st) := z_istore (i := 15) hd (by simp only [List.length_cons]; omega) hk hq k
theorem z_lld15 {a0 a1 a2 a3 a4 a5 a6 a7 a8 a9 a10 a11 a12 a13 a14 : Option Value} {t : List (Option Value)} {x : Int64} (hd : decode (mB M) pc = .ok (.lload 15, 2)) (hq : pc + 2 = q) (k : Z M Po kc ks n σ q (a0 :: a1 :: a2 :: a3 :: a4 :: a5 :: a6 :: a7 :: a8 :: a9 :: a10 :: a11 :: a12 :: a13 :: a14 :: some (.long x) :: t) (.long x :: st)) : Z M Po kc ks n σ pc (a0 :: a1 :: a2 :: a3 :: a4 :: a5 :: a6 :: a7 :: a8 :: a9 :: a10 :: a11 :: a12 :: a13 :: a14 :: some (.long x) :: t) st := z_lload (i := 15) hd rfl hq k
theorem z_lst15 {a0 a1 a2 a3 a4 a5 a6 a7 a8 a9 a10 a11 a12 a13 a14 : Option Value} {o o2 : Option Value} {t : List (Option Value)} {x : Int64} (hd : decode (mB M) pc = .ok (.lstore 15, 2)) (hq : pc + 2 = q) (hk : zn2 a14 = true) (k : Z M Po kc ks n σ q (a0 :: a1 :: a2 :: a3 :: a4 :: a5 :: a6 :: a7 :: a8 :: a9 :: a10 :: a11 :: a12 :: a13 :: a14 :: some (.long x) :: none :: t) st) : Z M Po kc ks n σ pc (a0 :: a1 :: a2 :: a3 :: a4 :: a5 :: a6 :: a7 :: a8 :: a9 :: a10 :: a11 :: a12 :: a13 :: a14 :: o :: o2 :: t) (.long x :: st) := z_lstore (i := 15) hd (by simp only [List.length_cons]; omega) hk hq k
theorem z_ald15 {a0 a1 a2 a3 a4 a5 a6 a7 a8 a9 a10 a11 a12 a13 a14 : Option Value} {t : List (Option Value)} {x : Nat} (hd : decode (mB M) pc = .ok (.aload 15, 2)) (hq : pc + 2 = q) (k : Z M Po kc ks n σ q (a0 :: a1 :: a2 :: a3 :: a4 :: a5 :: a6 :: a7 :: a8 :: a9 :: a10 :: a11 :: a12 :: a13 :: a14 :: some (.ref x) :: t) (.ref x :: st)) : Z M Po kc ks n σ pc (a0 :: a1 :: a2 :: a3 :: a4 :: a5 :: a6 :: a7 :: a8 :: a9 :: a10 :: a11 :: a12 :: a13 :: a14 :: some (.ref x) :: t) st := z_aload (i := 15) hd rfl hq k
theorem z_ast15 {a0 a1 a2 a3 a4 a5 a6 a7 a8 a9 a10 a11 a12 a13 a14 : Option Value} {o : Option Value} {t : List (Option Value)} {x : Nat} (hd : decode (mB M) pc = .ok (.astore 15, 2)) (hq : pc + 2 = q) (hk : zn2 a14 = true) (k : Z M Po kc ks n σ q (a0 :: a1 :: a2 :: a3 :: a4 :: a5 :: a6 :: a7 :: a8 :: a9 :: a10 :: a11 :: a12 :: a13 :: a14 :: some (.ref x) :: t) st) : Z M Po kc ks n σ pc (a0 :: a1 :: a2 :: a3 :: a4 :: a5 :: a6 :: a7 :: a8 :: a9 :: a10 :: a11 :: a12 :: a13 :: a14 :: o :: t) (.ref x :: st) := z_astore (i := 15) hd (by simp only [List.length_cons]; omega) hk hq k
theorem zn_iinc15 {a0 a1 a2 a3 a4 a5 a6 a7 a8 a9 a10 a11 a12 a13 a14 : Option Value} {t : List (Option Value)} {x d : Nat} (hd : decode (mB M) pc = .ok (.iinc 15 (d : Int), 3)) (hq : pc + 3 = q) (hk : zn2 a14 = true) (k : Z M Po kc ks n σ q (a0 :: a1 :: a2 :: a3 :: a4 :: a5 :: a6 :: a7 :: a8 :: a9 :: a10 :: a11 :: a12 :: a13 :: a14 :: some (.int (nI (x + d))) :: t) st) : Z M Po kc ks n σ pc (a0 :: a1 :: a2 :: a3 :: a4 :: a5 :: a6 :: a7 :: a8 :: a9 :: a10 :: a11 :: a12 :: a13 :: a14 :: some (.int (nI x)) :: t) st := z_iinc (i := 15) hd rfl (show nI x + Int32.ofInt (d : Int) = nI (x + d) from nI_add x d) (by simp only [List.length_cons]; omega) hk hq k
theorem z_ild16 {a0 a1 a2 a3 a4 a5 a6 a7 a8 a9 a10 a11 a12 a13 a14 a15 : Option Value} {t : List (Option Value)} {x : Int32} (hd : decode (mB M) pc = .ok (.iload 16, 2)) (hq : pc + 2 = q) (k : Z M Po kc ks n σ q (a0 :: a1 :: a2 :: a3 :: a4 :: a5 :: a6 :: a7 :: a8 :: a9 :: a10 :: a11 :: a12 :: a13 :: a14 :: a15 :: some (.int x) :: t) (.int x :: st)) : Z M Po kc ks n σ pc (a0 :: a1 :: a2 :: a3 :: a4 :: a5 :: a6 :: a7 :: a8 :: a9 :: a10 :: a11 :: a12 :: a13 :: a14 :: a15 :: some (.int x) :: t) st := z_iload (i := 16) hd rfl hq k
theorem z_ist16 {a0 a1 a2 a3 a4 a5 a6 a7 a8 a9 a10 a11 a12 a13 a14 a15 : Option Value} {o : Option Value} {t : List (Option Value)} {x : Int32} (hd : decode (mB M) pc = .ok (.istore 16, 2)) (hq : pc + 2 = q) (hk : zn2 a15 = true) (k : Z M Po kc ks n σ q (a0 :: a1 :: a2 :: a3 :: a4 :: a5 :: a6 :: a7 :: a8 :: a9 :: a10 :: a11 :: a12 :: a13 :: a14 :: a15 :: some (.int x) :: t) st) : Z M Po kc ks n σ pc (a0 :: a1 :: a2 :: a3 :: a4 :: a5 :: a6 :: a7 :: a8 :: a9 :: a10 :: a11 :: a12 :: a13 :: a14 :: a15 :: o :: t) (.int x :: st) := z_istore (i := 16) hd (by simp only [List.length_cons]; omega) hk hq k
theorem z_lld16 {a0 a1 a2 a3 a4 a5 a6 a7 a8 a9 a10 a11 a12 a13 a14 a15 : Option Value} {t : List (Option Value)} {x : Int64} (hd : decode (mB M) pc = .ok (.lload 16, 2)) (hq : pc + 2 = q) (k : Z M Po kc ks n σ q (a0 :: a1 :: a2 :: a3 :: a4 :: a5 :: a6 :: a7 :: a8 :: a9 :: a10 :: a11 :: a12 :: a13 :: a14 :: a15 :: some (.long x) :: t) (.long x :: st)) : Z M Po kc ks n σ pc (a0 :: a1 :: a2 :: a3 :: a4 :: a5 :: a6 :: a7 :: a8 :: a9 :: a10 :: a11 :: a12 :: a13 :: a14 :: a15 :: some (.long x) :: t) st := z_lload (i := 16) hd rfl hq k
theorem z_lst16 {a0 a1 a2 a3 a4 a5 a6 a7 a8 a9 a10 a11 a12 a13 a14 a15 : Option Value} {o o2 : Option Value} {t : List (Option Value)} {x : Int64} (hd : decode (mB M) pc = .ok (.lstore 16, 2)) (hq : pc + 2 = q) (hk : zn2 a15 = true) (k : Z M Po kc ks n σ q (a0 :: a1 :: a2 :: a3 :: a4 :: a5 :: a6 :: a7 :: a8 :: a9 :: a10 :: a11 :: a12 :: a13 :: a14 :: a15 :: some (.long x) :: none :: t) st) : Z M Po kc ks n σ pc (a0 :: a1 :: a2 :: a3 :: a4 :: a5 :: a6 :: a7 :: a8 :: a9 :: a10 :: a11 :: a12 :: a13 :: a14 :: a15 :: o :: o2 :: t) (.long x :: st) := z_lstore (i := 16) hd (by simp only [List.length_cons]; omega) hk hq k
theorem z_ald16 {a0 a1 a2 a3 a4 a5 a6 a7 a8 a9 a10 a11 a12 a13 a14 a15 : Option Value} {t : List (Option Value)} {x : Nat} (hd : decode (mB M) pc = .ok (.aload 16, 2)) (hq : pc + 2 = q) (k : Z M Po kc ks n σ q (a0 :: a1 :: a2 :: a3 :: a4 :: a5 :: a6 :: a7 :: a8 :: a9 :: a10 :: a11 :: a12 :: a13 :: a14 :: a15 :: some (.ref x) :: t) (.ref x :: st)) : Z M Po kc ks n σ pc (a0 :: a1 :: a2 :: a3 :: a4 :: a5 :: a6 :: a7 :: a8 :: a9 :: a10 :: a11 :: a12 :: a13 :: a14 :: a15 :: some (.ref x) :: t) st := z_aload (i := 16) hd rfl hq k
theorem z_ast16 {a0 a1 a2 a3 a4 a5 a6 a7 a8 a9 a10 a11 a12 a13 a14 a15 : Option Value} {o : Option Value} {t : List (Option Value)} {x : Nat} (hd : decode (mB M) pc = .ok (.astore 16, 2)) (hq : pc + 2 = q) (hk : zn2 a15 = true) (k : Z M Po kc ks n σ q (a0 :: a1 :: a2 :: a3 :: a4 :: a5 :: a6 :: a7 :: a8 :: a9 :: a10 :: a11 :: a12 :: a13 :: a14 :: a15 :: some (.ref x) :: t) st) : Z M Po kc ks n σ pc (a0 :: a1 :: a2 :: a3 :: a4 :: a5 :: a6 :: a7 :: a8 :: a9 :: a10 :: a11 :: a12 :: a13 :: a14 :: a15 :: o :: t) (.ref x :: st) := z_astore (i := 16) hd (by simp only [List.length_cons]; omega) hk hq k
theorem zn_iinc16 {a0 a1 a2 a3 a4 a5 a6 a7 a8 a9 a10 a11 a12 a13 a14 a15 : Option Value} {t : List (Option Value)} {x d : Nat} (hd : decode (mB M) pc = .ok (.iinc 16 (d : Int), 3)) (hq : pc + 3 = q) (hk : zn2 a15 = true) (k : Z M Po kc ks n σ q (a0 :: a1 :: a2 :: a3 :: a4 :: a5 :: a6 :: a7 :: a8 :: a9 :: a10 :: a11 :: a12 :: a13 :: a14 :: a15 :: some (.int (nI (x + d))) :: t) st) : Z M Po kc ks n σ pc (a0 :: a1 :: a2 :: a3 :: a4 :: a5 :: a6 :: a7 :: a8 :: a9 :: a10 :: a11 :: a12 :: a13 :: a14 :: a15 :: some (.int (nI x)) :: t) st := z_iinc (i := 16) hd rfl (show nI x + Int32.ofInt (d : Int) = nI (x + d) from nI_add x d) (by simp only [List.length_cons]; omega) hk hq k
theorem z_ild17 {a0 a1 a2 a3 a4 a5 a6 a7 a8 a9 a10 a11 a12 a13 a14 a15 a16 : Option Value} {t : List (Option Value)} {x : Int32} (hd : decode (mB M) pc = .ok (.iload 17, 2)) (hq : pc + 2 = q) (k : Z M Po kc ks n σ q (a0 :: a1 :: a2 :: a3 :: a4 :: a5 :: a6 :: a7 :: a8 :: a9 :: a10 :: a11 :: a12 :: a13 :: a14 :: a15 :: a16 :: some (.int x) :: t) (.int x :: st)) : Z M Po kc ks n σ pc (a0 :: a1 :: a2 :: a3 :: a4 :: a5 :: a6 :: a7 :: a8 :: a9 :: a10 :: a11 :: a12 :: a13 :: a14 :: a15 :: a16 :: some (.int x) :: t) st := z_iload (i := 17) hd rfl hq k
theorem z_ist17 {a0 a1 a2 a3 a4 a5 a6 a7 a8 a9 a10 a11 a12 a13 a14 a15 a16 : Option Value} {o : Option Value} {t : List (Option Value)} {x : Int32} (hd : decode (mB M) pc = .ok (.istore 17, 2)) (hq : pc + 2 = q) (hk : zn2 a16 = true) (k : Z M Po kc ks n σ q (a0 :: a1 :: a2 :: a3 :: a4 :: a5 :: a6 :: a7 :: a8 :: a9 :: a10 :: a11 :: a12 :: a13 :: a14 :: a15 :: a16 :: some (.int x) :: t) st) : Z M Po kc ks n σ pc (a0 :: a1 :: a2 :: a3 :: a4 :: a5 :: a6 :: a7 :: a8 :: a9 :: a10 :: a11 :: a12 :: a13 :: a14 :: a15 :: a16 :: o :: t) (.int x :: st) := z_istore (i := 17) hd (by simp only [List.length_cons]; omega) hk hq k
theorem z_lld17 {a0 a1 a2 a3 a4 a5 a6 a7 a8 a9 a10 a11 a12 a13 a14 a15 a16 : Option Value} {t : List (Option Value)} {x : Int64} (hd : decode (mB M) pc = .ok (.lload 17, 2)) (hq : pc + 2 = q) (k : Z M Po kc ks n σ q (a0 :: a1 :: a2 :: a3 :: a4 :: a5 :: a6 :: a7 :: a8 :: a9 :: a10 :: a11 :: a12 :: a13 :: a14 :: a15 :: a16 :: some (.long x) :: t) (.long x :: st)) : Z M Po kc ks n σ pc (a0 :: a1 :: a2 :: a3 :: a4 :: a5 :: a6 :: a7 :: a8 :: a9 :: a10 :: a11 :: a12 :: a13 :: a14 :: a15 :: a16 :: some (.long x) :: t) st := z_lload (i := 17) hd rfl hq k
theorem z_lst17 {a0 a1 a2 a3 a4 a5 a6 a7 a8 a9 a10 a11 a12 a13 a14 a15 a16 : Option Value} {o o2 : Option Value} {t : List (Option Value)} {x : Int64} (hd : decode (mB M) pc = .ok (.lstore 17, 2)) (hq : pc + 2 = q) (hk : zn2 a16 = true) (k : Z M Po kc ks n σ q (a0 :: a1 :: a2 :: a3 :: a4 :: a5 :: a6 :: a7 :: a8 :: a9 :: a10 :: a11 :: a12 :: a13 :: a14 :: a15 :: a16 :: some (.long x) :: none :: t) st) : Z M Po kc ks n σ pc (a0 :: a1 :: a2 :: a3 :: a4 :: a5 :: a6 :: a7 :: a8 :: a9 :: a10 :: a11 :: a12 :: a13 :: a14 :: a15 :: a16 :: o :: o2 :: t) (.long x :: st) := z_lstore (i := 17) hd (by simp only [List.length_cons]; omega) hk hq k
theorem z_ald17 {a0 a1 a2 a3 a4 a5 a6 a7 a8 a9 a10 a11 a12 a13 a14 a15 a16 : Option Value} {t : List (Option Value)} {x : Nat} (hd : decode (mB M) pc = .ok (.aload 17, 2)) (hq : pc + 2 = q) (k : Z M Po kc ks n σ q (a0 :: a1 :: a2 :: a3 :: a4 :: a5 :: a6 :: a7 :: a8 :: a9 :: a10 :: a11 :: a12 :: a13 :: a14 :: a15 :: a16 :: some (.ref x) :: t) (.ref x :: st)) : Z M Po kc ks n σ pc (a0 :: a1 :: a2 :: a3 :: a4 :: a5 :: a6 :: a7 :: a8 :: a9 :: a10 :: a11 :: a12 :: a13 :: a14 :: a15 :: a16 :: some (.ref x) :: t) st := z_aload (i := 17) hd rfl hq k
theorem z_ast17 {a0 a1 a2 a3 a4 a5 a6 a7 a8 a9 a10 a11 a12 a13 a14 a15 a16 : Option Value} {o : Option Value} {t : List (Option Value)} {x : Nat} (hd : decode (mB M) pc = .ok (.astore 17, 2)) (hq : pc + 2 = q) (hk : zn2 a16 = true) (k : Z M Po kc ks n σ q (a0 :: a1 :: a2 :: a3 :: a4 :: a5 :: a6 :: a7 :: a8 :: a9 :: a10 :: a11 :: a12 :: a13 :: a14 :: a15 :: a16 :: some (.ref x) :: t) st) : Z M Po kc ks n σ pc (a0 :: a1 :: a2 :: a3 :: a4 :: a5 :: a6 :: a7 :: a8 :: a9 :: a10 :: a11 :: a12 :: a13 :: a14 :: a15 :: a16 :: o :: t) (.ref x :: st) := z_astore (i := 17) hd (by simp only [List.length_cons]; omega) hk hq k
theorem zn_iinc17 {a0 a1 a2 a3 a4 a5 a6 a7 a8 a9 a10 a11 a12 a13 a14 a15 a16 : Option Value} {t : List (Option Value)} {x d : Nat} (hd : decode (mB M) pc = .ok (.iinc 17 (d : Int), 3)) (hq : pc + 3 = q) (hk : zn2 a16 = true) (k : Z M Po kc ks n σ q (a0 :: a1 :: a2 :: a3 :: a4 :: a5 :: a6 :: a7 :: a8 :: a9 :: a10 :: a11 :: a12 :: a13 :: a14 :: a15 :: a16 :: some (.int (nI (x + d))) :: t) st) : Z M Po kc ks n σ pc (a0 :: a1 :: a2 :: a3 :: a4 :: a5 :: a6 :: a7 :: a8 :: a9 :: a10 :: a11 :: a12 :: a13 :: a14 :: a15 :: a16 :: some (.int (nI x)) :: t) st := z_iinc (i := 17) hd rfl (show nI x + Int32.ofInt (d : Int) = nI (x + d) from nI_add x d) (by simp only [List.length_cons]; omega) hk hq k
end ZR
