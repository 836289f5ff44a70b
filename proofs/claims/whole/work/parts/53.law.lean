/-! The law: its own judgement -/
/-! THE CLAIM OUT OF ONE WALK OF THE LAW'S BODY. Your part is whole_start (and what it stands on); all else here is the same for every law, but numbers. -/
def R_law : String := "RecurrentSeriesLaw"
def lw_P (b : Addr) (xs : List Int32) (args : Array Value) (s : State) : Prop := args = #[.ref b] ∧ s.IntsAt b xs ∧ xs.length ≤ 2560 ∧ (Jvm.Cond.and given_1 narrow_1).before args s = true
def lw_Q (_ : Array Value) (s : State) (o : Outcome) (t : State) : Prop := o = .returned (some (.int 1)) ∧ Framed s o t [] 600000 7302249
def lw_Z (below : List Frame) (a : Array Value) (s : State) : State → Prop := fun t => ∃ o, t.status = .running ∧ Ended t below o ∧ lw_Q a s o t
/-- the law's own end, with 1 on the stack, nothing written that was there before, its room as the claim has it -/
theorem lw_ret {p : Program} {l : Launch} {e : Env} {s : State} {m : MethodId} {below : List Frame} {meth : Method} {c : Code} {b : Nat} (hx : p.tables.exec = Jvm.exec) (hb : c.code = code) (hr : meth.sig.returnType = ret) (hlocks : meth.locks = false) {pc : Nat} {H : Heap} {ls : Array Slot} (hdg : decode code pc = .ok (.ireturn, 1)) : W p l e room_1 s m #[Value.ref b] below meth c H [] 600000 7302249 (lw_Z below #[Value.ref b] s) (F0 m pc ls [.int 1]) := by
  intro T hT X
  obtain ⟨fs, hret, hrun, hended, hW, hframe⟩ := X.leave (v := some (.int 1)) (hlocks := hlocks) (fun h => by rw [hr] at h; cases h)
  have hmeth' : T.vm.method? m = some meth := X.method'
  refine ⟨T.setFrames fs, ?_, .returned (some (.int 1)), hrun, hended, rfl, ⟨_, rfl⟩, hW, hframe⟩
  jvm_step X.here [X.here.top, hx, hb, hdg, hmeth', hr, ret, narrow_b1]
  (try refine ⟨rfl, ?_⟩); (try refine ⟨rfl, ?_⟩)
  first | (intro acts; rw [hret _ acts rfl rfl rfl]) | rw [hret _ _ rfl rfl rfl]
  exact Steps.refl _
/-- what holds at the law's entry: the machine, the code, the tables' words (any of lw_tbl by 'hts w (by decide +kernel)'), the script of L ints xs at the cell b, what the Statement gives of the start (any of its parts by flat_of_before) -/
def lw_At (p : Program) (s : State) (m : MethodId) (meth : Method) (c : Code) (b L : Nat) (xs : Nat → Int32) : Prop :=
  p.tables.exec = Jvm.exec ∧ c.code = code ∧ meth.sig.returnType = ret ∧ c.maxLocals = 4 ∧ s.vm.findClass R_law = some m.cls ∧ (∀ w ∈ lw_tbl, w.before #[Value.ref b] s = true) ∧ va_X b L xs s s.heap ∧ b < s.heap.size ∧ meth.locks = false ∧ (Jvm.Cond.and given_1 narrow_1).before #[Value.ref b] s = true
theorem zv0_ref (x : Nat) : zv 0 (.ref x) = .ref x := by show Value.ref (0 + x) = _; rw [Nat.zero_add]
theorem TB_good {M' : zMI} (h : Cond.code (mY M') (mB M') (mL M') (mT M') ∈ TB) : GoodIn TB (mW M') := by
  intro w hw
  have hT : w ∈ TB := by
    rcases List.mem_cons.mp hw with rfl | hw
    · exact h
    · exact hw
  exact ⟨hT, good_of_word (List.mem_filter.mp hT).2⟩
def lCx (p : Program) (s : State) (m : MethodId) (meth : Method) (c : Code) (b0 L : Nat) (xs : Nat → Int32) (G : Nat → ClassId) (D : va_G) : Prop :=
  p.tables.exec = Jvm.exec ∧ c.code = code ∧ c.maxLocals = 4 ∧ s.vm.findClass "RecurrentSeriesLaw" = some m.cls ∧ (∀ w ∈ TB, w.before #[Value.ref b0] s = true) ∧ (∀ w ∈ NB, va_Nw w s) ∧ meth.sig.returnType = ret ∧ meth.locks = false ∧ va_K D zCl (zt G) s ∧ va_X b0 L xs s s.heap ∧ b0 < s.heap.size
theorem lCx.tb {p : Program} {s : State} {m : MethodId} {meth : Method} {c : Code} {b0 L : Nat} {xs : Nat → Int32} {G : Nat → ClassId} {D : va_G} (h : lCx p s m meth c b0 L xs G D) {w : Cond} (hw : w ∈ TB) : w.before #[Value.ref b0] s = true := h.2.2.2.2.1 w hw
theorem lCx.nb {p : Program} {s : State} {m : MethodId} {meth : Method} {c : Code} {b0 L : Nat} {xs : Nat → Int32} {G : Nat → ClassId} {D : va_G} (h : lCx p s m meth c b0 L xs G D) {w : Cond} (hw : w ∈ NB) : va_Nw w s := h.2.2.2.2.2.1 w hw
theorem lCx.k {p : Program} {s : State} {m : MethodId} {meth : Method} {c : Code} {b0 L : Nat} {xs : Nat → Int32} {G : Nat → ClassId} {D : va_G} (h : lCx p s m meth c b0 L xs G D) : va_K D zCl (zt G) s := h.2.2.2.2.2.2.2.2.1
theorem lCx.x {p : Program} {s : State} {m : MethodId} {meth : Method} {c : Code} {b0 L : Nat} {xs : Nat → Int32} {G : Nat → ClassId} {D : va_G} (h : lCx p s m meth c b0 L xs G D) : va_X b0 L xs s s.heap := h.2.2.2.2.2.2.2.2.2.1
theorem lCx.lt {p : Program} {s : State} {m : MethodId} {meth : Method} {c : Code} {b0 L : Nat} {xs : Nat → Int32} {G : Nat → ClassId} {D : va_G} (h : lCx p s m meth c b0 L xs G D) : b0 < s.heap.size := h.2.2.2.2.2.2.2.2.2.2
def Y (p : Program) (l : Launch) (e : Env) (s : State) (m : MethodId) (below : List Frame) (meth : Method) (c : Code) (b0 : Nat) (G : Nat → ClassId) (D : va_G) (kc ks n : Nat) (σ : zWd) (pc : Nat) (lv : List (Option Value)) (st : List Value) : Prop :=
  ∀ (H : Heap) (locs : List Loc) (ls : Array Slot), H.size = s.heap.size + n → va_P D zCl (zw s.heap.size G n σ) H → va_S (fun q => s.heap.size ≤ q) s.heap H locs → zl 0 ls 4 lv →
    W p l e room_1 s m #[Value.ref b0] below meth c H locs kc ks (lw_Z below #[Value.ref b0] s) (F0 m pc ls (st.map (zv 0)))
section LW
variable {p : Program} {l : Launch} {e : Env} {s : State} {m : MethodId} {below : List Frame} {meth : Method} {c : Code} {b0 L : Nat} {xs : Nat → Int32} {G : Nat → ClassId} {D : va_G} {kc ks n : Nat} {σ : zWd} {pc q : Nat} {lv : List (Option Value)} {st : List Value}

theorem y_iload_n (hC : lCx p s m meth c b0 L xs G D) {j : Fin 4} {i : Nat} {x : Int32} (hd : decode code pc = .ok (.iload_n j, 1)) (hi : (j : Nat) = i) (hv : lv[i]? = some (some (.int x))) (hq : pc + 1 = q) (k : Y p l e s m below meth c b0 G D kc ks n σ q lv (.int x :: st)) : Y p l e s m below meth c b0 G D kc ks n σ pc lv st := by
  subst hq; intro H locs ls hz hP hS hl
  exact lv_iload_n hC.1 hC.2.1 hd hi (hl.2.2.2 _ _ hv) (k H locs ls hz hP hS hl)
theorem y_aload_n (hC : lCx p s m meth c b0 L xs G D) {j : Fin 4} {i : Nat} {x : Nat} (hd : decode code pc = .ok (.aload_n j, 1)) (hi : (j : Nat) = i) (hv : lv[i]? = some (some (.ref x))) (hq : pc + 1 = q) (k : Y p l e s m below meth c b0 G D kc ks n σ q lv (.ref x :: st)) : Y p l e s m below meth c b0 G D kc ks n σ pc lv st := by
  subst hq; intro H locs ls hz hP hS hl
  exact lv_aload_n hC.1 hC.2.1 hd hi (hl.2.2.2 _ _ hv) (k H locs ls hz hP hS hl)
theorem y_istore_n (hC : lCx p s m meth c b0 L xs G D) {j : Fin 4} {i : Nat} {x : Int32} (hd : decode code pc = .ok (.istore_n j, 1)) (hi : (j : Nat) = i) (hn : i < lv.length) (hk : zkb lv i = true) (hq : pc + 1 = q) (k : Y p l e s m below meth c b0 G D kc ks n σ q (lv.set i (some (.int x))) st) : Y p l e s m below meth c b0 G D kc ks n σ pc lv (.int x :: st) := by
  subst hq; intro H locs ls hz hP hS hl
  exact lv_istore_n hC.1 hC.2.1 hd hi (zl_has hl) (Nat.lt_of_lt_of_le hn hl.2.2.1) rfl (fun ls' h' => k H locs ls' hz hP hS (zl_set1 (x := .int x) hl hn hk h'))
theorem y_astore_n (hC : lCx p s m meth c b0 L xs G D) {j : Fin 4} {i : Nat} {x : Nat} (hd : decode code pc = .ok (.astore_n j, 1)) (hi : (j : Nat) = i) (hn : i < lv.length) (hk : zkb lv i = true) (hq : pc + 1 = q) (k : Y p l e s m below meth c b0 G D kc ks n σ q (lv.set i (some (.ref x))) st) : Y p l e s m below meth c b0 G D kc ks n σ pc lv (.ref x :: st) := by
  subst hq; intro H locs ls hz hP hS hl
  exact lv_astore_n hC.1 hC.2.1 hd hi (zl_has hl) (Nat.lt_of_lt_of_le hn hl.2.2.1) rfl (fun ls' h' => k H locs ls' hz hP hS (zl_set1 (x := .ref x) hl hn hk h'))
theorem y_iinc (hC : lCx p s m meth c b0 L xs G D) {i : Nat} {x v : Int32} {d : Int} (hd : decode code pc = .ok (.iinc i d, 3)) (hv : lv[i]? = some (some (.int x))) (hx : x + Int32.ofInt d = v) (hn : i < lv.length) (hk : zkb lv i = true) (hq : pc + 3 = q) (k : Y p l e s m below meth c b0 G D kc ks n σ q (lv.set i (some (.int v))) st) : Y p l e s m below meth c b0 G D kc ks n σ pc lv st := by
  subst hq; intro H locs ls hz hP hS hl
  obtain ⟨j, hj⟩ := List.getElem?_of_mem (zp_in (b := 0).mpr ⟨_, hv, rfl⟩)
  exact lv_iinc hC.1 hC.2.1 hd (zl_has hl) hj hx (Nat.lt_of_lt_of_le hn hl.2.2.1) rfl (fun ls' h' => k H locs ls' hz hP hS (zl_set1 (x := .int v) hl hn hk h'))
theorem y_iconst (hC : lCx p s m meth c b0 L xs G D) {i : Int} {v : Int32} (hd : decode code pc = .ok (.iconst i, 1)) (hq : pc + 1 = q) (hv : Int32.ofInt i = v) (k : Y p l e s m below meth c b0 G D kc ks n σ q lv (.int v :: st)) : Y p l e s m below meth c b0 G D kc ks n σ pc lv (st) := by
  subst hq; intro H locs ls hz hP hS hl
  exact lv_iconst hC.1 hC.2.1 hd hv (k H locs ls hz hP hS hl)
theorem y_bipush (hC : lCx p s m meth c b0 L xs G D) {i : Int} {v : Int32} (hd : decode code pc = .ok (.bipush i, 2)) (hq : pc + 2 = q) (hv : (Int8.ofInt i).toInt32 = v) (k : Y p l e s m below meth c b0 G D kc ks n σ q lv (.int v :: st)) : Y p l e s m below meth c b0 G D kc ks n σ pc lv (st) := by
  subst hq; intro H locs ls hz hP hS hl
  exact lv_bipush hC.1 hC.2.1 hd hv (k H locs ls hz hP hS hl)
theorem y_iadd (hC : lCx p s m meth c b0 L xs G D) {x y : Int32} (hd : decode code pc = .ok (.iadd, 1)) (hq : pc + 1 = q)  (k : Y p l e s m below meth c b0 G D kc ks n σ q lv (.int (x + y) :: st)) : Y p l e s m below meth c b0 G D kc ks n σ pc lv (.int y :: .int x :: st) := by
  subst hq; intro H locs ls hz hP hS hl
  exact lv_iadd hC.1 hC.2.1 hd (k H locs ls hz hP hS hl)
theorem y_isub (hC : lCx p s m meth c b0 L xs G D) {x y : Int32} (hd : decode code pc = .ok (.isub, 1)) (hq : pc + 1 = q)  (k : Y p l e s m below meth c b0 G D kc ks n σ q lv (.int (x - y) :: st)) : Y p l e s m below meth c b0 G D kc ks n σ pc lv (.int y :: .int x :: st) := by
  subst hq; intro H locs ls hz hP hS hl
  exact lv_isub hC.1 hC.2.1 hd (k H locs ls hz hP hS hl)
theorem y_iand (hC : lCx p s m meth c b0 L xs G D) {x y : Int32} (hd : decode code pc = .ok (.iand, 1)) (hq : pc + 1 = q)  (k : Y p l e s m below meth c b0 G D kc ks n σ q lv (.int (x &&& y) :: st)) : Y p l e s m below meth c b0 G D kc ks n σ pc lv (.int y :: .int x :: st) := by
  subst hq; intro H locs ls hz hP hS hl
  exact lv_iand hC.1 hC.2.1 hd (k H locs ls hz hP hS hl)
theorem y_icmp_gt (hC : lCx p s m meth c b0 L xs G D) {x y : Int32} {off : Int} {tgt : Nat} (hd : decode code pc = .ok (.if_icmp .gt off, 3)) (hq : pc + 3 = q) (ht : (pc : Int) + off = (tgt : Int)) (kt : y < x → Y p l e s m below meth c b0 G D kc ks n σ tgt lv st) (kf : ¬ (y < x) → Y p l e s m below meth c b0 G D kc ks n σ q lv st) : Y p l e s m below meth c b0 G D kc ks n σ pc lv (.int y :: .int x :: st) := by
  subst hq; intro H locs ls hz hP hS hl
  exact lv_icmp_gt hC.1 hC.2.1 hd ht (fun hh => kt hh H locs ls hz hP hS hl) (fun hh => kf hh H locs ls hz hP hS hl)
theorem y_icmp_eq (hC : lCx p s m meth c b0 L xs G D) {x y : Int32} {off : Int} {tgt : Nat} (hd : decode code pc = .ok (.if_icmp .eq off, 3)) (hq : pc + 3 = q) (ht : (pc : Int) + off = (tgt : Int)) (kt : x = y → Y p l e s m below meth c b0 G D kc ks n σ tgt lv st) (kf : ¬ (x = y) → Y p l e s m below meth c b0 G D kc ks n σ q lv st) : Y p l e s m below meth c b0 G D kc ks n σ pc lv (.int y :: .int x :: st) := by
  subst hq; intro H locs ls hz hP hS hl
  exact lv_icmp_eq hC.1 hC.2.1 hd ht (fun hh => kt hh H locs ls hz hP hS hl) (fun hh => kf hh H locs ls hz hP hS hl)
theorem y_goto (hC : lCx p s m meth c b0 L xs G D) {off : Int} {tgt : Nat} (hd : decode code pc = .ok (.goto off, 3)) (ht : (pc : Int) + off = (tgt : Int)) (k : Y p l e s m below meth c b0 G D kc ks n σ tgt lv st) : Y p l e s m below meth c b0 G D kc ks n σ pc lv st := by
  intro H locs ls hz hP hS hl
  exact lv_goto hC.1 hC.2.1 hd ht (k H locs ls hz hP hS hl)
theorem y_dup_r (hC : lCx p s m meth c b0 L xs G D) {x : Nat} (hd : decode code pc = .ok (.dup, 1)) (hq : pc + 1 = q)  (k : Y p l e s m below meth c b0 G D kc ks n σ q lv (.ref x :: .ref x :: st)) : Y p l e s m below meth c b0 G D kc ks n σ pc lv (.ref x :: st) := by
  subst hq; intro H locs ls hz hP hS hl
  exact lv_dup hC.1 hC.2.1 hd rfl (k H locs ls hz hP hS hl)
theorem y_i2l (hC : lCx p s m meth c b0 L xs G D) {x : Int32} (hd : decode code pc = .ok (.i2l, 1)) (hq : pc + 1 = q)  (k : Y p l e s m below meth c b0 G D kc ks n σ q lv (.long (x.toInt64) :: st)) : Y p l e s m below meth c b0 G D kc ks n σ pc lv (.int x :: st) := by
  subst hq; intro H locs ls hz hP hS hl
  exact lv_i2l hC.1 hC.2.1 hd rfl (k H locs ls hz hP hS hl)
theorem y_lshl (hC : lCx p s m meth c b0 L xs G D) {x : Int64} {y : Int32} (hd : decode code pc = .ok (.lshl, 1)) (hq : pc + 1 = q)  (k : Y p l e s m below meth c b0 G D kc ks n σ q lv (.long (x <<< (y.toInt64 &&& 63)) :: st)) : Y p l e s m below meth c b0 G D kc ks n σ pc lv (.int y :: .long x :: st) := by
  subst hq; intro H locs ls hz hP hS hl
  exact lv_lshl hC.1 hC.2.1 hd rfl (k H locs ls hz hP hS hl)
theorem y_ldc2 (hC : lCx p s m meth c b0 L xs G D) {idx : Nat} {v : Int64} (hd : decode code pc = .ok (.ldc2_w idx, 3)) (hq : pc + 3 = q) (hv : Cond.constantLong "RecurrentSeriesLaw" idx v ∈ TB) (k : Y p l e s m below meth c b0 G D kc ks n σ q lv (.long v :: st)) : Y p l e s m below meth c b0 G D kc ks n σ pc lv (st) := by
  subst hq; intro H locs ls hz hP hS hl
  exact lv_ldc2 hC.1 hC.2.1 hC.2.2.2.1 (hC.tb hv) hd (k H locs ls hz hP hS hl)
theorem y_land (hC : lCx p s m meth c b0 L xs G D) {x y : Int64} (hd : decode code pc = .ok (.land, 1)) (hq : pc + 1 = q)  (k : Y p l e s m below meth c b0 G D kc ks n σ q lv (.long (x &&& y) :: st)) : Y p l e s m below meth c b0 G D kc ks n σ pc lv (.long y :: .long x :: st) := by
  subst hq; intro H locs ls hz hP hS hl
  exact lv_land hC.1 hC.2.1 hd (k H locs ls hz hP hS hl)
theorem y_lor (hC : lCx p s m meth c b0 L xs G D) {x y : Int64} (hd : decode code pc = .ok (.lor, 1)) (hq : pc + 1 = q)  (k : Y p l e s m below meth c b0 G D kc ks n σ q lv (.long (x ||| y) :: st)) : Y p l e s m below meth c b0 G D kc ks n σ pc lv (.long y :: .long x :: st) := by
  subst hq; intro H locs ls hz hP hS hl
  exact lv_lor hC.1 hC.2.1 hd (k H locs ls hz hP hS hl)
theorem y_sld (hC : lCx p s m meth c b0 L xs G D) {j : Nat} (hd : decode code pc = .ok (.iaload, 1)) (hq : pc + 1 = q) (hj : j < L) (hL : L ≤ 2560) (k : Y p l e s m below meth c b0 G D kc ks n σ q lv (.int (xs j) :: st)) : Y p l e s m below meth c b0 G D kc ks n σ pc lv (.int (nI j) :: .ref b0 :: st) := by
  subst hq; intro H locs ls hz hP hS hl
  have := va_sld (A := fun q => s.heap.size ≤ q) (rest := st.map (zv 0)) hC.1 hC.2.1 hC.x hC.lt (Nat.not_le.mpr hC.lt) hS (vp_in_nI hj (by omega)) hd (by rw [nI_clamp (by omega)]; exact k H locs ls hz hP hS hl)
  show W p l e room_1 s m #[Value.ref b0] below meth c H locs kc ks (lw_Z below #[Value.ref b0] s) (F0 m pc ls (.int (nI j) :: zv 0 (.ref b0) :: st.map (zv 0)))
  rw [zv0_ref]
  exact this
theorem y_slen (hC : lCx p s m meth c b0 L xs G D) (hd : decode code pc = .ok (.arraylength, 1)) (hq : pc + 1 = q) (k : Y p l e s m below meth c b0 G D kc ks n σ q lv (.int (nI L) :: st)) : Y p l e s m below meth c b0 G D kc ks n σ pc lv (.ref b0 :: st) := by
  subst hq; intro H locs ls hz hP hS hl
  have := va_slen (A := fun q => s.heap.size ≤ q) (rest := st.map (zv 0)) hC.1 hC.2.1 hC.x hC.lt (Nat.not_le.mpr hC.lt) hS hd (k H locs ls hz hP hS hl)
  show W p l e room_1 s m #[Value.ref b0] below meth c H locs kc ks (lw_Z below #[Value.ref b0] s) (F0 m pc ls (zv 0 (.ref b0) :: st.map (zv 0)))
  rw [zv0_ref]
  exact this
theorem y_in (hC : lCx p s m meth c b0 L xs G D) {x : Int32} {default low high off : Int} {offsets : Array Int} {len tgt : Nat} (hd : decode code pc = .ok (.tableswitch default low high offsets, len)) (hin : ¬ (x.toInt < low ∨ x.toInt > high)) (hoffs : offsets[(x.toInt - low).toNat]? = some off) (ht : (pc : Int) + off = (tgt : Int)) (k : Y p l e s m below meth c b0 G D kc ks n σ tgt lv st) : Y p l e s m below meth c b0 G D kc ks n σ pc lv (.int x :: st) := by
  intro H locs ls hz hP hS hl T hT X
  obtain ⟨t, a, b⟩ := k H locs ls hz hP hS hl T hT X
  refine ⟨t, X.tableswitchIn hC.1 (g := F0 m pc ls ((Value.int x :: st).map (zv 0))) rfl rfl (by rw [hC.2.1]; exact hd) hin hoffs (by show 0 ≤ (pc : Int) + off; omega) t ?_, b⟩
  show Steps p.tables e below (T.setTop { F0 m pc ls ((Value.int x :: st).map (zv 0)) with pc := ((pc : Int) + off).toNat, stack := st.map (zv 0) }) t
  rw [ht]
  exact a
theorem y_out (hC : lCx p s m meth c b0 L xs G D) {x : Int32} {default low high : Int} {offsets : Array Int} {len tgt : Nat} (hd : decode code pc = .ok (.tableswitch default low high offsets, len)) (hout : x.toInt < low ∨ x.toInt > high) (ht : (pc : Int) + default = (tgt : Int)) (k : Y p l e s m below meth c b0 G D kc ks n σ tgt lv st) : Y p l e s m below meth c b0 G D kc ks n σ pc lv (.int x :: st) := by
  intro H locs ls hz hP hS hl T hT X
  obtain ⟨t, a, b⟩ := k H locs ls hz hP hS hl T hT X
  refine ⟨t, X.tableswitchOut hC.1 (g := F0 m pc ls ((Value.int x :: st).map (zv 0))) rfl rfl (by rw [hC.2.1]; exact hd) hout (by show 0 ≤ (pc : Int) + default; omega) t ?_, b⟩
  show Steps p.tables e below (T.setTop { F0 m pc ls ((Value.int x :: st).map (zv 0)) with pc := ((pc : Int) + default).toNat, stack := st.map (zv 0) }) t
  rw [ht]
  exact a
theorem y_new (hC : lCx p s m meth c b0 L xs G D) {idx N ci : Nat} {fs : List Value} (hd : decode code pc = .ok (.new idx, 3)) (hq : pc + 3 = q) (hF : zNw "RecurrentSeriesLaw" idx ci N fs) (hc : kc + 1 ≤ room_1.cells) (hs : ks + N ≤ room_1.slots) (k : Y p l e s m below meth c b0 G D (kc + 1) (ks + N) (n + 1) (va_up σ n (zO ci fs)) q lv (.ref (s.heap.size + n) :: st)) : Y p l e s m below meth c b0 G D kc ks n σ pc lv st := by
  subst hq; intro H locs ls hz hP hS hl
  obtain ⟨C, T, ty, hcl, hws, hty, h1, h2, h3, hfs⟩ := hF
  have hKn := hC.k.1 ci _ hcl
  have hts : ∀ w ∈ TB, w.before #[Value.ref b0] s = true := fun w h => hC.tb h
  refine W.newcK hC.1 hC.2.1 hC.2.2.2.1 (hC.tb h1) (hC.tb h2) (hC.tb h3) rfl hd hc hs hKn.2.1 rfl fun H1 kC hkC e1 z1 o1 => ?_
  have hP1 := zP_push (H1 := H1) (e := zO ci fs) hz hP o1 (by rw [ze_O, ← hz]; exact ⟨_, hcl, (u_born ty hts hws hKn hkC e1 hty).to (hfs s.heap.size)⟩)
  have := k H1 locs ls (by rw [z1, hz, Nat.add_assoc]) hP1 (zS_push hS z1 o1) hl
  rw [List.map_cons, zv0_ref] at this
  rw [hz]
  exact this
theorem y_pre (hC : lCx p s m meth c b0 L xs G D) {avs : List Value} {H : Heap} (hz : H.size = s.heap.size + n) (hP : va_P D zCl (zw s.heap.size G n σ) H) (U : State) (hU : U.heap = H) (hW : s.WarmedH U.vm) : zPc s.heap.size G D n σ avs (avs.map (zv s.heap.size)).toArray U :=
  ⟨rfl, by rw [hU]; exact hz, by rw [hU]; exact hP, va_K.moved hW.alike hC.k, NB_warm hW hC.2.2.2.2.2.1⟩
def yFit (M' : zMI) : Prop := (mR M').frames + 1 ≤ room_1.frames ∧ 8 + (mL M' + 11) + (mR M').locals ≤ room_1.locals
theorem y_callI (hC : lCx p s m meth c b0 L xs G D) {M' : zMI} {idx i : Nat} {rest : List Value} {Po' : Option Value → Nat → zWd → Prop} (hd : decode code pc = .ok (.invokespecial idx, 3)) (hq : pc + 3 = q) (hM : Ct M' [.ref i] n σ Po') (hT : mT M' = none) (hy : (mY M').name = "<init>") (hk : zCk M' 0) (hl0 : zLk "RecurrentSeriesLaw" idx (mY M')) (hst : Cond.instanceMethod (mY M') ∈ TB) (hR : yFit M') (hcat : (rest.map fun v => v.category).sum ≤ 8) (hc : kc + (mR M').cells ≤ room_1.cells) (hs : ks + (mR M').slots ≤ room_1.slots)
    (k : ∀ (r : Option Value) (n' : Nat) (σ' : zWd), Po' r n' σ' → r = none ∧ Y p l e s m below meth c b0 G D (kc + (mR M').cells) (ks + (mR M').slots) n' σ' q lv rest) : Y p l e s m below meth c b0 G D kc ks n σ pc lv (.ref (s.heap.size + i) :: rest) := by
  subst hq; intro H locs ls hz hP hS hl
  have hts : ∀ w ∈ TB, w.before #[Value.ref b0] s = true := fun w h => hC.tb h
  have hpre : PreS s H (zPc s.heap.size G D n σ [.ref i]) (.ref (s.heap.size + i) :: []) := ⟨zPc_blind, y_pre (avs := [.ref i]) hC hz hP⟩
  have hstk : (Value.ref (s.heap.size + i) :: rest).map (zv 0) = ([] : List Value).reverse ++ .ref (s.heap.size + i) :: rest.map (zv 0) := by rw [List.map_cons, zv0_ref]; rfl
  have hrun : va_Run p l e room_1 s m #[Value.ref b0] below meth c H locs kc ks (mR M').cells (mR M').slots (F0 m pc ls ((Value.ref (s.heap.size + i) :: rest).map (zv 0))) (rest.map (zv 0)) (zQc s.heap.size G D Po' (Value.ref (s.heap.size + i) :: []).toArray) (fun q => s.heap.size ≤ q) := by
    rcases hl0 with hl0 | ⟨host, hl0⟩
    · exact va_runI (n := 0) ⟨hC.1, hC.2.1, hC.2.2.1, hC.2.2.2.1, hts⟩ (hM l s.heap.size G D) ⟨hT ▸ callB_of 0 hts (TB_good hk.1) rfl rfl rfl (hC.tb hk.2.1) (hC.tb hl0) hk.2.2 hR, hy, hC.tb hst⟩ hpre rfl rfl hl.1 hstk (z_cat hcat) hd ⟨hc, hs⟩
    · exact va_runIN (n := 0) ⟨hC.1, hC.2.1, hC.2.2.1, hC.2.2.2.1, hts⟩ (hM l s.heap.size G D) ⟨hT ▸ va_cnB 0 hts (TB_good hk.1) rfl rfl rfl (hC.nb hl0) (hC.tb hk.2.1) hk.2.2 hR, hy, hC.tb hst⟩ hpre rfl rfl hl.1 hstk (z_cat hcat) hd ⟨hc, hs⟩
  refine z_after hrun hS (fun r n' σ' hp H1 locs1 hz1 hP1 hS1 => ?_)
  obtain ⟨rfl, hk2⟩ := k r n' σ' hp
  exact hk2 H1 locs1 ls hz1 hP1 hS1 hl
theorem y_callV (hC : lCx p s m meth c b0 L xs G D) {M' : zMI} {idx i ci a : Nat} {fs As rest : List Value} {Po' : Option Value → Nat → zWd → Prop} {vc : vw_C} (hd : decode code pc = .ok (.invokevirtual idx, 3)) (hq : pc + 3 = q) (ha : a = s.heap.size + i) (hA : As.map (zv 0) = As.map (zv s.heap.size)) (hM : Ct M' (.ref i :: As) n σ Po') (hs0 : σ i = zO ci fs) (hi : i < n) (hvc : zCl[ci]? = some vc) (hk : zCk M' As.length) (hl0 : zLk "RecurrentSeriesLaw" idx (mY M')) (hst : Cond.instanceMethod (mY M') ∈ TB) (hsel : Cond.selects vc.1 (mY M') (mY M') ∈ TB) (hR : yFit M') (hcat : (rest.map fun v => v.category).sum ≤ 8) (h0 : (mR M').cells = 0) (h1 : (mR M').slots = 0) (hc : kc ≤ room_1.cells) (hs : ks ≤ room_1.slots)
    (k : ∀ (r : Option Value) (n' : Nat) (σ' : zWd), Po' r n' σ' → ∃ v : Int32, r = some (.int v) ∧ Y p l e s m below meth c b0 G D kc ks n' σ' q lv (.int v :: rest)) : Y p l e s m below meth c b0 G D kc ks n σ pc lv (As.reverse ++ .ref a :: rest) := by
  subst hq ha; intro H locs ls hz hP hS hl
  have hts : ∀ w ∈ TB, w.before #[Value.ref b0] s = true := fun w h => hC.tb h
  have hpre : PreV s H vc.1 (s.heap.size + i) (zPc s.heap.size G D n σ (.ref i :: As)) (As.map (zv s.heap.size)) := ⟨zPc_blind, va_recv hC.k hP hvc (zw_O hs0 hi), y_pre (avs := .ref i :: As) hC hz hP⟩
  have hstk : (As.reverse ++ .ref (s.heap.size + i) :: rest).map (zv 0) = (As.map (zv s.heap.size)).reverse ++ .ref (s.heap.size + i) :: rest.map (zv 0) := by rw [List.map_append, List.map_reverse, hA, List.map_cons, zv0_ref]
  have hrun : va_Run p l e room_1 s m #[Value.ref b0] below meth c H locs kc ks (mR M').cells (mR M').slots (F0 m pc ls ((As.reverse ++ .ref (s.heap.size + i) :: rest).map (zv 0))) (rest.map (zv 0)) (zQc s.heap.size G D Po' (Value.ref (s.heap.size + i) :: As.map (zv s.heap.size)).toArray) (fun q => s.heap.size ≤ q) := by
    rcases hl0 with hl0 | ⟨host, hl0⟩
    · exact va_runV (n := As.length) ⟨hC.1, hC.2.1, hC.2.2.1, hC.2.2.2.1, hts⟩ (hM l s.heap.size G D) ⟨callB_of As.length hts (TB_good hk.1) rfl rfl rfl (hC.tb hk.2.1) (hC.tb hl0) hk.2.2 hR, hC.tb hst, hC.tb hsel⟩ hpre rfl (List.length_map _) hl.1 hstk (z_cat hcat) hd ⟨by rw [h0]; exact hc, by rw [h1]; exact hs⟩
    · exact va_runVN (n := As.length) ⟨hC.1, hC.2.1, hC.2.2.1, hC.2.2.2.1, hts⟩ (hM l s.heap.size G D) ⟨va_cnB As.length hts (TB_good hk.1) rfl rfl rfl (hC.nb hl0) (hC.tb hk.2.1) hk.2.2 hR, hC.tb hst, hC.tb hsel⟩ hpre rfl (List.length_map _) hl.1 hstk (z_cat hcat) hd ⟨by rw [h0]; exact hc, by rw [h1]; exact hs⟩
  refine z_after hrun hS (fun r n' σ' hp H1 locs1 hz1 hP1 hS1 => ?_)
  obtain ⟨v, rfl, hk2⟩ := k r n' σ' hp
  rw [h0, h1]
  exact hk2 H1 locs1 ls hz1 hP1 hS1 hl
theorem y_ret (hC : lCx p s m meth c b0 L xs G D) (hd : decode code pc = .ok (.ireturn, 1)) (hc : kc ≤ 600000) (hs : ks ≤ 7302249) : Y p l e s m below meth c b0 G D kc ks n σ pc lv [.int 1] := by
  intro H locs ls hz hP hS hl
  exact W.widen hc hs (va_forget hS.2.2 (lw_ret hC.1 hC.2.1 hC.2.2.2.2.2.2.1 hC.2.2.2.2.2.2.2.1 hd))
/-- one argument out of the script -/
theorem y_arg (hC : lCx p s m meth c b0 L xs G D) {i d : Nat} {a1 a2 : Option Value} (h1 : decode code pc = .ok (.aload_n 0, 1)) (h2 : decode code (pc + 1) = .ok (.iload_n 3, 1)) (h3 : decode code (pc + 2) = .ok (.iconst (d : Int), 1)) (h4 : decode code (pc + 3) = .ok (.iadd, 1)) (h5 : decode code (pc + 4) = .ok (.iaload, 1)) (hq : pc + 5 = q) (hi : i + d < L) (hL : L ≤ 2560) (k : Y p l e s m below meth c b0 G D kc ks n σ q [some (.ref b0), a1, a2, some (.int (nI i))] (.int (xs (i + d)) :: st)) : Y p l e s m below meth c b0 G D kc ks n σ pc [some (.ref b0), a1, a2, some (.int (nI i))] st := by
  refine y_aload_n hC (q := pc + 1) (i := 0) h1 rfl rfl rfl ?_
  refine y_iload_n hC (q := pc + 2) (i := 3) h2 rfl rfl rfl ?_
  refine y_iconst hC (q := pc + 3) (v := nI d) h3 rfl rfl ?_
  refine y_iadd hC (q := pc + 4) h4 rfl ?_
  rw [nI_add]
  exact y_sld hC (q := q) h5 (by omega) hi hL k
end LW
theorem and31 (x : Int32) : ∃ t, t < 32 ∧ x &&& nI 31 = nI t := by
  refine ⟨(x &&& nI 31).toBitVec.toNat, ?_, ?_⟩
  · rw [Int32.toBitVec_and, BitVec.toNat_and]
    exact Nat.lt_of_le_of_lt Nat.and_le_right (by decide)
  · apply Int32.toBitVec_inj.mp
    show _ = BitVec.ofNat 32 _
    rw [BitVec.ofNat_toNat, BitVec.setWidth_eq]

