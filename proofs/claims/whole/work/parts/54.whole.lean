/-! The law's walk -/
theorem Y.eqa {p : Program} {l : Launch} {e : Env} {s : State} {m : MethodId} {below : List Frame} {meth : Method} {c : Code} {b0 : Nat} {G : Nat → ClassId} {D : va_G} {kc ks n pc kc' ks' n' : Nat} {σ : zWd} {lv : List (Option Value)} {st : List Value} (h1 : kc = kc') (h2 : ks = ks') (h3 : n = n') (k : Y p l e s m below meth c b0 G D kc' ks' n' σ pc lv st) : Y p l e s m below meth c b0 G D kc ks n σ pc lv st := by subst h1 h2 h3; exact k
theorem J.obj {σ : zWd} (h : J σ) : ∃ li gi, σ 0 = c0_ li gi := by
  obtain ⟨li, gi, row, od, cf, ts, hC, -⟩ := h
  exact ⟨li, gi, hC.1⟩
theorem in_rs : Cond.instantiable "RecurrentSeries" 9 ∈ TB := tb_t 10 (by decide +kernel) rfl
theorem in_se : Cond.instantiable "RecurrentSeries$Series" 3 ∈ TB := tb_t 71 (by decide +kernel) rfl
theorem in_fi : Cond.instantiable "RecurrentSeries$Finder" 3 ∈ TB := tb_t 20 (by decide +kernel) rfl
theorem in_sk : Cond.instantiable "RecurrentSeries$Seeker" 5 ∈ TB := tb_t 37 (by decide +kernel) rfl
theorem in_dv : Cond.instantiable "RecurrentSeries$Divider" 2 ∈ TB := tb_t 59 (by decide +kernel) rfl
theorem in_mo : Cond.instantiable "RecurrentSeriesModel" 13 ∈ TB := tb_t 304 (by decide +kernel) rfl
theorem l_ctx {p : Program} {s : State} {m : MethodId} {meth : Method} {c : Code} {b L : Nat} {xs : Nat → Int32} (C0 : lw_At p s m meth c b L xs) : ∃ (G : Nat → ClassId) (D : va_G), lCx p s m meth c b L xs G D := by
  obtain ⟨hx, hcode, hret, hml, hown, hts, hX, hbl, hlocks, -⟩ := C0
  have hTB : ∀ w ∈ TB, w.before #[Value.ref b] s = true := fun w hw => hts w (List.mem_filter.mp hw).1
  have hNB : ∀ w ∈ NB, va_Nw w s := by
    intro w hw
    have h1 := hts w (List.mem_append_right _ (List.mem_filter.mp hw).1)
    have h2 := (List.mem_filter.mp hw).2
    cases w with
    | fieldLinkNest => exact va_Nw.of rfl h1
    | methodLinkNest => exact va_Nw.of rfl h1
    | arrayOver t => cases t <;> first | exact va_AO.of h1 | cases h2
    | _ => cases h2
  obtain ⟨cI, kI, compI, i1, i2, i3⟩ := Cond.arrayClass_spec (hTB _ tb_arrI)
  obtain ⟨cL, kL, compL, l1, l2, l3⟩ := Cond.arrayClass_spec (hTB _ tb_arrL)
  obtain ⟨compR, cR, kR, r0, -, r2, r3, r4⟩ := Cond.arrayOver_spec (va_AO.use (A := #[Value.ref b]) (hNB _ nb_over))
  obtain ⟨c0, o0, k0⟩ := u_known (C := "RecurrentSeries") (T := zT_rs) (N := 9) (n := 9) hTB uw_rs (hTB _ in_rs)
  obtain ⟨c1, o1, k1⟩ := u_known (C := "RecurrentSeries$Series") (T := zT_se) (N := 3) (n := 3) hTB uw_se (hTB _ in_se)
  obtain ⟨c2, o2, k2⟩ := u_known (C := "RecurrentSeries$Finder") (T := zT_fi) (N := 3) (n := 3) hTB uw_fi (hTB _ in_fi)
  obtain ⟨c3, o3, k3⟩ := u_known (C := "RecurrentSeries$Seeker") (T := zT_sk) (N := 5) (n := 5) hTB uw_sk (hTB _ in_sk)
  obtain ⟨c4, o4, k4⟩ := u_known (C := "RecurrentSeries$Divider") (T := zT_dv) (N := 2) (n := 2) hTB uw_dv (hTB _ in_dv)
  obtain ⟨c5, o5, k5⟩ := u_known (C := "RecurrentSeriesModel") (T := zT_mo) (N := 13) (n := 13) hTB uw_mo (hTB _ in_mo)
  refine ⟨fun k => match k with | 0 => cI | 1 => cL | _ => cR, (fun k => match k with | 0 => c0 | 1 => c1 | 2 => c2 | 3 => c3 | 4 => c4 | _ => c5, fun k => match k with | 0 => o0 | 1 => o1 | 2 => o2 | 3 => o3 | 4 => o4 | _ => o5), hx, hcode, hml, hown, hTB, hNB, hret, hlocks, ⟨fun k q hq => ?_, fun k q hq => ?_⟩, hX, hbl⟩
  · match k, hq with
    | 0, hq => cases hq; exact k0
    | 1, hq => cases hq; exact k1
    | 2, hq => cases hq; exact k2
    | 3, hq => cases hq; exact k3
    | 4, hq => cases hq; exact k4
    | 5, hq => cases hq; exact k5
    | k + 6, hq => simp at hq
  · match k, hq with
    | 0, hq => cases hq; exact ⟨fun n z => ⟨fun k h => (by cases h), kI, i2, compI, i3⟩, i1⟩
    | 1, hq => cases hq; exact ⟨fun n z => ⟨fun k h => (by cases h), kL, l2, compL, l3⟩, l1⟩
    | 2, hq => cases hq; exact ⟨fun n z => ⟨fun k h => (by cases h), kR, r2, compR, r3⟩, kR, compR, r2, r3, r0, r4⟩
    | k + 3, hq => simp [zt] at hq

theorem l_gt {L i : Nat} (h : L < i + 5) (hL : L ≤ 2560) (hi : i ≤ 3000) : nI L - nI 5 < nI i := by
  have e2 : (nI i).toInt = (i : Int) := nI_toInt (by omega)
  rw [Int32.lt_iff_toInt_lt, e2]
  by_cases h5 : 5 ≤ L
  · have e : nI L - nI 5 = nI (L - 5) := by rw [show nI L = nI (L - 5) + nI 5 by rw [nI_add, show L - 5 + 5 = L by omega], Int32.add_sub_cancel]
    rw [e, nI_toInt (by omega)]
    omega
  · obtain rfl | rfl | rfl | rfl | rfl : L = 0 ∨ L = 1 ∨ L = 2 ∨ L = 3 ∨ L = 4 := by omega
    · have e : (nI 0 - nI 5).toInt = -5 := by decide
      omega
    · have e : (nI 1 - nI 5).toInt = -4 := by decide
      omega
    · have e : (nI 2 - nI 5).toInt = -3 := by decide
      omega
    · have e : (nI 3 - nI 5).toInt = -2 := by decide
      omega
    · have e : (nI 4 - nI 5).toInt = -1 := by decide
      omega
theorem l_le {L i : Nat} (h : i + 5 ≤ L) (hL : L ≤ 2560) : ¬ nI L - nI 5 < nI i := by
  have e2 : (nI i).toInt = (i : Int) := nI_toInt (by omega)
  have e : nI L - nI 5 = nI (L - 5) := by rw [show nI L = nI (L - 5) + nI 5 by rw [nI_add, show L - 5 + 5 = L by omega], Int32.add_sub_cancel]
  rw [Int32.lt_iff_toInt_lt, e2, e, nI_toInt (by omega)]
  omega
theorem whole_start {p : Program} {e : Env} {s : State} {m : MethodId} {below : List Frame} {meth : Method} {c : Code} (l : Launch) {b L : Nat} {xs : Nat → Int32} (hL : L ≤ 2560) (C0 : lw_At p s m meth c b L xs) : W p l e room_1 s m #[Value.ref b] below meth c s.heap [] 0 0 (lw_Z below #[Value.ref b] s) (entryFrame m ([Value.ref b] : List Value).toArray 4) := by
  obtain ⟨G, D, hC⟩ := l_ctx C0
  have loop : ∀ (f i : Nat) (σ : zWd), L ≤ i + f → i ≤ L + 5 → J σ → Y p l e s m below meth c b G D 90 12556 90 σ 18 [some (.ref b), some (.ref s.heap.size), some (.ref (s.heap.size + 78)), some (.int (nI i))] [] := by
    intro f
    induction f with
    | zero => 
      intro i σ h1 h2 hJ
      refine y_iload_n hC (q := 19) (i := 3) d_la_law_18 rfl rfl rfl ?_
      refine y_aload_n hC (q := 20) (i := 0) d_la_law_19 rfl rfl rfl ?_
      refine y_slen hC (q := 21) d_la_law_20 rfl ?_
      refine y_iconst hC (v := nI 5) (q := 22) d_la_law_21 rfl (by decide) ?_
      refine y_isub hC (q := 23) d_la_law_22 rfl ?_
      refine y_icmp_gt hC (q := 26) (tgt := 714) d_la_law_23 rfl (by decide) (fun _ => ?_) (fun h => absurd (l_gt (by omega) (by omega) (by omega)) h)
      refine y_iconst hC (v := 1) (q := 715) d_la_law_714 rfl (by decide) ?_
      exact y_ret hC d_la_law_715 (by decide) (by decide)
    | succ f ih =>
      intro i σ h1 h2 hJ
      refine y_iload_n hC (q := 19) (i := 3) d_la_law_18 rfl rfl rfl ?_
      refine y_aload_n hC (q := 20) (i := 0) d_la_law_19 rfl rfl rfl ?_
      refine y_slen hC (q := 21) d_la_law_20 rfl ?_
      refine y_iconst hC (v := nI 5) (q := 22) d_la_law_21 rfl (by decide) ?_
      refine y_isub hC (q := 23) d_la_law_22 rfl ?_
      by_cases hgo : i + 5 ≤ L
      case neg =>
        refine y_icmp_gt hC (q := 26) (tgt := 714) d_la_law_23 rfl (by decide) (fun _ => ?_) (fun h => absurd (l_gt (by omega) (by omega) (by omega)) h)
        refine y_iconst hC (v := 1) (q := 715) d_la_law_714 rfl (by decide) ?_
        exact y_ret hC d_la_law_715 (by decide) (by decide)
      refine y_icmp_gt hC (q := 26) (tgt := 714) d_la_law_23 rfl (by decide) (fun h => absurd h (l_le hgo (by omega))) (fun _ => ?_)
      have next : ∀ σ2, J σ2 → Y p l e s m below meth c b G D 90 12556 90 σ2 708 [some (.ref b), some (.ref s.heap.size), some (.ref (s.heap.size + 78)), some (.int (nI i))] [] := fun σ2 hJ2 => by
        refine y_iinc hC (q := 711) (i := 3) (x := nI i) (v := nI (i + 5)) d_la_law_708 rfl (nI_add i 5) (by simp only [List.length_cons]; omega) rfl rfl ?_
        refine y_goto hC (tgt := 18) d_la_law_711 (by decide) ?_
        exact ih (i + 5) σ2 (by omega) (by omega) hJ2
      obtain ⟨li0, gi0, h00⟩ := hJ.obj
      refine y_aload_n hC (q := 27) (i := 0) d_la_law_26 rfl rfl rfl ?_
      refine y_iload_n hC (q := 28) (i := 3) d_la_law_27 rfl rfl rfl ?_
      refine y_sld hC (q := 29) d_la_law_28 rfl (by omega) hL ?_
      refine y_bipush hC (v := nI 31) (q := 31) d_la_law_29 rfl (by decide) ?_
      refine y_iand hC (q := 32) d_la_law_31 rfl ?_
      obtain ⟨t, ht, ea⟩ := and31 (xs i)
      rw [ea]
      clear ea
      obtain rfl | rfl | rfl | rfl | rfl | rfl | rfl | rfl | rfl | rfl | rfl | rfl | rfl | rfl | rfl | rfl | rfl | rfl | rfl | rfl | ht2 : t = 0 ∨ t = 1 ∨ t = 2 ∨ t = 3 ∨ t = 4 ∨ t = 5 ∨ t = 6 ∨ t = 7 ∨ t = 8 ∨ t = 9 ∨ t = 10 ∨ t = 11 ∨ t = 12 ∨ t = 13 ∨ t = 14 ∨ t = 15 ∨ t = 16 ∨ t = 17 ∨ t = 18 ∨ t = 19 ∨ 20 ≤ t := by omega
      · refine y_in hC (off := 96) (tgt := 128) d_la_law_32 (by decide) (by decide) (by decide) ?_
        obtain ⟨P1, c1, k1⟩ := op_give ((xs (i + 1))) σ hJ
        refine y_aload_n hC (q := 129) (i := 1) d_la_law_128 rfl rfl rfl ?_
        refine y_arg hC (q := 134) (d := 1) d_la_law_129 d_la_law_130 d_la_law_131 d_la_law_132 d_la_law_133 rfl (by omega) hL ?_
        refine y_callV hC (As := [.int (xs (i + 1))]) (rest := []) (i := 0) (ci := 0) (q := 137) d_la_law_134 rfl rfl rfl c1 h00 (by omega) rfl ck_rs_give lk_la_13 im_rs_give sl_rs_give ⟨by decide, by decide⟩ (Nat.le_of_ble_eq_true rfl) rfl rfl (by decide) (by decide) (fun r1 n1 σ1 h1 => ?_)
        obtain ⟨rfl, ⟨li', gi', h78⟩, v1, rfl, P2, c2, k2⟩ := k1 r1 n1 σ1 h1
        refine ⟨v1, rfl, ?_⟩
        refine y_aload_n hC (q := 138) (i := 2) d_la_law_137 rfl rfl rfl ?_
        refine y_arg hC (q := 143) (d := 1) d_la_law_138 d_la_law_139 d_la_law_140 d_la_law_141 d_la_law_142 rfl (by omega) hL ?_
        refine y_callV hC (As := [.int (xs (i + 1))]) (rest := [.int v1]) (i := 78) (ci := 5) (q := 146) d_la_law_143 rfl rfl rfl c2 h78 (by omega) rfl ck_mo_give lk_la_17 im_mo_give sl_mo_give ⟨by decide, by decide⟩ (Nat.le_of_ble_eq_true rfl) rfl rfl (by decide) (by decide) (fun r2 n2 σ2 h2 => ?_)
        obtain ⟨rfl, rfl, hJ2⟩ := k2 r2 n2 σ2 h2
        refine ⟨v1, rfl, ?_⟩
        exact y_icmp_eq hC (q := 149) (tgt := 708) d_la_law_146 rfl (by decide) (fun _ => next σ2 hJ2) (fun h => absurd rfl h)
      · refine y_in hC (off := 119) (tgt := 151) d_la_law_32 (by decide) (by decide) (by decide) ?_
        obtain ⟨P1, c1, k1⟩ := op_clear  σ hJ
        refine y_aload_n hC (q := 152) (i := 1) d_la_law_151 rfl rfl rfl ?_
        refine y_callV hC (As := []) (rest := []) (i := 0) (ci := 0) (q := 155) d_la_law_152 rfl rfl rfl c1 h00 (by omega) rfl ck_rs_clear lk_la_18 im_rs_clear sl_rs_clear ⟨by decide, by decide⟩ (Nat.le_of_ble_eq_true rfl) rfl rfl (by decide) (by decide) (fun r1 n1 σ1 h1 => ?_)
        obtain ⟨rfl, ⟨li', gi', h78⟩, v1, rfl, P2, c2, k2⟩ := k1 r1 n1 σ1 h1
        refine ⟨v1, rfl, ?_⟩
        refine y_aload_n hC (q := 156) (i := 2) d_la_law_155 rfl rfl rfl ?_
        refine y_callV hC (As := []) (rest := [.int v1]) (i := 78) (ci := 5) (q := 159) d_la_law_156 rfl rfl rfl c2 h78 (by omega) rfl ck_mo_clear lk_la_22 im_mo_clear sl_mo_clear ⟨by decide, by decide⟩ (Nat.le_of_ble_eq_true rfl) rfl rfl (by decide) (by decide) (fun r2 n2 σ2 h2 => ?_)
        obtain ⟨rfl, rfl, hJ2⟩ := k2 r2 n2 σ2 h2
        refine ⟨v1, rfl, ?_⟩
        exact y_icmp_eq hC (q := 162) (tgt := 708) d_la_law_159 rfl (by decide) (fun _ => next σ2 hJ2) (fun h => absurd rfl h)
      · refine y_in hC (off := 132) (tgt := 164) d_la_law_32 (by decide) (by decide) (by decide) ?_
        obtain ⟨P1, c1, k1⟩ := op_leaf ((xs (i + 1))) σ hJ
        refine y_aload_n hC (q := 165) (i := 1) d_la_law_164 rfl rfl rfl ?_
        refine y_arg hC (q := 170) (d := 1) d_la_law_165 d_la_law_166 d_la_law_167 d_la_law_168 d_la_law_169 rfl (by omega) hL ?_
        refine y_callV hC (As := [.int (xs (i + 1))]) (rest := []) (i := 0) (ci := 0) (q := 173) d_la_law_170 rfl rfl rfl c1 h00 (by omega) rfl ck_rs_leaf lk_la_23 im_rs_leaf sl_rs_leaf ⟨by decide, by decide⟩ (Nat.le_of_ble_eq_true rfl) rfl rfl (by decide) (by decide) (fun r1 n1 σ1 h1 => ?_)
        obtain ⟨rfl, ⟨li', gi', h78⟩, v1, rfl, P2, c2, k2⟩ := k1 r1 n1 σ1 h1
        refine ⟨v1, rfl, ?_⟩
        refine y_aload_n hC (q := 174) (i := 2) d_la_law_173 rfl rfl rfl ?_
        refine y_arg hC (q := 179) (d := 1) d_la_law_174 d_la_law_175 d_la_law_176 d_la_law_177 d_la_law_178 rfl (by omega) hL ?_
        refine y_callV hC (As := [.int (xs (i + 1))]) (rest := [.int v1]) (i := 78) (ci := 5) (q := 182) d_la_law_179 rfl rfl rfl c2 h78 (by omega) rfl ck_mo_leaf lk_la_27 im_mo_leaf sl_mo_leaf ⟨by decide, by decide⟩ (Nat.le_of_ble_eq_true rfl) rfl rfl (by decide) (by decide) (fun r2 n2 σ2 h2 => ?_)
        obtain ⟨rfl, rfl, hJ2⟩ := k2 r2 n2 σ2 h2
        refine ⟨v1, rfl, ?_⟩
        exact y_icmp_eq hC (q := 185) (tgt := 708) d_la_law_182 rfl (by decide) (fun _ => next σ2 hJ2) (fun h => absurd rfl h)
      · refine y_in hC (off := 155) (tgt := 187) d_la_law_32 (by decide) (by decide) (by decide) ?_
        obtain ⟨P1, c1, k1⟩ := op_combine ((xs (i + 1))) ((xs (i + 2))) ((xs (i + 3))) ((xs (i + 4))) σ hJ
        refine y_aload_n hC (q := 188) (i := 1) d_la_law_187 rfl rfl rfl ?_
        refine y_arg hC (q := 193) (d := 1) d_la_law_188 d_la_law_189 d_la_law_190 d_la_law_191 d_la_law_192 rfl (by omega) hL ?_
        refine y_arg hC (q := 198) (d := 2) d_la_law_193 d_la_law_194 d_la_law_195 d_la_law_196 d_la_law_197 rfl (by omega) hL ?_
        refine y_arg hC (q := 203) (d := 3) d_la_law_198 d_la_law_199 d_la_law_200 d_la_law_201 d_la_law_202 rfl (by omega) hL ?_
        refine y_arg hC (q := 208) (d := 4) d_la_law_203 d_la_law_204 d_la_law_205 d_la_law_206 d_la_law_207 rfl (by omega) hL ?_
        refine y_callV hC (As := [.int (xs (i + 1)), .int (xs (i + 2)), .int (xs (i + 3)), .int (xs (i + 4))]) (rest := []) (i := 0) (ci := 0) (q := 211) d_la_law_208 rfl rfl rfl c1 h00 (by omega) rfl ck_rs_combine lk_la_28 im_rs_combine sl_rs_combine ⟨by decide, by decide⟩ (Nat.le_of_ble_eq_true rfl) rfl rfl (by decide) (by decide) (fun r1 n1 σ1 h1 => ?_)
        obtain ⟨rfl, ⟨li', gi', h78⟩, v1, rfl, P2, c2, k2⟩ := k1 r1 n1 σ1 h1
        refine ⟨v1, rfl, ?_⟩
        refine y_aload_n hC (q := 212) (i := 2) d_la_law_211 rfl rfl rfl ?_
        refine y_arg hC (q := 217) (d := 1) d_la_law_212 d_la_law_213 d_la_law_214 d_la_law_215 d_la_law_216 rfl (by omega) hL ?_
        refine y_arg hC (q := 222) (d := 2) d_la_law_217 d_la_law_218 d_la_law_219 d_la_law_220 d_la_law_221 rfl (by omega) hL ?_
        refine y_arg hC (q := 227) (d := 3) d_la_law_222 d_la_law_223 d_la_law_224 d_la_law_225 d_la_law_226 rfl (by omega) hL ?_
        refine y_arg hC (q := 232) (d := 4) d_la_law_227 d_la_law_228 d_la_law_229 d_la_law_230 d_la_law_231 rfl (by omega) hL ?_
        refine y_callV hC (As := [.int (xs (i + 1)), .int (xs (i + 2)), .int (xs (i + 3)), .int (xs (i + 4))]) (rest := [.int v1]) (i := 78) (ci := 5) (q := 235) d_la_law_232 rfl rfl rfl c2 h78 (by omega) rfl ck_mo_combine lk_la_32 im_mo_combine sl_mo_combine ⟨by decide, by decide⟩ (Nat.le_of_ble_eq_true rfl) rfl rfl (by decide) (by decide) (fun r2 n2 σ2 h2 => ?_)
        obtain ⟨rfl, rfl, hJ2⟩ := k2 r2 n2 σ2 h2
        refine ⟨v1, rfl, ?_⟩
        exact y_icmp_eq hC (q := 238) (tgt := 708) d_la_law_235 rfl (by decide) (fun _ => next σ2 hJ2) (fun h => absurd rfl h)
      · refine y_in hC (off := 208) (tgt := 240) d_la_law_32 (by decide) (by decide) (by decide) ?_
        obtain ⟨P1, c1, k1⟩ := op_product ((xs (i + 1))) ((xs (i + 2))) σ hJ
        refine y_aload_n hC (q := 241) (i := 1) d_la_law_240 rfl rfl rfl ?_
        refine y_arg hC (q := 246) (d := 1) d_la_law_241 d_la_law_242 d_la_law_243 d_la_law_244 d_la_law_245 rfl (by omega) hL ?_
        refine y_arg hC (q := 251) (d := 2) d_la_law_246 d_la_law_247 d_la_law_248 d_la_law_249 d_la_law_250 rfl (by omega) hL ?_
        refine y_callV hC (As := [.int (xs (i + 1)), .int (xs (i + 2))]) (rest := []) (i := 0) (ci := 0) (q := 254) d_la_law_251 rfl rfl rfl c1 h00 (by omega) rfl ck_rs_product lk_la_33 im_rs_product sl_rs_product ⟨by decide, by decide⟩ (Nat.le_of_ble_eq_true rfl) rfl rfl (by decide) (by decide) (fun r1 n1 σ1 h1 => ?_)
        obtain ⟨rfl, ⟨li', gi', h78⟩, v1, rfl, P2, c2, k2⟩ := k1 r1 n1 σ1 h1
        refine ⟨v1, rfl, ?_⟩
        refine y_aload_n hC (q := 255) (i := 2) d_la_law_254 rfl rfl rfl ?_
        refine y_arg hC (q := 260) (d := 1) d_la_law_255 d_la_law_256 d_la_law_257 d_la_law_258 d_la_law_259 rfl (by omega) hL ?_
        refine y_arg hC (q := 265) (d := 2) d_la_law_260 d_la_law_261 d_la_law_262 d_la_law_263 d_la_law_264 rfl (by omega) hL ?_
        refine y_callV hC (As := [.int (xs (i + 1)), .int (xs (i + 2))]) (rest := [.int v1]) (i := 78) (ci := 5) (q := 268) d_la_law_265 rfl rfl rfl c2 h78 (by omega) rfl ck_mo_product lk_la_37 im_mo_product sl_mo_product ⟨by decide, by decide⟩ (Nat.le_of_ble_eq_true rfl) rfl rfl (by decide) (by decide) (fun r2 n2 σ2 h2 => ?_)
        obtain ⟨rfl, rfl, hJ2⟩ := k2 r2 n2 σ2 h2
        refine ⟨v1, rfl, ?_⟩
        exact y_icmp_eq hC (q := 271) (tgt := 708) d_la_law_268 rfl (by decide) (fun _ => next σ2 hJ2) (fun h => absurd rfl h)
      · refine y_in hC (off := 241) (tgt := 273) d_la_law_32 (by decide) (by decide) (by decide) ?_
        obtain ⟨P1, c1, k1⟩ := op_pairwise ((xs (i + 1))) ((xs (i + 2))) σ hJ
        refine y_aload_n hC (q := 274) (i := 1) d_la_law_273 rfl rfl rfl ?_
        refine y_arg hC (q := 279) (d := 1) d_la_law_274 d_la_law_275 d_la_law_276 d_la_law_277 d_la_law_278 rfl (by omega) hL ?_
        refine y_arg hC (q := 284) (d := 2) d_la_law_279 d_la_law_280 d_la_law_281 d_la_law_282 d_la_law_283 rfl (by omega) hL ?_
        refine y_callV hC (As := [.int (xs (i + 1)), .int (xs (i + 2))]) (rest := []) (i := 0) (ci := 0) (q := 287) d_la_law_284 rfl rfl rfl c1 h00 (by omega) rfl ck_rs_pairwise lk_la_38 im_rs_pairwise sl_rs_pairwise ⟨by decide, by decide⟩ (Nat.le_of_ble_eq_true rfl) rfl rfl (by decide) (by decide) (fun r1 n1 σ1 h1 => ?_)
        obtain ⟨rfl, ⟨li', gi', h78⟩, v1, rfl, P2, c2, k2⟩ := k1 r1 n1 σ1 h1
        refine ⟨v1, rfl, ?_⟩
        refine y_aload_n hC (q := 288) (i := 2) d_la_law_287 rfl rfl rfl ?_
        refine y_arg hC (q := 293) (d := 1) d_la_law_288 d_la_law_289 d_la_law_290 d_la_law_291 d_la_law_292 rfl (by omega) hL ?_
        refine y_arg hC (q := 298) (d := 2) d_la_law_293 d_la_law_294 d_la_law_295 d_la_law_296 d_la_law_297 rfl (by omega) hL ?_
        refine y_callV hC (As := [.int (xs (i + 1)), .int (xs (i + 2))]) (rest := [.int v1]) (i := 78) (ci := 5) (q := 301) d_la_law_298 rfl rfl rfl c2 h78 (by omega) rfl ck_mo_pairwise lk_la_41 im_mo_pairwise sl_mo_pairwise ⟨by decide, by decide⟩ (Nat.le_of_ble_eq_true rfl) rfl rfl (by decide) (by decide) (fun r2 n2 σ2 h2 => ?_)
        obtain ⟨rfl, rfl, hJ2⟩ := k2 r2 n2 σ2 h2
        refine ⟨v1, rfl, ?_⟩
        exact y_icmp_eq hC (q := 304) (tgt := 708) d_la_law_301 rfl (by decide) (fun _ => next σ2 hJ2) (fun h => absurd rfl h)
      · refine y_in hC (off := 274) (tgt := 306) d_la_law_32 (by decide) (by decide) (by decide) ?_
        obtain ⟨P1, c1, k1⟩ := op_derivative ((xs (i + 1))) σ hJ
        refine y_aload_n hC (q := 307) (i := 1) d_la_law_306 rfl rfl rfl ?_
        refine y_arg hC (q := 312) (d := 1) d_la_law_307 d_la_law_308 d_la_law_309 d_la_law_310 d_la_law_311 rfl (by omega) hL ?_
        refine y_callV hC (As := [.int (xs (i + 1))]) (rest := []) (i := 0) (ci := 0) (q := 315) d_la_law_312 rfl rfl rfl c1 h00 (by omega) rfl ck_rs_derivative lk_la_42 im_rs_derivative sl_rs_derivative ⟨by decide, by decide⟩ (Nat.le_of_ble_eq_true rfl) rfl rfl (by decide) (by decide) (fun r1 n1 σ1 h1 => ?_)
        obtain ⟨rfl, ⟨li', gi', h78⟩, v1, rfl, P2, c2, k2⟩ := k1 r1 n1 σ1 h1
        refine ⟨v1, rfl, ?_⟩
        refine y_aload_n hC (q := 316) (i := 2) d_la_law_315 rfl rfl rfl ?_
        refine y_arg hC (q := 321) (d := 1) d_la_law_316 d_la_law_317 d_la_law_318 d_la_law_319 d_la_law_320 rfl (by omega) hL ?_
        refine y_callV hC (As := [.int (xs (i + 1))]) (rest := [.int v1]) (i := 78) (ci := 5) (q := 324) d_la_law_321 rfl rfl rfl c2 h78 (by omega) rfl ck_mo_derivative lk_la_45 im_mo_derivative sl_mo_derivative ⟨by decide, by decide⟩ (Nat.le_of_ble_eq_true rfl) rfl rfl (by decide) (by decide) (fun r2 n2 σ2 h2 => ?_)
        obtain ⟨rfl, rfl, hJ2⟩ := k2 r2 n2 σ2 h2
        refine ⟨v1, rfl, ?_⟩
        exact y_icmp_eq hC (q := 327) (tgt := 708) d_la_law_324 rfl (by decide) (fun _ => next σ2 hJ2) (fun h => absurd rfl h)
      · refine y_in hC (off := 297) (tgt := 329) d_la_law_32 (by decide) (by decide) (by decide) ?_
        obtain ⟨P1, c1, k1⟩ := op_tail ((xs (i + 1))) σ hJ
        refine y_aload_n hC (q := 330) (i := 1) d_la_law_329 rfl rfl rfl ?_
        refine y_arg hC (q := 335) (d := 1) d_la_law_330 d_la_law_331 d_la_law_332 d_la_law_333 d_la_law_334 rfl (by omega) hL ?_
        refine y_callV hC (As := [.int (xs (i + 1))]) (rest := []) (i := 0) (ci := 0) (q := 338) d_la_law_335 rfl rfl rfl c1 h00 (by omega) rfl ck_rs_tail lk_la_46 im_rs_tail sl_rs_tail ⟨by decide, by decide⟩ (Nat.le_of_ble_eq_true rfl) rfl rfl (by decide) (by decide) (fun r1 n1 σ1 h1 => ?_)
        obtain ⟨rfl, ⟨li', gi', h78⟩, v1, rfl, P2, c2, k2⟩ := k1 r1 n1 σ1 h1
        refine ⟨v1, rfl, ?_⟩
        refine y_aload_n hC (q := 339) (i := 2) d_la_law_338 rfl rfl rfl ?_
        refine y_arg hC (q := 344) (d := 1) d_la_law_339 d_la_law_340 d_la_law_341 d_la_law_342 d_la_law_343 rfl (by omega) hL ?_
        refine y_callV hC (As := [.int (xs (i + 1))]) (rest := [.int v1]) (i := 78) (ci := 5) (q := 347) d_la_law_344 rfl rfl rfl c2 h78 (by omega) rfl ck_mo_tail lk_la_49 im_mo_tail sl_mo_tail ⟨by decide, by decide⟩ (Nat.le_of_ble_eq_true rfl) rfl rfl (by decide) (by decide) (fun r2 n2 σ2 h2 => ?_)
        obtain ⟨rfl, rfl, hJ2⟩ := k2 r2 n2 σ2 h2
        refine ⟨v1, rfl, ?_⟩
        exact y_icmp_eq hC (q := 350) (tgt := 708) d_la_law_347 rfl (by decide) (fun _ => next σ2 hJ2) (fun h => absurd rfl h)
      · refine y_in hC (off := 320) (tgt := 352) d_la_law_32 (by decide) (by decide) (by decide) ?_
        obtain ⟨P1, c1, k1⟩ := op_delay ((xs (i + 1))) σ hJ
        refine y_aload_n hC (q := 353) (i := 1) d_la_law_352 rfl rfl rfl ?_
        refine y_arg hC (q := 358) (d := 1) d_la_law_353 d_la_law_354 d_la_law_355 d_la_law_356 d_la_law_357 rfl (by omega) hL ?_
        refine y_callV hC (As := [.int (xs (i + 1))]) (rest := []) (i := 0) (ci := 0) (q := 361) d_la_law_358 rfl rfl rfl c1 h00 (by omega) rfl ck_rs_delay lk_la_50 im_rs_delay sl_rs_delay ⟨by decide, by decide⟩ (Nat.le_of_ble_eq_true rfl) rfl rfl (by decide) (by decide) (fun r1 n1 σ1 h1 => ?_)
        obtain ⟨rfl, ⟨li', gi', h78⟩, v1, rfl, P2, c2, k2⟩ := k1 r1 n1 σ1 h1
        refine ⟨v1, rfl, ?_⟩
        refine y_aload_n hC (q := 362) (i := 2) d_la_law_361 rfl rfl rfl ?_
        refine y_arg hC (q := 367) (d := 1) d_la_law_362 d_la_law_363 d_la_law_364 d_la_law_365 d_la_law_366 rfl (by omega) hL ?_
        refine y_callV hC (As := [.int (xs (i + 1))]) (rest := [.int v1]) (i := 78) (ci := 5) (q := 370) d_la_law_367 rfl rfl rfl c2 h78 (by omega) rfl ck_mo_delay lk_la_53 im_mo_delay sl_mo_delay ⟨by decide, by decide⟩ (Nat.le_of_ble_eq_true rfl) rfl rfl (by decide) (by decide) (fun r2 n2 σ2 h2 => ?_)
        obtain ⟨rfl, rfl, hJ2⟩ := k2 r2 n2 σ2 h2
        refine ⟨v1, rfl, ?_⟩
        exact y_icmp_eq hC (q := 373) (tgt := 708) d_la_law_370 rfl (by decide) (fun _ => next σ2 hJ2) (fun h => absurd rfl h)
      · refine y_in hC (off := 343) (tgt := 375) d_la_law_32 (by decide) (by decide) (by decide) ?_
        obtain ⟨P1, c1, k1⟩ := op_sums ((xs (i + 1))) σ hJ
        refine y_aload_n hC (q := 376) (i := 1) d_la_law_375 rfl rfl rfl ?_
        refine y_arg hC (q := 381) (d := 1) d_la_law_376 d_la_law_377 d_la_law_378 d_la_law_379 d_la_law_380 rfl (by omega) hL ?_
        refine y_callV hC (As := [.int (xs (i + 1))]) (rest := []) (i := 0) (ci := 0) (q := 384) d_la_law_381 rfl rfl rfl c1 h00 (by omega) rfl ck_rs_sums lk_la_54 im_rs_sums sl_rs_sums ⟨by decide, by decide⟩ (Nat.le_of_ble_eq_true rfl) rfl rfl (by decide) (by decide) (fun r1 n1 σ1 h1 => ?_)
        obtain ⟨rfl, ⟨li', gi', h78⟩, v1, rfl, P2, c2, k2⟩ := k1 r1 n1 σ1 h1
        refine ⟨v1, rfl, ?_⟩
        refine y_aload_n hC (q := 385) (i := 2) d_la_law_384 rfl rfl rfl ?_
        refine y_arg hC (q := 390) (d := 1) d_la_law_385 d_la_law_386 d_la_law_387 d_la_law_388 d_la_law_389 rfl (by omega) hL ?_
        refine y_callV hC (As := [.int (xs (i + 1))]) (rest := [.int v1]) (i := 78) (ci := 5) (q := 393) d_la_law_390 rfl rfl rfl c2 h78 (by omega) rfl ck_mo_sums lk_la_57 im_mo_sums sl_mo_sums ⟨by decide, by decide⟩ (Nat.le_of_ble_eq_true rfl) rfl rfl (by decide) (by decide) (fun r2 n2 σ2 h2 => ?_)
        obtain ⟨rfl, rfl, hJ2⟩ := k2 r2 n2 σ2 h2
        refine ⟨v1, rfl, ?_⟩
        exact y_icmp_eq hC (q := 396) (tgt := 708) d_la_law_393 rfl (by decide) (fun _ => next σ2 hJ2) (fun h => absurd rfl h)
      · refine y_in hC (off := 366) (tgt := 398) d_la_law_32 (by decide) (by decide) (by decide) ?_
        obtain ⟨P1, c1, k1⟩ := op_section ((xs (i + 1))) ((xs (i + 2))) ((xs (i + 3))) σ hJ
        refine y_aload_n hC (q := 399) (i := 1) d_la_law_398 rfl rfl rfl ?_
        refine y_arg hC (q := 404) (d := 1) d_la_law_399 d_la_law_400 d_la_law_401 d_la_law_402 d_la_law_403 rfl (by omega) hL ?_
        refine y_arg hC (q := 409) (d := 2) d_la_law_404 d_la_law_405 d_la_law_406 d_la_law_407 d_la_law_408 rfl (by omega) hL ?_
        refine y_arg hC (q := 414) (d := 3) d_la_law_409 d_la_law_410 d_la_law_411 d_la_law_412 d_la_law_413 rfl (by omega) hL ?_
        refine y_callV hC (As := [.int (xs (i + 1)), .int (xs (i + 2)), .int (xs (i + 3))]) (rest := []) (i := 0) (ci := 0) (q := 417) d_la_law_414 rfl rfl rfl c1 h00 (by omega) rfl ck_rs_section lk_la_58 im_rs_section sl_rs_section ⟨by decide, by decide⟩ (Nat.le_of_ble_eq_true rfl) rfl rfl (by decide) (by decide) (fun r1 n1 σ1 h1 => ?_)
        obtain ⟨rfl, ⟨li', gi', h78⟩, v1, rfl, P2, c2, k2⟩ := k1 r1 n1 σ1 h1
        refine ⟨v1, rfl, ?_⟩
        refine y_aload_n hC (q := 418) (i := 2) d_la_law_417 rfl rfl rfl ?_
        refine y_arg hC (q := 423) (d := 1) d_la_law_418 d_la_law_419 d_la_law_420 d_la_law_421 d_la_law_422 rfl (by omega) hL ?_
        refine y_arg hC (q := 428) (d := 2) d_la_law_423 d_la_law_424 d_la_law_425 d_la_law_426 d_la_law_427 rfl (by omega) hL ?_
        refine y_arg hC (q := 433) (d := 3) d_la_law_428 d_la_law_429 d_la_law_430 d_la_law_431 d_la_law_432 rfl (by omega) hL ?_
        refine y_callV hC (As := [.int (xs (i + 1)), .int (xs (i + 2)), .int (xs (i + 3))]) (rest := [.int v1]) (i := 78) (ci := 5) (q := 436) d_la_law_433 rfl rfl rfl c2 h78 (by omega) rfl ck_mo_section lk_la_62 im_mo_section sl_mo_section ⟨by decide, by decide⟩ (Nat.le_of_ble_eq_true rfl) rfl rfl (by decide) (by decide) (fun r2 n2 σ2 h2 => ?_)
        obtain ⟨rfl, rfl, hJ2⟩ := k2 r2 n2 σ2 h2
        refine ⟨v1, rfl, ?_⟩
        exact y_icmp_eq hC (q := 439) (tgt := 708) d_la_law_436 rfl (by decide) (fun _ => next σ2 hJ2) (fun h => absurd rfl h)
      · refine y_in hC (off := 409) (tgt := 441) d_la_law_32 (by decide) (by decide) (by decide) ?_
        obtain ⟨P1, c1, k1⟩ := op_spread ((xs (i + 1))) ((xs (i + 2))) σ hJ
        refine y_aload_n hC (q := 442) (i := 1) d_la_law_441 rfl rfl rfl ?_
        refine y_arg hC (q := 447) (d := 1) d_la_law_442 d_la_law_443 d_la_law_444 d_la_law_445 d_la_law_446 rfl (by omega) hL ?_
        refine y_arg hC (q := 452) (d := 2) d_la_law_447 d_la_law_448 d_la_law_449 d_la_law_450 d_la_law_451 rfl (by omega) hL ?_
        refine y_callV hC (As := [.int (xs (i + 1)), .int (xs (i + 2))]) (rest := []) (i := 0) (ci := 0) (q := 455) d_la_law_452 rfl rfl rfl c1 h00 (by omega) rfl ck_rs_spread lk_la_63 im_rs_spread sl_rs_spread ⟨by decide, by decide⟩ (Nat.le_of_ble_eq_true rfl) rfl rfl (by decide) (by decide) (fun r1 n1 σ1 h1 => ?_)
        obtain ⟨rfl, ⟨li', gi', h78⟩, v1, rfl, P2, c2, k2⟩ := k1 r1 n1 σ1 h1
        refine ⟨v1, rfl, ?_⟩
        refine y_aload_n hC (q := 456) (i := 2) d_la_law_455 rfl rfl rfl ?_
        refine y_arg hC (q := 461) (d := 1) d_la_law_456 d_la_law_457 d_la_law_458 d_la_law_459 d_la_law_460 rfl (by omega) hL ?_
        refine y_arg hC (q := 466) (d := 2) d_la_law_461 d_la_law_462 d_la_law_463 d_la_law_464 d_la_law_465 rfl (by omega) hL ?_
        refine y_callV hC (As := [.int (xs (i + 1)), .int (xs (i + 2))]) (rest := [.int v1]) (i := 78) (ci := 5) (q := 469) d_la_law_466 rfl rfl rfl c2 h78 (by omega) rfl ck_mo_spread lk_la_66 im_mo_spread sl_mo_spread ⟨by decide, by decide⟩ (Nat.le_of_ble_eq_true rfl) rfl rfl (by decide) (by decide) (fun r2 n2 σ2 h2 => ?_)
        obtain ⟨rfl, rfl, hJ2⟩ := k2 r2 n2 σ2 h2
        refine ⟨v1, rfl, ?_⟩
        exact y_icmp_eq hC (q := 472) (tgt := 708) d_la_law_469 rfl (by decide) (fun _ => next σ2 hJ2) (fun h => absurd rfl h)
      · refine y_in hC (off := 442) (tgt := 474) d_la_law_32 (by decide) (by decide) (by decide) ?_
        obtain ⟨P1, c1, k1⟩ := op_forget  σ hJ
        refine y_aload_n hC (q := 475) (i := 1) d_la_law_474 rfl rfl rfl ?_
        refine y_callV hC (As := []) (rest := []) (i := 0) (ci := 0) (q := 478) d_la_law_475 rfl rfl rfl c1 h00 (by omega) rfl ck_rs_forget lk_la_67 im_rs_forget sl_rs_forget ⟨by decide, by decide⟩ (Nat.le_of_ble_eq_true rfl) rfl rfl (by decide) (by decide) (fun r1 n1 σ1 h1 => ?_)
        obtain ⟨rfl, ⟨li', gi', h78⟩, v1, rfl, P2, c2, k2⟩ := k1 r1 n1 σ1 h1
        refine ⟨v1, rfl, ?_⟩
        refine y_aload_n hC (q := 479) (i := 2) d_la_law_478 rfl rfl rfl ?_
        refine y_callV hC (As := []) (rest := [.int v1]) (i := 78) (ci := 5) (q := 482) d_la_law_479 rfl rfl rfl c2 h78 (by omega) rfl ck_mo_forget lk_la_71 im_mo_forget sl_mo_forget ⟨by decide, by decide⟩ (Nat.le_of_ble_eq_true rfl) rfl rfl (by decide) (by decide) (fun r2 n2 σ2 h2 => ?_)
        obtain ⟨rfl, rfl, hJ2⟩ := k2 r2 n2 σ2 h2
        refine ⟨v1, rfl, ?_⟩
        exact y_icmp_eq hC (q := 485) (tgt := 708) d_la_law_482 rfl (by decide) (fun _ => next σ2 hJ2) (fun h => absurd rfl h)
      · refine y_in hC (off := 455) (tgt := 487) d_la_law_32 (by decide) (by decide) (by decide) ?_
        obtain ⟨P1, c1, k1⟩ := op_count  σ hJ
        refine y_aload_n hC (q := 488) (i := 1) d_la_law_487 rfl rfl rfl ?_
        refine y_callV hC (As := []) (rest := []) (i := 0) (ci := 0) (q := 491) d_la_law_488 rfl rfl rfl c1 h00 (by omega) rfl ck_rs_count lk_la_72 im_rs_count sl_rs_count ⟨by decide, by decide⟩ (Nat.le_of_ble_eq_true rfl) rfl rfl (by decide) (by decide) (fun r1 n1 σ1 h1 => ?_)
        obtain ⟨rfl, ⟨li', gi', h78⟩, v1, rfl, P2, c2, k2⟩ := k1 r1 n1 σ1 h1
        refine ⟨v1, rfl, ?_⟩
        refine y_aload_n hC (q := 492) (i := 2) d_la_law_491 rfl rfl rfl ?_
        refine y_callV hC (As := []) (rest := [.int v1]) (i := 78) (ci := 5) (q := 495) d_la_law_492 rfl rfl rfl c2 h78 (by omega) rfl ck_mo_count lk_la_75 im_mo_count sl_mo_count ⟨by decide, by decide⟩ (Nat.le_of_ble_eq_true rfl) rfl rfl (by decide) (by decide) (fun r2 n2 σ2 h2 => ?_)
        obtain ⟨rfl, rfl, hJ2⟩ := k2 r2 n2 σ2 h2
        refine ⟨v1, rfl, ?_⟩
        exact y_icmp_eq hC (q := 498) (tgt := 708) d_la_law_495 rfl (by decide) (fun _ => next σ2 hJ2) (fun h => absurd rfl h)
      · refine y_in hC (off := 468) (tgt := 500) d_la_law_32 (by decide) (by decide) (by decide) ?_
        obtain ⟨P1, c1, k1⟩ := op_order ((xs (i + 1))) σ hJ
        refine y_aload_n hC (q := 501) (i := 1) d_la_law_500 rfl rfl rfl ?_
        refine y_arg hC (q := 506) (d := 1) d_la_law_501 d_la_law_502 d_la_law_503 d_la_law_504 d_la_law_505 rfl (by omega) hL ?_
        refine y_callV hC (As := [.int (xs (i + 1))]) (rest := []) (i := 0) (ci := 0) (q := 509) d_la_law_506 rfl rfl rfl c1 h00 (by omega) rfl ck_rs_order lk_la_76 im_rs_order sl_rs_order ⟨by decide, by decide⟩ (Nat.le_of_ble_eq_true rfl) rfl rfl (by decide) (by decide) (fun r1 n1 σ1 h1 => ?_)
        obtain ⟨rfl, ⟨li', gi', h78⟩, v1, rfl, P2, c2, k2⟩ := k1 r1 n1 σ1 h1
        refine ⟨v1, rfl, ?_⟩
        refine y_aload_n hC (q := 510) (i := 2) d_la_law_509 rfl rfl rfl ?_
        refine y_arg hC (q := 515) (d := 1) d_la_law_510 d_la_law_511 d_la_law_512 d_la_law_513 d_la_law_514 rfl (by omega) hL ?_
        refine y_callV hC (As := [.int (xs (i + 1))]) (rest := [.int v1]) (i := 78) (ci := 5) (q := 518) d_la_law_515 rfl rfl rfl c2 h78 (by omega) rfl ck_mo_order lk_la_79 im_mo_order sl_mo_order ⟨by decide, by decide⟩ (Nat.le_of_ble_eq_true rfl) rfl rfl (by decide) (by decide) (fun r2 n2 σ2 h2 => ?_)
        obtain ⟨rfl, rfl, hJ2⟩ := k2 r2 n2 σ2 h2
        refine ⟨v1, rfl, ?_⟩
        exact y_icmp_eq hC (q := 521) (tgt := 708) d_la_law_518 rfl (by decide) (fun _ => next σ2 hJ2) (fun h => absurd rfl h)
      · refine y_in hC (off := 491) (tgt := 523) d_la_law_32 (by decide) (by decide) (by decide) ?_
        obtain ⟨P1, c1, k1⟩ := op_coefficient ((xs (i + 1))) ((xs (i + 2))) σ hJ
        refine y_aload_n hC (q := 524) (i := 1) d_la_law_523 rfl rfl rfl ?_
        refine y_arg hC (q := 529) (d := 1) d_la_law_524 d_la_law_525 d_la_law_526 d_la_law_527 d_la_law_528 rfl (by omega) hL ?_
        refine y_arg hC (q := 534) (d := 2) d_la_law_529 d_la_law_530 d_la_law_531 d_la_law_532 d_la_law_533 rfl (by omega) hL ?_
        refine y_callV hC (As := [.int (xs (i + 1)), .int (xs (i + 2))]) (rest := []) (i := 0) (ci := 0) (q := 537) d_la_law_534 rfl rfl rfl c1 h00 (by omega) rfl ck_rs_coefficient lk_la_80 im_rs_coefficient sl_rs_coefficient ⟨by decide, by decide⟩ (Nat.le_of_ble_eq_true rfl) rfl rfl (by decide) (by decide) (fun r1 n1 σ1 h1 => ?_)
        obtain ⟨rfl, ⟨li', gi', h78⟩, v1, rfl, P2, c2, k2⟩ := k1 r1 n1 σ1 h1
        refine ⟨v1, rfl, ?_⟩
        refine y_aload_n hC (q := 538) (i := 2) d_la_law_537 rfl rfl rfl ?_
        refine y_arg hC (q := 543) (d := 1) d_la_law_538 d_la_law_539 d_la_law_540 d_la_law_541 d_la_law_542 rfl (by omega) hL ?_
        refine y_arg hC (q := 548) (d := 2) d_la_law_543 d_la_law_544 d_la_law_545 d_la_law_546 d_la_law_547 rfl (by omega) hL ?_
        refine y_callV hC (As := [.int (xs (i + 1)), .int (xs (i + 2))]) (rest := [.int v1]) (i := 78) (ci := 5) (q := 551) d_la_law_548 rfl rfl rfl c2 h78 (by omega) rfl ck_mo_coefficient lk_la_83 im_mo_coefficient sl_mo_coefficient ⟨by decide, by decide⟩ (Nat.le_of_ble_eq_true rfl) rfl rfl (by decide) (by decide) (fun r2 n2 σ2 h2 => ?_)
        obtain ⟨rfl, rfl, hJ2⟩ := k2 r2 n2 σ2 h2
        refine ⟨v1, rfl, ?_⟩
        exact y_icmp_eq hC (q := 554) (tgt := 708) d_la_law_551 rfl (by decide) (fun _ => next σ2 hJ2) (fun h => absurd rfl h)
      · refine y_in hC (off := 524) (tgt := 556) d_la_law_32 (by decide) (by decide) (by decide) ?_
        obtain ⟨P1, c1, k1⟩ := op_term ((xs (i + 1))) (((xs (i + 2)).toInt64 <<< ((nI 32).toInt64 &&& 63) ||| ((xs (i + 3)).toInt64 &&& lN 4294967295))) σ hJ
        refine y_aload_n hC (q := 557) (i := 1) d_la_law_556 rfl rfl rfl ?_
        refine y_arg hC (q := 562) (d := 1) d_la_law_557 d_la_law_558 d_la_law_559 d_la_law_560 d_la_law_561 rfl (by omega) hL ?_
        refine y_arg hC (q := 567) (d := 2) d_la_law_562 d_la_law_563 d_la_law_564 d_la_law_565 d_la_law_566 rfl (by omega) hL ?_
        refine y_i2l hC (q := 568) d_la_law_567 rfl ?_
        refine y_bipush hC (v := nI 32) (q := 570) d_la_law_568 rfl (by decide) ?_
        refine y_lshl hC (q := 571) d_la_law_570 rfl ?_
        refine y_arg hC (q := 576) (d := 3) d_la_law_571 d_la_law_572 d_la_law_573 d_la_law_574 d_la_law_575 rfl (by omega) hL ?_
        refine y_i2l hC (q := 577) d_la_law_576 rfl ?_
        refine y_ldc2 hC (q := 580) d_la_law_577 rfl cl_la_84 ?_
        refine y_land hC (q := 581) d_la_law_580 rfl ?_
        refine y_lor hC (q := 582) d_la_law_581 rfl ?_
        refine y_callV hC (As := [.int (xs (i + 1)), .long ((xs (i + 2)).toInt64 <<< ((nI 32).toInt64 &&& 63) ||| ((xs (i + 3)).toInt64 &&& lN 4294967295))]) (rest := []) (i := 0) (ci := 0) (q := 585) d_la_law_582 rfl rfl rfl c1 h00 (by omega) rfl ck_rs_term lk_la_86 im_rs_term sl_rs_term ⟨by decide, by decide⟩ (Nat.le_of_ble_eq_true rfl) rfl rfl (by decide) (by decide) (fun r1 n1 σ1 h1 => ?_)
        obtain ⟨rfl, ⟨li', gi', h78⟩, v1, rfl, P2, c2, k2⟩ := k1 r1 n1 σ1 h1
        refine ⟨v1, rfl, ?_⟩
        refine y_aload_n hC (q := 586) (i := 2) d_la_law_585 rfl rfl rfl ?_
        refine y_arg hC (q := 591) (d := 1) d_la_law_586 d_la_law_587 d_la_law_588 d_la_law_589 d_la_law_590 rfl (by omega) hL ?_
        refine y_arg hC (q := 596) (d := 2) d_la_law_591 d_la_law_592 d_la_law_593 d_la_law_594 d_la_law_595 rfl (by omega) hL ?_
        refine y_i2l hC (q := 597) d_la_law_596 rfl ?_
        refine y_bipush hC (v := nI 32) (q := 599) d_la_law_597 rfl (by decide) ?_
        refine y_lshl hC (q := 600) d_la_law_599 rfl ?_
        refine y_arg hC (q := 605) (d := 3) d_la_law_600 d_la_law_601 d_la_law_602 d_la_law_603 d_la_law_604 rfl (by omega) hL ?_
        refine y_i2l hC (q := 606) d_la_law_605 rfl ?_
        refine y_ldc2 hC (q := 609) d_la_law_606 rfl cl_la_84 ?_
        refine y_land hC (q := 610) d_la_law_609 rfl ?_
        refine y_lor hC (q := 611) d_la_law_610 rfl ?_
        refine y_callV hC (As := [.int (xs (i + 1)), .long ((xs (i + 2)).toInt64 <<< ((nI 32).toInt64 &&& 63) ||| ((xs (i + 3)).toInt64 &&& lN 4294967295))]) (rest := [.int v1]) (i := 78) (ci := 5) (q := 614) d_la_law_611 rfl rfl rfl c2 h78 (by omega) rfl ck_mo_term lk_la_90 im_mo_term sl_mo_term ⟨by decide, by decide⟩ (Nat.le_of_ble_eq_true rfl) rfl rfl (by decide) (by decide) (fun r2 n2 σ2 h2 => ?_)
        obtain ⟨rfl, rfl, hJ2⟩ := k2 r2 n2 σ2 h2
        refine ⟨v1, rfl, ?_⟩
        exact y_icmp_eq hC (q := 617) (tgt := 708) d_la_law_614 rfl (by decide) (fun _ => next σ2 hJ2) (fun h => absurd rfl h)
      · refine y_in hC (off := 587) (tgt := 619) d_la_law_32 (by decide) (by decide) (by decide) ?_
        obtain ⟨P1, c1, k1⟩ := op_differ ((xs (i + 1))) ((xs (i + 2))) σ hJ
        refine y_aload_n hC (q := 620) (i := 1) d_la_law_619 rfl rfl rfl ?_
        refine y_arg hC (q := 625) (d := 1) d_la_law_620 d_la_law_621 d_la_law_622 d_la_law_623 d_la_law_624 rfl (by omega) hL ?_
        refine y_arg hC (q := 630) (d := 2) d_la_law_625 d_la_law_626 d_la_law_627 d_la_law_628 d_la_law_629 rfl (by omega) hL ?_
        refine y_callV hC (As := [.int (xs (i + 1)), .int (xs (i + 2))]) (rest := []) (i := 0) (ci := 0) (q := 633) d_la_law_630 rfl rfl rfl c1 h00 (by omega) rfl ck_rs_differ lk_la_91 im_rs_differ sl_rs_differ ⟨by decide, by decide⟩ (Nat.le_of_ble_eq_true rfl) rfl rfl (by decide) (by decide) (fun r1 n1 σ1 h1 => ?_)
        obtain ⟨rfl, ⟨li', gi', h78⟩, v1, rfl, P2, c2, k2⟩ := k1 r1 n1 σ1 h1
        refine ⟨v1, rfl, ?_⟩
        refine y_aload_n hC (q := 634) (i := 2) d_la_law_633 rfl rfl rfl ?_
        refine y_arg hC (q := 639) (d := 1) d_la_law_634 d_la_law_635 d_la_law_636 d_la_law_637 d_la_law_638 rfl (by omega) hL ?_
        refine y_arg hC (q := 644) (d := 2) d_la_law_639 d_la_law_640 d_la_law_641 d_la_law_642 d_la_law_643 rfl (by omega) hL ?_
        refine y_callV hC (As := [.int (xs (i + 1)), .int (xs (i + 2))]) (rest := [.int v1]) (i := 78) (ci := 5) (q := 647) d_la_law_644 rfl rfl rfl c2 h78 (by omega) rfl ck_mo_differ lk_la_94 im_mo_differ sl_mo_differ ⟨by decide, by decide⟩ (Nat.le_of_ble_eq_true rfl) rfl rfl (by decide) (by decide) (fun r2 n2 σ2 h2 => ?_)
        obtain ⟨rfl, rfl, hJ2⟩ := k2 r2 n2 σ2 h2
        refine ⟨v1, rfl, ?_⟩
        exact y_icmp_eq hC (q := 650) (tgt := 708) d_la_law_647 rfl (by decide) (fun _ => next σ2 hJ2) (fun h => absurd rfl h)
      · refine y_in hC (off := 620) (tgt := 652) d_la_law_32 (by decide) (by decide) (by decide) ?_
        obtain ⟨P1, c1, k1⟩ := op_obeys ((xs (i + 1))) σ hJ
        refine y_aload_n hC (q := 653) (i := 1) d_la_law_652 rfl rfl rfl ?_
        refine y_arg hC (q := 658) (d := 1) d_la_law_653 d_la_law_654 d_la_law_655 d_la_law_656 d_la_law_657 rfl (by omega) hL ?_
        refine y_callV hC (As := [.int (xs (i + 1))]) (rest := []) (i := 0) (ci := 0) (q := 661) d_la_law_658 rfl rfl rfl c1 h00 (by omega) rfl ck_rs_obeys lk_la_95 im_rs_obeys sl_rs_obeys ⟨by decide, by decide⟩ (Nat.le_of_ble_eq_true rfl) rfl rfl (by decide) (by decide) (fun r1 n1 σ1 h1 => ?_)
        obtain ⟨rfl, ⟨li', gi', h78⟩, v1, rfl, P2, c2, k2⟩ := k1 r1 n1 σ1 h1
        refine ⟨v1, rfl, ?_⟩
        refine y_aload_n hC (q := 662) (i := 2) d_la_law_661 rfl rfl rfl ?_
        refine y_arg hC (q := 667) (d := 1) d_la_law_662 d_la_law_663 d_la_law_664 d_la_law_665 d_la_law_666 rfl (by omega) hL ?_
        refine y_callV hC (As := [.int (xs (i + 1))]) (rest := [.int v1]) (i := 78) (ci := 5) (q := 670) d_la_law_667 rfl rfl rfl c2 h78 (by omega) rfl ck_mo_obeys lk_la_98 im_mo_obeys sl_mo_obeys ⟨by decide, by decide⟩ (Nat.le_of_ble_eq_true rfl) rfl rfl (by decide) (by decide) (fun r2 n2 σ2 h2 => ?_)
        obtain ⟨rfl, rfl, hJ2⟩ := k2 r2 n2 σ2 h2
        refine ⟨v1, rfl, ?_⟩
        exact y_icmp_eq hC (q := 673) (tgt := 708) d_la_law_670 rfl (by decide) (fun _ => next σ2 hJ2) (fun h => absurd rfl h)
      · refine y_in hC (off := 643) (tgt := 675) d_la_law_32 (by decide) (by decide) (by decide) ?_
        obtain ⟨P1, c1, k1⟩ := op_shared ((xs (i + 1))) ((xs (i + 2))) σ hJ
        refine y_aload_n hC (q := 676) (i := 1) d_la_law_675 rfl rfl rfl ?_
        refine y_arg hC (q := 681) (d := 1) d_la_law_676 d_la_law_677 d_la_law_678 d_la_law_679 d_la_law_680 rfl (by omega) hL ?_
        refine y_arg hC (q := 686) (d := 2) d_la_law_681 d_la_law_682 d_la_law_683 d_la_law_684 d_la_law_685 rfl (by omega) hL ?_
        refine y_callV hC (As := [.int (xs (i + 1)), .int (xs (i + 2))]) (rest := []) (i := 0) (ci := 0) (q := 689) d_la_law_686 rfl rfl rfl c1 h00 (by omega) rfl ck_rs_shared lk_la_99 im_rs_shared sl_rs_shared ⟨by decide, by decide⟩ (Nat.le_of_ble_eq_true rfl) rfl rfl (by decide) (by decide) (fun r1 n1 σ1 h1 => ?_)
        obtain ⟨rfl, ⟨li', gi', h78⟩, v1, rfl, P2, c2, k2⟩ := k1 r1 n1 σ1 h1
        refine ⟨v1, rfl, ?_⟩
        refine y_aload_n hC (q := 690) (i := 2) d_la_law_689 rfl rfl rfl ?_
        refine y_arg hC (q := 695) (d := 1) d_la_law_690 d_la_law_691 d_la_law_692 d_la_law_693 d_la_law_694 rfl (by omega) hL ?_
        refine y_arg hC (q := 700) (d := 2) d_la_law_695 d_la_law_696 d_la_law_697 d_la_law_698 d_la_law_699 rfl (by omega) hL ?_
        refine y_callV hC (As := [.int (xs (i + 1)), .int (xs (i + 2))]) (rest := [.int v1]) (i := 78) (ci := 5) (q := 703) d_la_law_700 rfl rfl rfl c2 h78 (by omega) rfl ck_mo_shared lk_la_102 im_mo_shared sl_mo_shared ⟨by decide, by decide⟩ (Nat.le_of_ble_eq_true rfl) rfl rfl (by decide) (by decide) (fun r2 n2 σ2 h2 => ?_)
        obtain ⟨rfl, rfl, hJ2⟩ := k2 r2 n2 σ2 h2
        refine ⟨v1, rfl, ?_⟩
        exact y_icmp_eq hC (q := 706) (tgt := 708) d_la_law_703 rfl (by decide) (fun _ => next σ2 hJ2) (fun h => absurd rfl h)
      · refine y_out hC (tgt := 708) d_la_law_32 (Or.inr (by rw [nI_toInt (by omega)]; omega)) (by decide) (next σ hJ)
  have start : Y p l e s m below meth c b G D 0 0 0 (fun _ => zN 0 z0_) 0 [some (.ref b), none, none, none] [] := by
    refine y_new hC (q := 3) d_la_law_0 rfl (nw_rs cn_la_7) (by decide) (by decide) ?_
    refine y_dup_r hC (q := 4) d_la_law_3 rfl ?_
    refine y_callI hC (i := 0) (q := 7) d_la_law_4 rfl (ci_rs zu_same z0_ (fun _ => z0_) (fun _ => z0_)) rfl rfl ck_rs_init lk_la_9 im_rs_init ⟨by decide, by decide⟩ (Nat.le_of_ble_eq_true rfl) (Nat.le_of_ble_eq_true rfl) (Nat.le_of_ble_eq_true rfl) (fun r n' σ' hp => ?_)
    obtain ⟨rfl, rfl, hCS, -⟩ := hp
    refine ⟨rfl, Y.eqa (kc' := 78) (ks' := 5523) (n' := 78) rfl rfl rfl ?_⟩
    refine y_astore_n hC (q := 8) (i := 1) d_la_law_7 rfl (Nat.le_of_ble_eq_true rfl) rfl rfl ?_
    refine y_new hC (q := 11) d_la_law_8 rfl (nw_mo cn_la_10) (by decide) (by decide) ?_
    refine y_dup_r hC (q := 12) d_la_law_11 rfl ?_
    refine y_callI hC (i := 78) (q := 15) d_la_law_12 rfl (ci_mo2 zu_same z0_ (fun _ => z0_) (fun _ => z0_)) rfl rfl ck_mo_init lk_la_12 im_mo_init ⟨by decide, by decide⟩ (Nat.le_of_ble_eq_true rfl) (Nat.le_of_ble_eq_true rfl) (Nat.le_of_ble_eq_true rfl) (fun r n' σ'' hp => ?_)
    obtain ⟨rfl, rfl, hMS, hfr⟩ := hp
    refine ⟨rfl, Y.eqa (kc' := 90) (ks' := 12556) (n' := 90) rfl rfl rfl ?_⟩
    refine y_astore_n hC (q := 16) (i := 2) d_la_law_15 rfl (Nat.le_of_ble_eq_true rfl) rfl rfl ?_
    refine y_iconst hC (v := nI 0) (q := 17) d_la_law_16 rfl (by decide) ?_
    refine y_istore_n hC (q := 18) (i := 3) d_la_law_17 rfl (Nat.le_of_ble_eq_true rfl) rfl rfl ?_
    exact loop L 0 σ'' (by omega) (by omega) ⟨0, 0, z0_, z0_, fun _ => z0_, fun _ => z0_, hCS.keep (fun j hj => by rw [hfr j hj, zu_ne (by omega)]), hMS⟩
  have hh := lv_entry [Value.ref b] (show (lg_sl [Value.ref b]).length ≤ 4 from Nat.le_of_ble_eq_true rfl)
  rw [lg_entry_eq]
  refine start s.heap [] _ rfl (fun k q hq => by simp [zw] at hq) va_S.rf ⟨hh.1, hh.2.1, Nat.le_of_ble_eq_true rfl, fun i v hi => ?_⟩
  match i, hi with
  | 0, hi =>
    cases hi
    have h3 := hh.2.2 _ List.mem_cons_self
    rw [zv0_ref]
    simpa using h3
  | 1, hi => cases hi
  | 2, hi => cases hi
  | 3, hi => cases hi
  | i + 4, hi => simp at hi

set_option maxHeartbeats 4000000 in
theorem lw_walk (l : Launch) (b : Addr) (xs : List Int32) : MetFree l x (headSpec (Jvm.Cond.code x code maxLocals ret :: tables_1) room_1) (lw_P b xs) (fun _ _ _ _ _ => True) lw_Q := by
  refine MetFree.of_bodyS (code := code) (maxLocals := maxLocals) (ret := ret) (by decide) ?_ ?_
  · intro args s m h hn
    obtain ⟨meth, c, h1, h2, h3, h4, h5, h6, -, -⟩ := Cond.code_spec hn (atoms_spec (ws := Jvm.Cond.code x code maxLocals ret :: tables_1) h _ List.mem_cons_self)
    exact ⟨meth, c, h1, h2, h3, h4, h5, h6⟩
  · intro p e s m args below meth c s₁ B hml0 hP _
    obtain ⟨rfl, hx, hbd, hgv⟩ := hP
    obtain ⟨scr, harrAt, hlist, hof, hsmall⟩ := hx
    obtain ⟨hcb, hkn, -, -⟩ := State.arrayAt?_spec harrAt
    have hown : s.vm.findClass R_law = some m.cls := findClass_of_methodNamed B.named
    have hts0 : ∀ c ∈ (Jvm.Cond.code x code maxLocals ret :: tables_1), c.before #[Value.ref b] s = true := atoms_spec (ws := Jvm.Cond.code x code maxLocals ret :: tables_1) B.pre
    have hts : ∀ w ∈ lw_tbl, w.before #[Value.ref b] s = true := k2_hts_sels lw_privs (fun w hw => hts0 w (List.mem_cons_of_mem _ hw)) lw_privs_ok
    have hml : c.maxLocals = 4 := B.maxLocals_eq (hts0 _ List.mem_cons_self)
    have X₀ : Stand p l e room_1 s m #[Value.ref b] below meth c s₁ [] 0 0 := Stand.of_body B
    have hh0 : s₁.heap = s.heap := by rw [B.state]; rfl
    have hsz : scr.slots.size = xs.length := by rw [← Array.length_toList, hlist, List.length_map]
    have hval : ∀ j : Nat, j < xs.length → scr.slots[j]? = some (.int (xs.getD j 0)) := fun j hj => by
      rw [← Array.getElem?_toList, hlist]
      simp [hj]
    have hbl : b < s.heap.size := (Array.getElem?_eq_some_iff.mp hcb).1
    have hX : va_X b xs.length (fun j => xs.getD j 0) s s.heap := ⟨scr, hcb, hof, hkn, hsz, hval⟩
    have K : W p l e room_1 s m #[Value.ref b] below meth c s₁.heap [] 0 0 (lw_Z below #[Value.ref b] s) (entryFrame m ([Value.ref b] : List Value).toArray 4) := by
      rw [hh0]
      exact whole_start l hbd ⟨B.exec, B.bytes, B.returns, hml, hown, hts, hX, hbl, B.notSynchronized, hgv⟩
    obtain ⟨t, a1, o, b1, b2, b3⟩ := K s₁ rfl X₀
    exact ⟨t, o, a1, b1, b2, b3⟩
theorem lw_pre_spec {args : Array Value} {s : State} (h : (Jvm.Cond.and given_1 narrow_1).before args s = true) (hr : rest_1_c.before args s = true) : ∃ (b : Addr) (xs : List Int32), lw_P b xs args s := by
  have hs := flat_of_before _ h
  have hq := flat_of_before _ hr
  have hc : (Cond.count 1).before args s = true := hs _ (by decide +kernel)
  have harr : (Cond.arrayOf (.arg 0) .int).before args s = true := hs _ (by decide +kernel)
  have hle : (Cond.le (.length (.arg 0)) (.int 2560)).before args s = true := hs _ (by decide +kernel)
  have hlen : (Cond.isInt (.length (.arg 0))).before args s = true := hq _ (by decide +kernel)
  have hall : (Cond.all (.arg 0) (.isInt (.elem (.arg 0) (.index 0)))).before args s = true := hq _ (by decide +kernel)
  obtain ⟨b, xs, hb, hx⟩ := State.ints_of_pre rfl harr hlen hall
  have hsm : xs.length < 2 ^ 31 := hx.choose_spec.2.2.2
  have hev : (Term.length (.arg 0)).eval args s none [] s = some (.int xs.length.toInt32) := hx.length_eval hb
  have hv := Cond.le_ints hev (show (Term.int 2560).eval args s none [] s = some (.int 2560) from rfl)
  have hd : xs.length.toInt32 ≤ 2560 := by
    simpa [Cond.before, Cond.holds, hv] using hle
  have hN : xs.length ≤ 2560 := (Int32.ofNat_le_ofNat hsm (by decide)).mp (show Int32.ofNat xs.length ≤ Int32.ofNat 2560 from hd)
  exact ⟨b, xs, Cond.one_arg hc (show args[0]? = some (.ref b) from hb), hx, hN, h⟩
theorem lw_comes (l : Launch) : Comes l x (Jvm.Cond.code x code maxLocals ret :: tables_1) room_1 (fun tb e args s => Calls_1 tb e args s ∧ rest_1 tb e args s ∧ Pre_1 tb e args s)
    (fun _ _ args s o t => lw_Q args s o t) := by
  intro p e ha hc hk s m args below hf hfit hheap happ hpre
  obtain ⟨b, xs, hP⟩ := lw_pre_spec hpre.2.2 hpre.2.1
  obtain ⟨k, o, h1, h2, h3, hQ⟩ := lw_walk l b xs p e ha hc hk s m args below hf ((Spec.applies_iff_loose hf).mp happ).1 hP trivial
  exact ⟨k, o, h1, h2, h3, hQ⟩
theorem lw_frame {s t : State} {o : Outcome} {args : Array Value} (h : Framed s o t [] 600000 7302249) :
    Framed s o t (fieldLocs frame_1_writes args s ++ arrayLocs frame_1_arrays args s ++ staticLocs frame_1_statics s) 600000 7302249 := h
theorem lw_limb (L : Cond) (hL : ∀ (args : Array Value) (s t : State), L.after args s (.returned (some (.int 1))) t = true) :
    ArmFor flags0 classFile x code maxLocals ret World_1 tables_1 room_1 Calls_1 rest_1 Pre_1
      (fun tb e a s o t => postC L tb e a s o t ∧ Framed s o t (fieldLocs frame_1_writes a s ++ arrayLocs frame_1_arrays a s ++ staticLocs frame_1_statics s) 600000 7302249) := by
  intro l _ _ _ p e ha hc hk s m args below hf hfit hheap happ hpre
  obtain ⟨k, o, h1, h2, h3, rfl, hF⟩ := lw_comes l p e ha hc hk s m args below hf hfit hheap happ hpre
  exact ⟨k, _, h1, h2, h3, hL args s _, lw_frame hF⟩
theorem i_vc : Claimed_1_1 ∧ Claimed_1_2 := ⟨lw_limb limb_1_1 (fun args s t => by simp [limb_1_1, Cond.after, Cond.holds, Cond.value]), lw_limb limb_1_2 (fun args s t => Cond.after_iff.mpr (by
  first | (rw [show limb_1_2 = Cond.eq .result (.int 1) from rfl, Cond.eq_ints (x := 1) (y := 1) rfl rfl]; simp; done) | (simp [limb_1_2, Cond.value, Term.eval]; done)))⟩
