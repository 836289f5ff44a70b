/-! What the tables say of each field, call and constant that the code links -/
theorem tb_t {w : Cond} (i : Nat) (h : tables_1[i]? = some w) (hg : goodWord w = true) : w ∈ TB := TB_in (List.mem_append_right _ (List.mem_of_getElem? h)) hg
theorem tb_s {w : Cond} (i : Nat) (h : (k2_sels lw_privs)[i]? = some w) (hg : goodWord w = true) : w ∈ TB := TB_in (List.mem_append_left _ (List.mem_of_getElem? h)) hg
theorem nb_t {w : Cond} (i : Nat) (h : tables_1[i]? = some w) (hg : zIsNest w = true) : w ∈ NB := NB_in (List.mem_of_getElem? h) hg
theorem uw_rs : ∀ w ∈ u_ws "RecurrentSeries" zT_rs 9, w ∈ TB := by
  show ∀ w ∈ [u_lay "RecurrentSeries" zT_rs 0, u_lay "RecurrentSeries" zT_rs 1, u_lay "RecurrentSeries" zT_rs 2, u_lay "RecurrentSeries" zT_rs 3, u_lay "RecurrentSeries" zT_rs 4, u_lay "RecurrentSeries" zT_rs 5, u_lay "RecurrentSeries" zT_rs 6, u_lay "RecurrentSeries" zT_rs 7, u_lay "RecurrentSeries" zT_rs 8], w ∈ TB
  exact List.forall_mem_cons.mpr ⟨tb_t 105 (by decide +kernel) rfl, List.forall_mem_cons.mpr ⟨tb_t 107 (by decide +kernel) rfl, List.forall_mem_cons.mpr ⟨tb_t 109 (by decide +kernel) rfl, List.forall_mem_cons.mpr ⟨tb_t 111 (by decide +kernel) rfl, List.forall_mem_cons.mpr ⟨tb_t 113 (by decide +kernel) rfl, List.forall_mem_cons.mpr ⟨tb_t 115 (by decide +kernel) rfl, List.forall_mem_cons.mpr ⟨tb_t 117 (by decide +kernel) rfl, List.forall_mem_cons.mpr ⟨tb_t 119 (by decide +kernel) rfl, List.forall_mem_cons.mpr ⟨tb_t 121 (by decide +kernel) rfl, fun _ h => absurd h List.not_mem_nil⟩⟩⟩⟩⟩⟩⟩⟩⟩
theorem ft_rs : zFT 0 := ⟨_, zT_rs, 9, zY_rs, rfl, zY_rs_ok, zT_rs_nm⟩
theorem uw_se : ∀ w ∈ u_ws "RecurrentSeries$Series" zT_se 3, w ∈ TB := by
  show ∀ w ∈ [u_lay "RecurrentSeries$Series" zT_se 0, u_lay "RecurrentSeries$Series" zT_se 1, u_lay "RecurrentSeries$Series" zT_se 2], w ∈ TB
  exact List.forall_mem_cons.mpr ⟨tb_t 89 (by decide +kernel) rfl, List.forall_mem_cons.mpr ⟨tb_t 91 (by decide +kernel) rfl, List.forall_mem_cons.mpr ⟨tb_t 93 (by decide +kernel) rfl, fun _ h => absurd h List.not_mem_nil⟩⟩⟩
theorem ft_se : zFT 1 := ⟨_, zT_se, 3, zY_se, rfl, zY_se_ok, zT_se_nm⟩
theorem uw_fi : ∀ w ∈ u_ws "RecurrentSeries$Finder" zT_fi 3, w ∈ TB := by
  show ∀ w ∈ [u_lay "RecurrentSeries$Finder" zT_fi 0, u_lay "RecurrentSeries$Finder" zT_fi 1, u_lay "RecurrentSeries$Finder" zT_fi 2], w ∈ TB
  exact List.forall_mem_cons.mpr ⟨tb_t 28 (by decide +kernel) rfl, List.forall_mem_cons.mpr ⟨tb_t 30 (by decide +kernel) rfl, List.forall_mem_cons.mpr ⟨tb_t 32 (by decide +kernel) rfl, fun _ h => absurd h List.not_mem_nil⟩⟩⟩
theorem ft_fi : zFT 2 := ⟨_, zT_fi, 3, zY_fi, rfl, zY_fi_ok, zT_fi_nm⟩
theorem uw_sk : ∀ w ∈ u_ws "RecurrentSeries$Seeker" zT_sk 5, w ∈ TB := by
  show ∀ w ∈ [u_lay "RecurrentSeries$Seeker" zT_sk 0, u_lay "RecurrentSeries$Seeker" zT_sk 1, u_lay "RecurrentSeries$Seeker" zT_sk 2, u_lay "RecurrentSeries$Seeker" zT_sk 3, u_lay "RecurrentSeries$Seeker" zT_sk 4], w ∈ TB
  exact List.forall_mem_cons.mpr ⟨tb_t 47 (by decide +kernel) rfl, List.forall_mem_cons.mpr ⟨tb_t 49 (by decide +kernel) rfl, List.forall_mem_cons.mpr ⟨tb_t 51 (by decide +kernel) rfl, List.forall_mem_cons.mpr ⟨tb_t 53 (by decide +kernel) rfl, List.forall_mem_cons.mpr ⟨tb_t 55 (by decide +kernel) rfl, fun _ h => absurd h List.not_mem_nil⟩⟩⟩⟩⟩
theorem ft_sk : zFT 3 := ⟨_, zT_sk, 5, zY_sk, rfl, zY_sk_ok, zT_sk_nm⟩
theorem uw_dv : ∀ w ∈ u_ws "RecurrentSeries$Divider" zT_dv 2, w ∈ TB := by
  show ∀ w ∈ [u_lay "RecurrentSeries$Divider" zT_dv 0, u_lay "RecurrentSeries$Divider" zT_dv 1], w ∈ TB
  exact List.forall_mem_cons.mpr ⟨tb_t 66 (by decide +kernel) rfl, List.forall_mem_cons.mpr ⟨tb_t 68 (by decide +kernel) rfl, fun _ h => absurd h List.not_mem_nil⟩⟩
theorem ft_dv : zFT 4 := ⟨_, zT_dv, 2, zY_dv, rfl, zY_dv_ok, zT_dv_nm⟩
theorem uw_mo : ∀ w ∈ u_ws "RecurrentSeriesModel" zT_mo 13, w ∈ TB := by
  show ∀ w ∈ [u_lay "RecurrentSeriesModel" zT_mo 0, u_lay "RecurrentSeriesModel" zT_mo 1, u_lay "RecurrentSeriesModel" zT_mo 2, u_lay "RecurrentSeriesModel" zT_mo 3, u_lay "RecurrentSeriesModel" zT_mo 4, u_lay "RecurrentSeriesModel" zT_mo 5, u_lay "RecurrentSeriesModel" zT_mo 6, u_lay "RecurrentSeriesModel" zT_mo 7, u_lay "RecurrentSeriesModel" zT_mo 8, u_lay "RecurrentSeriesModel" zT_mo 9, u_lay "RecurrentSeriesModel" zT_mo 10, u_lay "RecurrentSeriesModel" zT_mo 11, u_lay "RecurrentSeriesModel" zT_mo 12], w ∈ TB
  exact List.forall_mem_cons.mpr ⟨tb_t 322 (by decide +kernel) rfl, List.forall_mem_cons.mpr ⟨tb_t 324 (by decide +kernel) rfl, List.forall_mem_cons.mpr ⟨tb_t 326 (by decide +kernel) rfl, List.forall_mem_cons.mpr ⟨tb_t 328 (by decide +kernel) rfl, List.forall_mem_cons.mpr ⟨tb_t 330 (by decide +kernel) rfl, List.forall_mem_cons.mpr ⟨tb_t 332 (by decide +kernel) rfl, List.forall_mem_cons.mpr ⟨tb_t 334 (by decide +kernel) rfl, List.forall_mem_cons.mpr ⟨tb_t 336 (by decide +kernel) rfl, List.forall_mem_cons.mpr ⟨tb_t 338 (by decide +kernel) rfl, List.forall_mem_cons.mpr ⟨tb_t 340 (by decide +kernel) rfl, List.forall_mem_cons.mpr ⟨tb_t 342 (by decide +kernel) rfl, List.forall_mem_cons.mpr ⟨tb_t 344 (by decide +kernel) rfl, List.forall_mem_cons.mpr ⟨tb_t 346 (by decide +kernel) rfl, fun _ h => absurd h List.not_mem_nil⟩⟩⟩⟩⟩⟩⟩⟩⟩⟩⟩⟩⟩
theorem ft_mo : zFT 5 := ⟨_, zT_mo, 13, zY_mo, rfl, zY_mo_ok, zT_mo_nm⟩
theorem fg_rs_11 : zFG "RecurrentSeries" 11 0 0 := ⟨_, zT_rs, 9, rfl, by decide, uw_rs, Or.inl (tb_t 96 (by decide +kernel) rfl)⟩
theorem fg_rs_15 : zFG "RecurrentSeries" 15 0 1 := ⟨_, zT_rs, 9, rfl, by decide, uw_rs, Or.inl (tb_t 97 (by decide +kernel) rfl)⟩
theorem fg_rs_19 : zFG "RecurrentSeries" 19 0 2 := ⟨_, zT_rs, 9, rfl, by decide, uw_rs, Or.inl (tb_t 98 (by decide +kernel) rfl)⟩
theorem fg_rs_22 : zFG "RecurrentSeries" 22 0 3 := ⟨_, zT_rs, 9, rfl, by decide, uw_rs, Or.inl (tb_t 99 (by decide +kernel) rfl)⟩
theorem fg_rs_28 : zFG "RecurrentSeries" 28 0 4 := ⟨_, zT_rs, 9, rfl, by decide, uw_rs, Or.inl (tb_t 100 (by decide +kernel) rfl)⟩
theorem fg_rs_35 : zFG "RecurrentSeries" 35 0 5 := ⟨_, zT_rs, 9, rfl, by decide, uw_rs, Or.inl (tb_t 101 (by decide +kernel) rfl)⟩
theorem fg_rs_42 : zFG "RecurrentSeries" 42 0 6 := ⟨_, zT_rs, 9, rfl, by decide, uw_rs, Or.inl (tb_t 102 (by decide +kernel) rfl)⟩
theorem fg_rs_47 : zFG "RecurrentSeries" 47 0 7 := ⟨_, zT_rs, 9, rfl, by decide, uw_rs, Or.inl (tb_t 103 (by decide +kernel) rfl)⟩
theorem fg_rs_51 : zFG "RecurrentSeries" 51 0 8 := ⟨_, zT_rs, 9, rfl, by decide, uw_rs, Or.inl (tb_t 104 (by decide +kernel) rfl)⟩
theorem fg_rs_78 : zFG "RecurrentSeries" 78 1 0 := ⟨_, zT_se, 3, rfl, by decide, uw_se, Or.inr ⟨"RecurrentSeries", nb_t 80 (by decide +kernel) rfl⟩⟩
theorem fg_rs_81 : zFG "RecurrentSeries" 81 1 2 := ⟨_, zT_se, 3, rfl, by decide, uw_se, Or.inr ⟨"RecurrentSeries", nb_t 88 (by decide +kernel) rfl⟩⟩
theorem fg_rs_99 : zFG "RecurrentSeries" 99 1 1 := ⟨_, zT_se, 3, rfl, by decide, uw_se, Or.inr ⟨"RecurrentSeries", nb_t 85 (by decide +kernel) rfl⟩⟩
theorem fg_mo_7 : zFG "RecurrentSeriesModel" 7 5 2 := ⟨_, zT_mo, 13, rfl, by decide, uw_mo, Or.inl (tb_t 311 (by decide +kernel) rfl)⟩
theorem fg_mo_13 : zFG "RecurrentSeriesModel" 13 5 3 := ⟨_, zT_mo, 13, rfl, by decide, uw_mo, Or.inl (tb_t 312 (by decide +kernel) rfl)⟩
theorem fg_mo_17 : zFG "RecurrentSeriesModel" 17 5 4 := ⟨_, zT_mo, 13, rfl, by decide, uw_mo, Or.inl (tb_t 313 (by decide +kernel) rfl)⟩
theorem fg_mo_20 : zFG "RecurrentSeriesModel" 20 5 5 := ⟨_, zT_mo, 13, rfl, by decide, uw_mo, Or.inl (tb_t 314 (by decide +kernel) rfl)⟩
theorem fg_mo_23 : zFG "RecurrentSeriesModel" 23 5 6 := ⟨_, zT_mo, 13, rfl, by decide, uw_mo, Or.inl (tb_t 315 (by decide +kernel) rfl)⟩
theorem fg_mo_26 : zFG "RecurrentSeriesModel" 26 5 7 := ⟨_, zT_mo, 13, rfl, by decide, uw_mo, Or.inl (tb_t 316 (by decide +kernel) rfl)⟩
theorem fg_mo_29 : zFG "RecurrentSeriesModel" 29 5 8 := ⟨_, zT_mo, 13, rfl, by decide, uw_mo, Or.inl (tb_t 317 (by decide +kernel) rfl)⟩
theorem fg_mo_32 : zFG "RecurrentSeriesModel" 32 5 9 := ⟨_, zT_mo, 13, rfl, by decide, uw_mo, Or.inl (tb_t 318 (by decide +kernel) rfl)⟩
theorem fg_mo_35 : zFG "RecurrentSeriesModel" 35 5 10 := ⟨_, zT_mo, 13, rfl, by decide, uw_mo, Or.inl (tb_t 319 (by decide +kernel) rfl)⟩
theorem fg_mo_38 : zFG "RecurrentSeriesModel" 38 5 11 := ⟨_, zT_mo, 13, rfl, by decide, uw_mo, Or.inl (tb_t 320 (by decide +kernel) rfl)⟩
theorem fg_mo_41 : zFG "RecurrentSeriesModel" 41 5 12 := ⟨_, zT_mo, 13, rfl, by decide, uw_mo, Or.inl (tb_t 321 (by decide +kernel) rfl)⟩
theorem fg_mo_48 : zFG "RecurrentSeriesModel" 48 5 0 := ⟨_, zT_mo, 13, rfl, by decide, uw_mo, Or.inl (tb_t 309 (by decide +kernel) rfl)⟩
theorem fg_mo_71 : zFG "RecurrentSeriesModel" 71 5 1 := ⟨_, zT_mo, 13, rfl, by decide, uw_mo, Or.inl (tb_t 310 (by decide +kernel) rfl)⟩
theorem fg_dv_9 : zFG "RecurrentSeries$Divider" 9 4 0 := ⟨_, zT_dv, 2, rfl, by decide, uw_dv, Or.inl (tb_t 64 (by decide +kernel) rfl)⟩
theorem fg_dv_15 : zFG "RecurrentSeries$Divider" 15 4 1 := ⟨_, zT_dv, 2, rfl, by decide, uw_dv, Or.inl (tb_t 65 (by decide +kernel) rfl)⟩
theorem fg_dv_22 : zFG "RecurrentSeries$Divider" 22 1 0 := ⟨_, zT_se, 3, rfl, by decide, uw_se, Or.inr ⟨"RecurrentSeries", nb_t 78 (by decide +kernel) rfl⟩⟩
theorem fg_dv_32 : zFG "RecurrentSeries$Divider" 32 1 1 := ⟨_, zT_se, 3, rfl, by decide, uw_se, Or.inr ⟨"RecurrentSeries", nb_t 84 (by decide +kernel) rfl⟩⟩
theorem fg_fi_9 : zFG "RecurrentSeries$Finder" 9 2 0 := ⟨_, zT_fi, 3, rfl, by decide, uw_fi, Or.inl (tb_t 25 (by decide +kernel) rfl)⟩
theorem fg_fi_15 : zFG "RecurrentSeries$Finder" 15 2 1 := ⟨_, zT_fi, 3, rfl, by decide, uw_fi, Or.inl (tb_t 26 (by decide +kernel) rfl)⟩
theorem fg_fi_18 : zFG "RecurrentSeries$Finder" 18 2 2 := ⟨_, zT_fi, 3, rfl, by decide, uw_fi, Or.inl (tb_t 27 (by decide +kernel) rfl)⟩
theorem fg_fi_49 : zFG "RecurrentSeries$Finder" 49 1 0 := ⟨_, zT_se, 3, rfl, by decide, uw_se, Or.inr ⟨"RecurrentSeries", nb_t 79 (by decide +kernel) rfl⟩⟩
theorem fg_fi_55 : zFG "RecurrentSeries$Finder" 55 1 1 := ⟨_, zT_se, 3, rfl, by decide, uw_se, Or.inr ⟨"RecurrentSeries", nb_t 82 (by decide +kernel) rfl⟩⟩
theorem fg_sk_9 : zFG "RecurrentSeries$Seeker" 9 3 0 := ⟨_, zT_sk, 5, rfl, by decide, uw_sk, Or.inl (tb_t 42 (by decide +kernel) rfl)⟩
theorem fg_sk_15 : zFG "RecurrentSeries$Seeker" 15 3 1 := ⟨_, zT_sk, 5, rfl, by decide, uw_sk, Or.inl (tb_t 43 (by decide +kernel) rfl)⟩
theorem fg_sk_18 : zFG "RecurrentSeries$Seeker" 18 3 2 := ⟨_, zT_sk, 5, rfl, by decide, uw_sk, Or.inl (tb_t 44 (by decide +kernel) rfl)⟩
theorem fg_sk_21 : zFG "RecurrentSeries$Seeker" 21 3 3 := ⟨_, zT_sk, 5, rfl, by decide, uw_sk, Or.inl (tb_t 45 (by decide +kernel) rfl)⟩
theorem fg_sk_24 : zFG "RecurrentSeries$Seeker" 24 3 4 := ⟨_, zT_sk, 5, rfl, by decide, uw_sk, Or.inl (tb_t 46 (by decide +kernel) rfl)⟩
theorem fg_sk_31 : zFG "RecurrentSeries$Seeker" 31 1 0 := ⟨_, zT_se, 3, rfl, by decide, uw_se, Or.inr ⟨"RecurrentSeries", nb_t 77 (by decide +kernel) rfl⟩⟩
theorem fg_sk_41 : zFG "RecurrentSeries$Seeker" 41 1 1 := ⟨_, zT_se, 3, rfl, by decide, uw_se, Or.inr ⟨"RecurrentSeries", nb_t 83 (by decide +kernel) rfl⟩⟩
theorem fg_sk_50 : zFG "RecurrentSeries$Seeker" 50 1 2 := ⟨_, zT_se, 3, rfl, by decide, uw_se, Or.inr ⟨"RecurrentSeries", nb_t 87 (by decide +kernel) rfl⟩⟩
theorem fg_se_9 : zFG "RecurrentSeries$Series" 9 1 1 := ⟨_, zT_se, 3, rfl, by decide, uw_se, Or.inl (tb_t 81 (by decide +kernel) rfl)⟩
theorem fg_se_15 : zFG "RecurrentSeries$Series" 15 1 2 := ⟨_, zT_se, 3, rfl, by decide, uw_se, Or.inl (tb_t 86 (by decide +kernel) rfl)⟩
theorem fg_se_18 : zFG "RecurrentSeries$Series" 18 1 0 := ⟨_, zT_se, 3, rfl, by decide, uw_se, Or.inl (tb_t 76 (by decide +kernel) rfl)⟩
theorem fk_rs_11 : zFk 0 0 true "RecurrentSeries" (zY_rs 0) := fun C T N h => by cases h; exact ⟨rfl, fun _ => rfl, zY_rs_ok 0 (by decide)⟩
theorem fl_rs_11 : ∀ (C : String) (T : u_T) (N : Nat), zCl[0]? = some (C, T, N) → Cond.fieldLink "RecurrentSeries" 11 (T 0).1 (T 0).2.1 (T 0).2.2.1 ∈ TB := fun C T N h => by cases h; exact tb_t 96 (by decide +kernel) rfl
theorem fk_rs_15 : zFk 0 1 true "RecurrentSeries" (zY_rs 1) := fun C T N h => by cases h; exact ⟨rfl, fun _ => rfl, zY_rs_ok 1 (by decide)⟩
theorem fl_rs_15 : ∀ (C : String) (T : u_T) (N : Nat), zCl[0]? = some (C, T, N) → Cond.fieldLink "RecurrentSeries" 15 (T 1).1 (T 1).2.1 (T 1).2.2.1 ∈ TB := fun C T N h => by cases h; exact tb_t 97 (by decide +kernel) rfl
theorem fk_rs_19 : zFk 0 2 true "RecurrentSeries" (zY_rs 2) := fun C T N h => by cases h; exact ⟨rfl, fun _ => rfl, zY_rs_ok 2 (by decide)⟩
theorem fl_rs_19 : ∀ (C : String) (T : u_T) (N : Nat), zCl[0]? = some (C, T, N) → Cond.fieldLink "RecurrentSeries" 19 (T 2).1 (T 2).2.1 (T 2).2.2.1 ∈ TB := fun C T N h => by cases h; exact tb_t 98 (by decide +kernel) rfl
theorem fk_rs_22 : zFk 0 3 true "RecurrentSeries" (zY_rs 3) := fun C T N h => by cases h; exact ⟨rfl, fun _ => rfl, zY_rs_ok 3 (by decide)⟩
theorem fl_rs_22 : ∀ (C : String) (T : u_T) (N : Nat), zCl[0]? = some (C, T, N) → Cond.fieldLink "RecurrentSeries" 22 (T 3).1 (T 3).2.1 (T 3).2.2.1 ∈ TB := fun C T N h => by cases h; exact tb_t 99 (by decide +kernel) rfl
theorem fk_rs_28 : zFk 0 4 true "RecurrentSeries" (zY_rs 4) := fun C T N h => by cases h; exact ⟨rfl, fun _ => rfl, zY_rs_ok 4 (by decide)⟩
theorem fl_rs_28 : ∀ (C : String) (T : u_T) (N : Nat), zCl[0]? = some (C, T, N) → Cond.fieldLink "RecurrentSeries" 28 (T 4).1 (T 4).2.1 (T 4).2.2.1 ∈ TB := fun C T N h => by cases h; exact tb_t 100 (by decide +kernel) rfl
theorem fk_rs_35 : zFk 0 5 true "RecurrentSeries" (zY_rs 5) := fun C T N h => by cases h; exact ⟨rfl, fun _ => rfl, zY_rs_ok 5 (by decide)⟩
theorem fl_rs_35 : ∀ (C : String) (T : u_T) (N : Nat), zCl[0]? = some (C, T, N) → Cond.fieldLink "RecurrentSeries" 35 (T 5).1 (T 5).2.1 (T 5).2.2.1 ∈ TB := fun C T N h => by cases h; exact tb_t 101 (by decide +kernel) rfl
theorem fk_rs_42 : zFk 0 6 true "RecurrentSeries" (zY_rs 6) := fun C T N h => by cases h; exact ⟨rfl, fun _ => rfl, zY_rs_ok 6 (by decide)⟩
theorem fl_rs_42 : ∀ (C : String) (T : u_T) (N : Nat), zCl[0]? = some (C, T, N) → Cond.fieldLink "RecurrentSeries" 42 (T 6).1 (T 6).2.1 (T 6).2.2.1 ∈ TB := fun C T N h => by cases h; exact tb_t 102 (by decide +kernel) rfl
theorem fk_rs_47 : zFk 0 7 false "" (zY_rs 7) := fun C T N h => by cases h; exact ⟨rfl, fun h => (by cases h), zY_rs_ok 7 (by decide)⟩
theorem fk_rs_51 : zFk 0 8 false "" (zY_rs 8) := fun C T N h => by cases h; exact ⟨rfl, fun h => (by cases h), zY_rs_ok 8 (by decide)⟩
theorem fk_dv_9 : zFk 4 0 true "RecurrentSeries$Divider" (zY_dv 0) := fun C T N h => by cases h; exact ⟨rfl, fun _ => rfl, zY_dv_ok 0 (by decide)⟩
theorem fl_dv_9 : ∀ (C : String) (T : u_T) (N : Nat), zCl[4]? = some (C, T, N) → Cond.fieldLink "RecurrentSeries$Divider" 9 (T 0).1 (T 0).2.1 (T 0).2.2.1 ∈ TB := fun C T N h => by cases h; exact tb_t 64 (by decide +kernel) rfl
theorem fk_dv_15 : zFk 4 1 true "RecurrentSeries$Divider" (zY_dv 1) := fun C T N h => by cases h; exact ⟨rfl, fun _ => rfl, zY_dv_ok 1 (by decide)⟩
theorem fl_dv_15 : ∀ (C : String) (T : u_T) (N : Nat), zCl[4]? = some (C, T, N) → Cond.fieldLink "RecurrentSeries$Divider" 15 (T 1).1 (T 1).2.1 (T 1).2.2.1 ∈ TB := fun C T N h => by cases h; exact tb_t 65 (by decide +kernel) rfl
theorem fk_fi_9 : zFk 2 0 false "" (zY_fi 0) := fun C T N h => by cases h; exact ⟨rfl, fun h => (by cases h), zY_fi_ok 0 (by decide)⟩
theorem fk_fi_15 : zFk 2 1 false "" (zY_fi 1) := fun C T N h => by cases h; exact ⟨rfl, fun h => (by cases h), zY_fi_ok 1 (by decide)⟩
theorem fk_fi_18 : zFk 2 2 false "" (zY_fi 2) := fun C T N h => by cases h; exact ⟨rfl, fun h => (by cases h), zY_fi_ok 2 (by decide)⟩
theorem fk_fi_49 : zFk 1 0 false "" (zY_se 0) := fun C T N h => by cases h; exact ⟨rfl, fun h => (by cases h), zY_se_ok 0 (by decide)⟩
theorem fk_sk_9 : zFk 3 0 false "" (zY_sk 0) := fun C T N h => by cases h; exact ⟨rfl, fun h => (by cases h), zY_sk_ok 0 (by decide)⟩
theorem fk_sk_15 : zFk 3 1 false "" (zY_sk 1) := fun C T N h => by cases h; exact ⟨rfl, fun h => (by cases h), zY_sk_ok 1 (by decide)⟩
theorem fk_sk_18 : zFk 3 2 false "" (zY_sk 2) := fun C T N h => by cases h; exact ⟨rfl, fun h => (by cases h), zY_sk_ok 2 (by decide)⟩
theorem fk_sk_21 : zFk 3 3 false "" (zY_sk 3) := fun C T N h => by cases h; exact ⟨rfl, fun h => (by cases h), zY_sk_ok 3 (by decide)⟩
theorem fk_sk_24 : zFk 3 4 true "RecurrentSeries$Seeker" (zY_sk 4) := fun C T N h => by cases h; exact ⟨rfl, fun _ => rfl, zY_sk_ok 4 (by decide)⟩
theorem fl_sk_24 : ∀ (C : String) (T : u_T) (N : Nat), zCl[3]? = some (C, T, N) → Cond.fieldLink "RecurrentSeries$Seeker" 24 (T 4).1 (T 4).2.1 (T 4).2.2.1 ∈ TB := fun C T N h => by cases h; exact tb_t 46 (by decide +kernel) rfl
theorem fk_se_9 : zFk 1 1 true "RecurrentSeries$Series" (zY_se 1) := fun C T N h => by cases h; exact ⟨rfl, fun _ => rfl, zY_se_ok 1 (by decide)⟩
theorem fl_se_9 : ∀ (C : String) (T : u_T) (N : Nat), zCl[1]? = some (C, T, N) → Cond.fieldLink "RecurrentSeries$Series" 9 (T 1).1 (T 1).2.1 (T 1).2.2.1 ∈ TB := fun C T N h => by cases h; exact tb_t 81 (by decide +kernel) rfl
theorem fk_se_15 : zFk 1 2 true "RecurrentSeries$Series" (zY_se 2) := fun C T N h => by cases h; exact ⟨rfl, fun _ => rfl, zY_se_ok 2 (by decide)⟩
theorem fl_se_15 : ∀ (C : String) (T : u_T) (N : Nat), zCl[1]? = some (C, T, N) → Cond.fieldLink "RecurrentSeries$Series" 15 (T 2).1 (T 2).2.1 (T 2).2.2.1 ∈ TB := fun C T N h => by cases h; exact tb_t 86 (by decide +kernel) rfl
theorem fk_mo_7 : zFk 5 2 true "RecurrentSeriesModel" (zY_mo 2) := fun C T N h => by cases h; exact ⟨rfl, fun _ => rfl, zY_mo_ok 2 (by decide)⟩
theorem fl_mo_7 : ∀ (C : String) (T : u_T) (N : Nat), zCl[5]? = some (C, T, N) → Cond.fieldLink "RecurrentSeriesModel" 7 (T 2).1 (T 2).2.1 (T 2).2.2.1 ∈ TB := fun C T N h => by cases h; exact tb_t 311 (by decide +kernel) rfl
theorem fk_mo_13 : zFk 5 3 true "RecurrentSeriesModel" (zY_mo 3) := fun C T N h => by cases h; exact ⟨rfl, fun _ => rfl, zY_mo_ok 3 (by decide)⟩
theorem fl_mo_13 : ∀ (C : String) (T : u_T) (N : Nat), zCl[5]? = some (C, T, N) → Cond.fieldLink "RecurrentSeriesModel" 13 (T 3).1 (T 3).2.1 (T 3).2.2.1 ∈ TB := fun C T N h => by cases h; exact tb_t 312 (by decide +kernel) rfl
theorem fk_mo_17 : zFk 5 4 true "RecurrentSeriesModel" (zY_mo 4) := fun C T N h => by cases h; exact ⟨rfl, fun _ => rfl, zY_mo_ok 4 (by decide)⟩
theorem fl_mo_17 : ∀ (C : String) (T : u_T) (N : Nat), zCl[5]? = some (C, T, N) → Cond.fieldLink "RecurrentSeriesModel" 17 (T 4).1 (T 4).2.1 (T 4).2.2.1 ∈ TB := fun C T N h => by cases h; exact tb_t 313 (by decide +kernel) rfl
theorem fk_mo_20 : zFk 5 5 true "RecurrentSeriesModel" (zY_mo 5) := fun C T N h => by cases h; exact ⟨rfl, fun _ => rfl, zY_mo_ok 5 (by decide)⟩
theorem fl_mo_20 : ∀ (C : String) (T : u_T) (N : Nat), zCl[5]? = some (C, T, N) → Cond.fieldLink "RecurrentSeriesModel" 20 (T 5).1 (T 5).2.1 (T 5).2.2.1 ∈ TB := fun C T N h => by cases h; exact tb_t 314 (by decide +kernel) rfl
theorem fk_mo_23 : zFk 5 6 true "RecurrentSeriesModel" (zY_mo 6) := fun C T N h => by cases h; exact ⟨rfl, fun _ => rfl, zY_mo_ok 6 (by decide)⟩
theorem fl_mo_23 : ∀ (C : String) (T : u_T) (N : Nat), zCl[5]? = some (C, T, N) → Cond.fieldLink "RecurrentSeriesModel" 23 (T 6).1 (T 6).2.1 (T 6).2.2.1 ∈ TB := fun C T N h => by cases h; exact tb_t 315 (by decide +kernel) rfl
theorem fk_mo_26 : zFk 5 7 true "RecurrentSeriesModel" (zY_mo 7) := fun C T N h => by cases h; exact ⟨rfl, fun _ => rfl, zY_mo_ok 7 (by decide)⟩
theorem fl_mo_26 : ∀ (C : String) (T : u_T) (N : Nat), zCl[5]? = some (C, T, N) → Cond.fieldLink "RecurrentSeriesModel" 26 (T 7).1 (T 7).2.1 (T 7).2.2.1 ∈ TB := fun C T N h => by cases h; exact tb_t 316 (by decide +kernel) rfl
theorem fk_mo_29 : zFk 5 8 true "RecurrentSeriesModel" (zY_mo 8) := fun C T N h => by cases h; exact ⟨rfl, fun _ => rfl, zY_mo_ok 8 (by decide)⟩
theorem fl_mo_29 : ∀ (C : String) (T : u_T) (N : Nat), zCl[5]? = some (C, T, N) → Cond.fieldLink "RecurrentSeriesModel" 29 (T 8).1 (T 8).2.1 (T 8).2.2.1 ∈ TB := fun C T N h => by cases h; exact tb_t 317 (by decide +kernel) rfl
theorem fk_mo_32 : zFk 5 9 true "RecurrentSeriesModel" (zY_mo 9) := fun C T N h => by cases h; exact ⟨rfl, fun _ => rfl, zY_mo_ok 9 (by decide)⟩
theorem fl_mo_32 : ∀ (C : String) (T : u_T) (N : Nat), zCl[5]? = some (C, T, N) → Cond.fieldLink "RecurrentSeriesModel" 32 (T 9).1 (T 9).2.1 (T 9).2.2.1 ∈ TB := fun C T N h => by cases h; exact tb_t 318 (by decide +kernel) rfl
theorem fk_mo_35 : zFk 5 10 true "RecurrentSeriesModel" (zY_mo 10) := fun C T N h => by cases h; exact ⟨rfl, fun _ => rfl, zY_mo_ok 10 (by decide)⟩
theorem fl_mo_35 : ∀ (C : String) (T : u_T) (N : Nat), zCl[5]? = some (C, T, N) → Cond.fieldLink "RecurrentSeriesModel" 35 (T 10).1 (T 10).2.1 (T 10).2.2.1 ∈ TB := fun C T N h => by cases h; exact tb_t 319 (by decide +kernel) rfl
theorem fk_mo_38 : zFk 5 11 true "RecurrentSeriesModel" (zY_mo 11) := fun C T N h => by cases h; exact ⟨rfl, fun _ => rfl, zY_mo_ok 11 (by decide)⟩
theorem fl_mo_38 : ∀ (C : String) (T : u_T) (N : Nat), zCl[5]? = some (C, T, N) → Cond.fieldLink "RecurrentSeriesModel" 38 (T 11).1 (T 11).2.1 (T 11).2.2.1 ∈ TB := fun C T N h => by cases h; exact tb_t 320 (by decide +kernel) rfl
theorem fk_mo_41 : zFk 5 12 true "RecurrentSeriesModel" (zY_mo 12) := fun C T N h => by cases h; exact ⟨rfl, fun _ => rfl, zY_mo_ok 12 (by decide)⟩
theorem fl_mo_41 : ∀ (C : String) (T : u_T) (N : Nat), zCl[5]? = some (C, T, N) → Cond.fieldLink "RecurrentSeriesModel" 41 (T 12).1 (T 12).2.1 (T 12).2.2.1 ∈ TB := fun C T N h => by cases h; exact tb_t 321 (by decide +kernel) rfl
theorem fk_mo_48 : zFk 5 0 false "" (zY_mo 0) := fun C T N h => by cases h; exact ⟨rfl, fun h => (by cases h), zY_mo_ok 0 (by decide)⟩
theorem fk_mo_71 : zFk 5 1 false "" (zY_mo 1) := fun C T N h => by cases h; exact ⟨rfl, fun h => (by cases h), zY_mo_ok 1 (by decide)⟩
theorem ck_rs_init : zCk m_rs_init 0 := ⟨tb_t 13 (by decide +kernel) rfl, tb_t 1 (by decide +kernel) rfl, by decide, by decide, by decide +kernel⟩
theorem im_rs_init : Cond.instanceMethod (mY m_rs_init) ∈ TB := tb_t 12 (by decide +kernel) rfl
theorem ck_rs_give : zCk m_rs_give 1 := ⟨tb_t 127 (by decide +kernel) rfl, tb_t 1 (by decide +kernel) rfl, by decide, by decide, by decide +kernel⟩
theorem im_rs_give : Cond.instanceMethod (mY m_rs_give) ∈ TB := tb_t 125 (by decide +kernel) rfl
theorem sl_rs_give : Cond.selects "RecurrentSeries" (mY m_rs_give) (mY m_rs_give) ∈ TB := tb_t 126 (by decide +kernel) rfl
theorem ck_rs_clear : zCk m_rs_clear 0 := ⟨tb_t 135 (by decide +kernel) rfl, tb_t 1 (by decide +kernel) rfl, by decide, by decide, by decide +kernel⟩
theorem im_rs_clear : Cond.instanceMethod (mY m_rs_clear) ∈ TB := tb_t 133 (by decide +kernel) rfl
theorem sl_rs_clear : Cond.selects "RecurrentSeries" (mY m_rs_clear) (mY m_rs_clear) ∈ TB := tb_t 134 (by decide +kernel) rfl
theorem ck_rs_leaf : zCk m_rs_leaf 1 := ⟨tb_t 139 (by decide +kernel) rfl, tb_t 1 (by decide +kernel) rfl, by decide, by decide, by decide +kernel⟩
theorem im_rs_leaf : Cond.instanceMethod (mY m_rs_leaf) ∈ TB := tb_t 137 (by decide +kernel) rfl
theorem sl_rs_leaf : Cond.selects "RecurrentSeries" (mY m_rs_leaf) (mY m_rs_leaf) ∈ TB := tb_t 138 (by decide +kernel) rfl
theorem ck_rs_combine : zCk m_rs_combine 4 := ⟨tb_t 196 (by decide +kernel) rfl, tb_t 1 (by decide +kernel) rfl, by decide, by decide, by decide +kernel⟩
theorem im_rs_combine : Cond.instanceMethod (mY m_rs_combine) ∈ TB := tb_t 194 (by decide +kernel) rfl
theorem sl_rs_combine : Cond.selects "RecurrentSeries" (mY m_rs_combine) (mY m_rs_combine) ∈ TB := tb_t 195 (by decide +kernel) rfl
theorem ck_rs_product : zCk m_rs_product 2 := ⟨tb_t 206 (by decide +kernel) rfl, tb_t 1 (by decide +kernel) rfl, by decide, by decide, by decide +kernel⟩
theorem im_rs_product : Cond.instanceMethod (mY m_rs_product) ∈ TB := tb_t 204 (by decide +kernel) rfl
theorem sl_rs_product : Cond.selects "RecurrentSeries" (mY m_rs_product) (mY m_rs_product) ∈ TB := tb_t 205 (by decide +kernel) rfl
theorem ck_rs_pairwise : zCk m_rs_pairwise 2 := ⟨tb_t 210 (by decide +kernel) rfl, tb_t 1 (by decide +kernel) rfl, by decide, by decide, by decide +kernel⟩
theorem im_rs_pairwise : Cond.instanceMethod (mY m_rs_pairwise) ∈ TB := tb_t 208 (by decide +kernel) rfl
theorem sl_rs_pairwise : Cond.selects "RecurrentSeries" (mY m_rs_pairwise) (mY m_rs_pairwise) ∈ TB := tb_t 209 (by decide +kernel) rfl
theorem ck_rs_derivative : zCk m_rs_derivative 1 := ⟨tb_t 214 (by decide +kernel) rfl, tb_t 1 (by decide +kernel) rfl, by decide, by decide, by decide +kernel⟩
theorem im_rs_derivative : Cond.instanceMethod (mY m_rs_derivative) ∈ TB := tb_t 212 (by decide +kernel) rfl
theorem sl_rs_derivative : Cond.selects "RecurrentSeries" (mY m_rs_derivative) (mY m_rs_derivative) ∈ TB := tb_t 213 (by decide +kernel) rfl
theorem ck_rs_tail : zCk m_rs_tail 1 := ⟨tb_t 218 (by decide +kernel) rfl, tb_t 1 (by decide +kernel) rfl, by decide, by decide, by decide +kernel⟩
theorem im_rs_tail : Cond.instanceMethod (mY m_rs_tail) ∈ TB := tb_t 216 (by decide +kernel) rfl
theorem sl_rs_tail : Cond.selects "RecurrentSeries" (mY m_rs_tail) (mY m_rs_tail) ∈ TB := tb_t 217 (by decide +kernel) rfl
theorem ck_rs_delay : zCk m_rs_delay 1 := ⟨tb_t 222 (by decide +kernel) rfl, tb_t 1 (by decide +kernel) rfl, by decide, by decide, by decide +kernel⟩
theorem im_rs_delay : Cond.instanceMethod (mY m_rs_delay) ∈ TB := tb_t 220 (by decide +kernel) rfl
theorem sl_rs_delay : Cond.selects "RecurrentSeries" (mY m_rs_delay) (mY m_rs_delay) ∈ TB := tb_t 221 (by decide +kernel) rfl
theorem ck_rs_sums : zCk m_rs_sums 1 := ⟨tb_t 226 (by decide +kernel) rfl, tb_t 1 (by decide +kernel) rfl, by decide, by decide, by decide +kernel⟩
theorem im_rs_sums : Cond.instanceMethod (mY m_rs_sums) ∈ TB := tb_t 224 (by decide +kernel) rfl
theorem sl_rs_sums : Cond.selects "RecurrentSeries" (mY m_rs_sums) (mY m_rs_sums) ∈ TB := tb_t 225 (by decide +kernel) rfl
theorem ck_rs_section : zCk m_rs_section 3 := ⟨tb_t 231 (by decide +kernel) rfl, tb_t 1 (by decide +kernel) rfl, by decide, by decide, by decide +kernel⟩
theorem im_rs_section : Cond.instanceMethod (mY m_rs_section) ∈ TB := tb_t 229 (by decide +kernel) rfl
theorem sl_rs_section : Cond.selects "RecurrentSeries" (mY m_rs_section) (mY m_rs_section) ∈ TB := tb_t 230 (by decide +kernel) rfl
theorem ck_rs_spread : zCk m_rs_spread 2 := ⟨tb_t 235 (by decide +kernel) rfl, tb_t 1 (by decide +kernel) rfl, by decide, by decide, by decide +kernel⟩
theorem im_rs_spread : Cond.instanceMethod (mY m_rs_spread) ∈ TB := tb_t 233 (by decide +kernel) rfl
theorem sl_rs_spread : Cond.selects "RecurrentSeries" (mY m_rs_spread) (mY m_rs_spread) ∈ TB := tb_t 234 (by decide +kernel) rfl
theorem ck_rs_forget : zCk m_rs_forget 0 := ⟨tb_t 239 (by decide +kernel) rfl, tb_t 1 (by decide +kernel) rfl, by decide, by decide, by decide +kernel⟩
theorem im_rs_forget : Cond.instanceMethod (mY m_rs_forget) ∈ TB := tb_t 237 (by decide +kernel) rfl
theorem sl_rs_forget : Cond.selects "RecurrentSeries" (mY m_rs_forget) (mY m_rs_forget) ∈ TB := tb_t 238 (by decide +kernel) rfl
theorem ck_rs_count : zCk m_rs_count 0 := ⟨tb_t 243 (by decide +kernel) rfl, tb_t 1 (by decide +kernel) rfl, by decide, by decide, by decide +kernel⟩
theorem im_rs_count : Cond.instanceMethod (mY m_rs_count) ∈ TB := tb_t 241 (by decide +kernel) rfl
theorem sl_rs_count : Cond.selects "RecurrentSeries" (mY m_rs_count) (mY m_rs_count) ∈ TB := tb_t 242 (by decide +kernel) rfl
theorem ck_rs_order : zCk m_rs_order 1 := ⟨tb_t 247 (by decide +kernel) rfl, tb_t 1 (by decide +kernel) rfl, by decide, by decide, by decide +kernel⟩
theorem im_rs_order : Cond.instanceMethod (mY m_rs_order) ∈ TB := tb_t 245 (by decide +kernel) rfl
theorem sl_rs_order : Cond.selects "RecurrentSeries" (mY m_rs_order) (mY m_rs_order) ∈ TB := tb_t 246 (by decide +kernel) rfl
theorem ck_rs_coefficient : zCk m_rs_coefficient 2 := ⟨tb_t 251 (by decide +kernel) rfl, tb_t 1 (by decide +kernel) rfl, by decide, by decide, by decide +kernel⟩
theorem im_rs_coefficient : Cond.instanceMethod (mY m_rs_coefficient) ∈ TB := tb_t 249 (by decide +kernel) rfl
theorem sl_rs_coefficient : Cond.selects "RecurrentSeries" (mY m_rs_coefficient) (mY m_rs_coefficient) ∈ TB := tb_t 250 (by decide +kernel) rfl
theorem ck_rs_term : zCk m_rs_term 2 := ⟨tb_t 255 (by decide +kernel) rfl, tb_t 1 (by decide +kernel) rfl, by decide, by decide, by decide +kernel⟩
theorem im_rs_term : Cond.instanceMethod (mY m_rs_term) ∈ TB := tb_t 253 (by decide +kernel) rfl
theorem sl_rs_term : Cond.selects "RecurrentSeries" (mY m_rs_term) (mY m_rs_term) ∈ TB := tb_t 254 (by decide +kernel) rfl
theorem ck_rs_differ : zCk m_rs_differ 2 := ⟨tb_t 281 (by decide +kernel) rfl, tb_t 1 (by decide +kernel) rfl, by decide, by decide, by decide +kernel⟩
theorem im_rs_differ : Cond.instanceMethod (mY m_rs_differ) ∈ TB := tb_t 279 (by decide +kernel) rfl
theorem sl_rs_differ : Cond.selects "RecurrentSeries" (mY m_rs_differ) (mY m_rs_differ) ∈ TB := tb_t 280 (by decide +kernel) rfl
theorem ck_rs_obeys : zCk m_rs_obeys 1 := ⟨tb_t 285 (by decide +kernel) rfl, tb_t 1 (by decide +kernel) rfl, by decide, by decide, by decide +kernel⟩
theorem im_rs_obeys : Cond.instanceMethod (mY m_rs_obeys) ∈ TB := tb_t 283 (by decide +kernel) rfl
theorem sl_rs_obeys : Cond.selects "RecurrentSeries" (mY m_rs_obeys) (mY m_rs_obeys) ∈ TB := tb_t 284 (by decide +kernel) rfl
theorem ck_rs_shared : zCk m_rs_shared 2 := ⟨tb_t 289 (by decide +kernel) rfl, tb_t 1 (by decide +kernel) rfl, by decide, by decide, by decide +kernel⟩
theorem im_rs_shared : Cond.instanceMethod (mY m_rs_shared) ∈ TB := tb_t 287 (by decide +kernel) rfl
theorem sl_rs_shared : Cond.selects "RecurrentSeries" (mY m_rs_shared) (mY m_rs_shared) ∈ TB := tb_t 288 (by decide +kernel) rfl
theorem ck_rs_isListed : zCk m_rs_isListed 1 := ⟨tb_t 200 (by decide +kernel) rfl, tb_t 1 (by decide +kernel) rfl, by decide, by decide, by decide +kernel⟩
theorem im_rs_isListed : Cond.instanceMethod (mY m_rs_isListed) ∈ TB := tb_t 199 (by decide +kernel) rfl
theorem sl_rs_isListed : Cond.selects "RecurrentSeries" (mY m_rs_isListed) (mY m_rs_isListed) ∈ TB := tb_s 5 (by decide +kernel) rfl
theorem ck_rs_numberFor : zCk m_rs_numberFor 1 := ⟨tb_t 143 (by decide +kernel) rfl, tb_t 1 (by decide +kernel) rfl, by decide, by decide, by decide +kernel⟩
theorem im_rs_numberFor : Cond.instanceMethod (mY m_rs_numberFor) ∈ TB := tb_t 142 (by decide +kernel) rfl
theorem sl_rs_numberFor : Cond.selects "RecurrentSeries" (mY m_rs_numberFor) (mY m_rs_numberFor) ∈ TB := tb_s 0 (by decide +kernel) rfl
theorem ck_rs_othersFit : zCk m_rs_othersFit 1 := ⟨tb_t 147 (by decide +kernel) rfl, tb_t 1 (by decide +kernel) rfl, by decide, by decide, by decide +kernel⟩
theorem im_rs_othersFit : Cond.instanceMethod (mY m_rs_othersFit) ∈ TB := tb_t 146 (by decide +kernel) rfl
theorem sl_rs_othersFit : Cond.selects "RecurrentSeries" (mY m_rs_othersFit) (mY m_rs_othersFit) ∈ TB := tb_s 1 (by decide +kernel) rfl
theorem ck_rs_enlist : zCk m_rs_enlist 1 := ⟨tb_t 157 (by decide +kernel) rfl, tb_t 1 (by decide +kernel) rfl, by decide, by decide, by decide +kernel⟩
theorem im_rs_enlist : Cond.instanceMethod (mY m_rs_enlist) ∈ TB := tb_t 156 (by decide +kernel) rfl
theorem sl_rs_enlist : Cond.selects "RecurrentSeries" (mY m_rs_enlist) (mY m_rs_enlist) ∈ TB := tb_s 2 (by decide +kernel) rfl
theorem ck_mo_init : zCk m_mo_init 0 := ⟨tb_t 307 (by decide +kernel) rfl, tb_t 6 (by decide +kernel) rfl, by decide, by decide, by decide +kernel⟩
theorem im_mo_init : Cond.instanceMethod (mY m_mo_init) ∈ TB := tb_t 306 (by decide +kernel) rfl
theorem ck_mo_number : zCk m_mo_number 1 := ⟨tb_t 356 (by decide +kernel) rfl, tb_t 6 (by decide +kernel) rfl, by decide, by decide, by decide +kernel⟩
theorem st_mo_number : Cond.static (mY m_mo_number) ∈ TB := tb_t 355 (by decide +kernel) rfl
theorem ck_mo_inverse : zCk m_mo_inverse 1 := ⟨tb_t 388 (by decide +kernel) rfl, tb_t 6 (by decide +kernel) rfl, by decide, by decide, by decide +kernel⟩
theorem st_mo_inverse : Cond.static (mY m_mo_inverse) ∈ TB := tb_t 387 (by decide +kernel) rfl
theorem ck_mo_isIn : zCk m_mo_isIn 1 := ⟨tb_t 401 (by decide +kernel) rfl, tb_t 6 (by decide +kernel) rfl, by decide, by decide, by decide +kernel⟩
theorem im_mo_isIn : Cond.instanceMethod (mY m_mo_isIn) ∈ TB := tb_t 400 (by decide +kernel) rfl
theorem sl_mo_isIn : Cond.selects "RecurrentSeriesModel" (mY m_mo_isIn) (mY m_mo_isIn) ∈ TB := tb_s 15 (by decide +kernel) rfl
theorem ck_mo_expand : zCk m_mo_expand 3 := ⟨tb_t 409 (by decide +kernel) rfl, tb_t 6 (by decide +kernel) rfl, by decide, by decide, by decide +kernel⟩
theorem im_mo_expand : Cond.instanceMethod (mY m_mo_expand) ∈ TB := tb_t 408 (by decide +kernel) rfl
theorem sl_mo_expand : Cond.selects "RecurrentSeriesModel" (mY m_mo_expand) (mY m_mo_expand) ∈ TB := tb_s 17 (by decide +kernel) rfl
theorem ck_mo_ask : zCk m_mo_ask 4 := ⟨tb_t 373 (by decide +kernel) rfl, tb_t 6 (by decide +kernel) rfl, by decide, by decide, by decide +kernel⟩
theorem im_mo_ask : Cond.instanceMethod (mY m_mo_ask) ∈ TB := tb_t 372 (by decide +kernel) rfl
theorem sl_mo_ask : Cond.selects "RecurrentSeriesModel" (mY m_mo_ask) (mY m_mo_ask) ∈ TB := tb_s 10 (by decide +kernel) rfl
theorem ck_mo_swapRows : zCk m_mo_swapRows 3 := ⟨tb_t 381 (by decide +kernel) rfl, tb_t 6 (by decide +kernel) rfl, by decide, by decide, by decide +kernel⟩
theorem im_mo_swapRows : Cond.instanceMethod (mY m_mo_swapRows) ∈ TB := tb_t 380 (by decide +kernel) rfl
theorem sl_mo_swapRows : Cond.selects "RecurrentSeriesModel" (mY m_mo_swapRows) (mY m_mo_swapRows) ∈ TB := tb_s 12 (by decide +kernel) rfl
theorem ck_mo_clean : zCk m_mo_clean 4 := ⟨tb_t 385 (by decide +kernel) rfl, tb_t 6 (by decide +kernel) rfl, by decide, by decide, by decide +kernel⟩
theorem im_mo_clean : Cond.instanceMethod (mY m_mo_clean) ∈ TB := tb_t 384 (by decide +kernel) rfl
theorem sl_mo_clean : Cond.selects "RecurrentSeriesModel" (mY m_mo_clean) (mY m_mo_clean) ∈ TB := tb_s 13 (by decide +kernel) rfl
theorem ck_mo_solve : zCk m_mo_solve 2 := ⟨tb_t 377 (by decide +kernel) rfl, tb_t 6 (by decide +kernel) rfl, by decide, by decide, by decide +kernel⟩
theorem im_mo_solve : Cond.instanceMethod (mY m_mo_solve) ∈ TB := tb_t 376 (by decide +kernel) rfl
theorem sl_mo_solve : Cond.selects "RecurrentSeriesModel" (mY m_mo_solve) (mY m_mo_solve) ∈ TB := tb_s 11 (by decide +kernel) rfl
theorem ck_mo_settle : zCk m_mo_settle 1 := ⟨tb_t 369 (by decide +kernel) rfl, tb_t 6 (by decide +kernel) rfl, by decide, by decide, by decide +kernel⟩
theorem im_mo_settle : Cond.instanceMethod (mY m_mo_settle) ∈ TB := tb_t 368 (by decide +kernel) rfl
theorem sl_mo_settle : Cond.selects "RecurrentSeriesModel" (mY m_mo_settle) (mY m_mo_settle) ∈ TB := tb_s 9 (by decide +kernel) rfl
theorem ck_mo_give : zCk m_mo_give 1 := ⟨tb_t 353 (by decide +kernel) rfl, tb_t 6 (by decide +kernel) rfl, by decide, by decide, by decide +kernel⟩
theorem im_mo_give : Cond.instanceMethod (mY m_mo_give) ∈ TB := tb_t 351 (by decide +kernel) rfl
theorem sl_mo_give : Cond.selects "RecurrentSeriesModel" (mY m_mo_give) (mY m_mo_give) ∈ TB := tb_t 352 (by decide +kernel) rfl
theorem ck_mo_clear : zCk m_mo_clear 0 := ⟨tb_t 361 (by decide +kernel) rfl, tb_t 6 (by decide +kernel) rfl, by decide, by decide, by decide +kernel⟩
theorem im_mo_clear : Cond.instanceMethod (mY m_mo_clear) ∈ TB := tb_t 359 (by decide +kernel) rfl
theorem sl_mo_clear : Cond.selects "RecurrentSeriesModel" (mY m_mo_clear) (mY m_mo_clear) ∈ TB := tb_t 360 (by decide +kernel) rfl
theorem ck_mo_leaf : zCk m_mo_leaf 1 := ⟨tb_t 365 (by decide +kernel) rfl, tb_t 6 (by decide +kernel) rfl, by decide, by decide, by decide +kernel⟩
theorem im_mo_leaf : Cond.instanceMethod (mY m_mo_leaf) ∈ TB := tb_t 363 (by decide +kernel) rfl
theorem sl_mo_leaf : Cond.selects "RecurrentSeriesModel" (mY m_mo_leaf) (mY m_mo_leaf) ∈ TB := tb_t 364 (by decide +kernel) rfl
theorem ck_mo_refusal : zCk m_mo_refusal 2 := ⟨tb_t 405 (by decide +kernel) rfl, tb_t 6 (by decide +kernel) rfl, by decide, by decide, by decide +kernel⟩
theorem im_mo_refusal : Cond.instanceMethod (mY m_mo_refusal) ∈ TB := tb_t 404 (by decide +kernel) rfl
theorem sl_mo_refusal : Cond.selects "RecurrentSeriesModel" (mY m_mo_refusal) (mY m_mo_refusal) ∈ TB := tb_s 16 (by decide +kernel) rfl
theorem ck_mo_orderOf : zCk m_mo_orderOf 1 := ⟨tb_t 397 (by decide +kernel) rfl, tb_t 6 (by decide +kernel) rfl, by decide, by decide, by decide +kernel⟩
theorem im_mo_orderOf : Cond.instanceMethod (mY m_mo_orderOf) ∈ TB := tb_t 396 (by decide +kernel) rfl
theorem sl_mo_orderOf : Cond.selects "RecurrentSeriesModel" (mY m_mo_orderOf) (mY m_mo_orderOf) ∈ TB := tb_s 14 (by decide +kernel) rfl
theorem ck_mo_combine : zCk m_mo_combine 4 := ⟨tb_t 393 (by decide +kernel) rfl, tb_t 6 (by decide +kernel) rfl, by decide, by decide, by decide +kernel⟩
theorem im_mo_combine : Cond.instanceMethod (mY m_mo_combine) ∈ TB := tb_t 391 (by decide +kernel) rfl
theorem sl_mo_combine : Cond.selects "RecurrentSeriesModel" (mY m_mo_combine) (mY m_mo_combine) ∈ TB := tb_t 392 (by decide +kernel) rfl
theorem ck_mo_product : zCk m_mo_product 2 := ⟨tb_t 413 (by decide +kernel) rfl, tb_t 6 (by decide +kernel) rfl, by decide, by decide, by decide +kernel⟩
theorem im_mo_product : Cond.instanceMethod (mY m_mo_product) ∈ TB := tb_t 411 (by decide +kernel) rfl
theorem sl_mo_product : Cond.selects "RecurrentSeriesModel" (mY m_mo_product) (mY m_mo_product) ∈ TB := tb_t 412 (by decide +kernel) rfl
theorem ck_mo_pairwise : zCk m_mo_pairwise 2 := ⟨tb_t 417 (by decide +kernel) rfl, tb_t 6 (by decide +kernel) rfl, by decide, by decide, by decide +kernel⟩
theorem im_mo_pairwise : Cond.instanceMethod (mY m_mo_pairwise) ∈ TB := tb_t 415 (by decide +kernel) rfl
theorem sl_mo_pairwise : Cond.selects "RecurrentSeriesModel" (mY m_mo_pairwise) (mY m_mo_pairwise) ∈ TB := tb_t 416 (by decide +kernel) rfl
theorem ck_mo_derivative : zCk m_mo_derivative 1 := ⟨tb_t 421 (by decide +kernel) rfl, tb_t 6 (by decide +kernel) rfl, by decide, by decide, by decide +kernel⟩
theorem im_mo_derivative : Cond.instanceMethod (mY m_mo_derivative) ∈ TB := tb_t 419 (by decide +kernel) rfl
theorem sl_mo_derivative : Cond.selects "RecurrentSeriesModel" (mY m_mo_derivative) (mY m_mo_derivative) ∈ TB := tb_t 420 (by decide +kernel) rfl
theorem ck_mo_tail : zCk m_mo_tail 1 := ⟨tb_t 425 (by decide +kernel) rfl, tb_t 6 (by decide +kernel) rfl, by decide, by decide, by decide +kernel⟩
theorem im_mo_tail : Cond.instanceMethod (mY m_mo_tail) ∈ TB := tb_t 423 (by decide +kernel) rfl
theorem sl_mo_tail : Cond.selects "RecurrentSeriesModel" (mY m_mo_tail) (mY m_mo_tail) ∈ TB := tb_t 424 (by decide +kernel) rfl
theorem ck_mo_delay : zCk m_mo_delay 1 := ⟨tb_t 433 (by decide +kernel) rfl, tb_t 6 (by decide +kernel) rfl, by decide, by decide, by decide +kernel⟩
theorem im_mo_delay : Cond.instanceMethod (mY m_mo_delay) ∈ TB := tb_t 431 (by decide +kernel) rfl
theorem sl_mo_delay : Cond.selects "RecurrentSeriesModel" (mY m_mo_delay) (mY m_mo_delay) ∈ TB := tb_t 432 (by decide +kernel) rfl
theorem ck_mo_sums : zCk m_mo_sums 1 := ⟨tb_t 437 (by decide +kernel) rfl, tb_t 6 (by decide +kernel) rfl, by decide, by decide, by decide +kernel⟩
theorem im_mo_sums : Cond.instanceMethod (mY m_mo_sums) ∈ TB := tb_t 435 (by decide +kernel) rfl
theorem sl_mo_sums : Cond.selects "RecurrentSeriesModel" (mY m_mo_sums) (mY m_mo_sums) ∈ TB := tb_t 436 (by decide +kernel) rfl
theorem ck_mo_section : zCk m_mo_section 3 := ⟨tb_t 429 (by decide +kernel) rfl, tb_t 6 (by decide +kernel) rfl, by decide, by decide, by decide +kernel⟩
theorem im_mo_section : Cond.instanceMethod (mY m_mo_section) ∈ TB := tb_t 427 (by decide +kernel) rfl
theorem sl_mo_section : Cond.selects "RecurrentSeriesModel" (mY m_mo_section) (mY m_mo_section) ∈ TB := tb_t 428 (by decide +kernel) rfl
theorem ck_mo_spread : zCk m_mo_spread 2 := ⟨tb_t 442 (by decide +kernel) rfl, tb_t 6 (by decide +kernel) rfl, by decide, by decide, by decide +kernel⟩
theorem im_mo_spread : Cond.instanceMethod (mY m_mo_spread) ∈ TB := tb_t 440 (by decide +kernel) rfl
theorem sl_mo_spread : Cond.selects "RecurrentSeriesModel" (mY m_mo_spread) (mY m_mo_spread) ∈ TB := tb_t 441 (by decide +kernel) rfl
theorem ck_mo_forget : zCk m_mo_forget 0 := ⟨tb_t 446 (by decide +kernel) rfl, tb_t 6 (by decide +kernel) rfl, by decide, by decide, by decide +kernel⟩
theorem im_mo_forget : Cond.instanceMethod (mY m_mo_forget) ∈ TB := tb_t 444 (by decide +kernel) rfl
theorem sl_mo_forget : Cond.selects "RecurrentSeriesModel" (mY m_mo_forget) (mY m_mo_forget) ∈ TB := tb_t 445 (by decide +kernel) rfl
theorem ck_mo_count : zCk m_mo_count 0 := ⟨tb_t 450 (by decide +kernel) rfl, tb_t 6 (by decide +kernel) rfl, by decide, by decide, by decide +kernel⟩
theorem im_mo_count : Cond.instanceMethod (mY m_mo_count) ∈ TB := tb_t 448 (by decide +kernel) rfl
theorem sl_mo_count : Cond.selects "RecurrentSeriesModel" (mY m_mo_count) (mY m_mo_count) ∈ TB := tb_t 449 (by decide +kernel) rfl
theorem ck_mo_order : zCk m_mo_order 1 := ⟨tb_t 454 (by decide +kernel) rfl, tb_t 6 (by decide +kernel) rfl, by decide, by decide, by decide +kernel⟩
theorem im_mo_order : Cond.instanceMethod (mY m_mo_order) ∈ TB := tb_t 452 (by decide +kernel) rfl
theorem sl_mo_order : Cond.selects "RecurrentSeriesModel" (mY m_mo_order) (mY m_mo_order) ∈ TB := tb_t 453 (by decide +kernel) rfl
theorem ck_mo_coefficient : zCk m_mo_coefficient 2 := ⟨tb_t 458 (by decide +kernel) rfl, tb_t 6 (by decide +kernel) rfl, by decide, by decide, by decide +kernel⟩
theorem im_mo_coefficient : Cond.instanceMethod (mY m_mo_coefficient) ∈ TB := tb_t 456 (by decide +kernel) rfl
theorem sl_mo_coefficient : Cond.selects "RecurrentSeriesModel" (mY m_mo_coefficient) (mY m_mo_coefficient) ∈ TB := tb_t 457 (by decide +kernel) rfl
theorem ck_mo_makeStep : zCk m_mo_makeStep 2 := ⟨tb_t 466 (by decide +kernel) rfl, tb_t 6 (by decide +kernel) rfl, by decide, by decide, by decide +kernel⟩
theorem im_mo_makeStep : Cond.instanceMethod (mY m_mo_makeStep) ∈ TB := tb_t 465 (by decide +kernel) rfl
theorem sl_mo_makeStep : Cond.selects "RecurrentSeriesModel" (mY m_mo_makeStep) (mY m_mo_makeStep) ∈ TB := tb_s 18 (by decide +kernel) rfl
theorem ck_mo_applyStep : zCk m_mo_applyStep 1 := ⟨tb_t 470 (by decide +kernel) rfl, tb_t 6 (by decide +kernel) rfl, by decide, by decide, by decide +kernel⟩
theorem im_mo_applyStep : Cond.instanceMethod (mY m_mo_applyStep) ∈ TB := tb_t 469 (by decide +kernel) rfl
theorem sl_mo_applyStep : Cond.selects "RecurrentSeriesModel" (mY m_mo_applyStep) (mY m_mo_applyStep) ∈ TB := tb_s 19 (by decide +kernel) rfl
theorem ck_mo_squareStep : zCk m_mo_squareStep 1 := ⟨tb_t 474 (by decide +kernel) rfl, tb_t 6 (by decide +kernel) rfl, by decide, by decide, by decide +kernel⟩
theorem im_mo_squareStep : Cond.instanceMethod (mY m_mo_squareStep) ∈ TB := tb_t 473 (by decide +kernel) rfl
theorem sl_mo_squareStep : Cond.selects "RecurrentSeriesModel" (mY m_mo_squareStep) (mY m_mo_squareStep) ∈ TB := tb_s 20 (by decide +kernel) rfl
theorem ck_mo_term : zCk m_mo_term 2 := ⟨tb_t 462 (by decide +kernel) rfl, tb_t 6 (by decide +kernel) rfl, by decide, by decide, by decide +kernel⟩
theorem im_mo_term : Cond.instanceMethod (mY m_mo_term) ∈ TB := tb_t 460 (by decide +kernel) rfl
theorem sl_mo_term : Cond.selects "RecurrentSeriesModel" (mY m_mo_term) (mY m_mo_term) ∈ TB := tb_t 461 (by decide +kernel) rfl
theorem ck_mo_differ : zCk m_mo_differ 2 := ⟨tb_t 478 (by decide +kernel) rfl, tb_t 6 (by decide +kernel) rfl, by decide, by decide, by decide +kernel⟩
theorem im_mo_differ : Cond.instanceMethod (mY m_mo_differ) ∈ TB := tb_t 476 (by decide +kernel) rfl
theorem sl_mo_differ : Cond.selects "RecurrentSeriesModel" (mY m_mo_differ) (mY m_mo_differ) ∈ TB := tb_t 477 (by decide +kernel) rfl
theorem ck_mo_obeys : zCk m_mo_obeys 1 := ⟨tb_t 482 (by decide +kernel) rfl, tb_t 6 (by decide +kernel) rfl, by decide, by decide, by decide +kernel⟩
theorem im_mo_obeys : Cond.instanceMethod (mY m_mo_obeys) ∈ TB := tb_t 480 (by decide +kernel) rfl
theorem sl_mo_obeys : Cond.selects "RecurrentSeriesModel" (mY m_mo_obeys) (mY m_mo_obeys) ∈ TB := tb_t 481 (by decide +kernel) rfl
theorem ck_mo_shared : zCk m_mo_shared 2 := ⟨tb_t 486 (by decide +kernel) rfl, tb_t 6 (by decide +kernel) rfl, by decide, by decide, by decide +kernel⟩
theorem im_mo_shared : Cond.instanceMethod (mY m_mo_shared) ∈ TB := tb_t 484 (by decide +kernel) rfl
theorem sl_mo_shared : Cond.selects "RecurrentSeriesModel" (mY m_mo_shared) (mY m_mo_shared) ∈ TB := tb_t 485 (by decide +kernel) rfl
theorem ck_dv_init : zCk m_dv_init 0 := ⟨tb_t 62 (by decide +kernel) rfl, tb_t 4 (by decide +kernel) rfl, by decide, by decide, by decide +kernel⟩
theorem im_dv_init : Cond.instanceMethod (mY m_dv_init) ∈ TB := tb_t 61 (by decide +kernel) rfl
theorem ck_dv_commonDegree : zCk m_dv_commonDegree 2 := ⟨tb_t 293 (by decide +kernel) rfl, tb_t 4 (by decide +kernel) rfl, by decide, by decide, by decide +kernel⟩
theorem im_dv_commonDegree : Cond.instanceMethod (mY m_dv_commonDegree) ∈ TB := tb_t 291 (by decide +kernel) rfl
theorem sl_dv_commonDegree : Cond.selects "RecurrentSeries$Divider" (mY m_dv_commonDegree) (mY m_dv_commonDegree) ∈ TB := tb_t 292 (by decide +kernel) rfl
theorem ck_dv_load : zCk m_dv_load 2 := ⟨tb_t 296 (by decide +kernel) rfl, tb_t 4 (by decide +kernel) rfl, by decide, by decide, by decide +kernel⟩
theorem st_dv_load : Cond.static (mY m_dv_load) ∈ TB := tb_t 295 (by decide +kernel) rfl
theorem ck_dv_reduce : zCk m_dv_reduce 4 := ⟨tb_t 300 (by decide +kernel) rfl, tb_t 4 (by decide +kernel) rfl, by decide, by decide, by decide +kernel⟩
theorem st_dv_reduce : Cond.static (mY m_dv_reduce) ∈ TB := tb_t 299 (by decide +kernel) rfl
theorem ck_fi_init : zCk m_fi_init 0 := ⟨tb_t 23 (by decide +kernel) rfl, tb_t 2 (by decide +kernel) rfl, by decide, by decide, by decide +kernel⟩
theorem im_fi_init : Cond.instanceMethod (mY m_fi_init) ∈ TB := tb_t 22 (by decide +kernel) rfl
theorem ck_fi_find : zCk m_fi_find 3 := ⟨tb_t 161 (by decide +kernel) rfl, tb_t 2 (by decide +kernel) rfl, by decide, by decide, by decide +kernel⟩
theorem im_fi_find : Cond.instanceMethod (mY m_fi_find) ∈ TB := tb_t 159 (by decide +kernel) rfl
theorem sl_fi_find : Cond.selects "RecurrentSeries$Finder" (mY m_fi_find) (mY m_fi_find) ∈ TB := tb_t 160 (by decide +kernel) rfl
theorem ck_fi_mend : zCk m_fi_mend 3 := ⟨tb_t 180 (by decide +kernel) rfl, tb_t 2 (by decide +kernel) rfl, by decide, by decide, by decide +kernel⟩
theorem im_fi_mend : Cond.instanceMethod (mY m_fi_mend) ∈ TB := tb_t 179 (by decide +kernel) rfl
theorem sl_fi_mend : Cond.selects "RecurrentSeries$Finder" (mY m_fi_mend) (mY m_fi_mend) ∈ TB := tb_s 3 (by decide +kernel) rfl
theorem ck_fi_keepUnmended : zCk m_fi_keepUnmended 0 := ⟨tb_t 187 (by decide +kernel) rfl, tb_t 2 (by decide +kernel) rfl, by decide, by decide, by decide +kernel⟩
theorem im_fi_keepUnmended : Cond.instanceMethod (mY m_fi_keepUnmended) ∈ TB := tb_t 186 (by decide +kernel) rfl
theorem sl_fi_keepUnmended : Cond.selects "RecurrentSeries$Finder" (mY m_fi_keepUnmended) (mY m_fi_keepUnmended) ∈ TB := tb_s 4 (by decide +kernel) rfl
theorem ck_fi_erase : zCk m_fi_erase 1 := ⟨tb_t 164 (by decide +kernel) rfl, tb_t 2 (by decide +kernel) rfl, by decide, by decide, by decide +kernel⟩
theorem st_fi_erase : Cond.static (mY m_fi_erase) ∈ TB := tb_t 163 (by decide +kernel) rfl
theorem ck_nu_of : zCk m_nu_of 1 := ⟨tb_t 130 (by decide +kernel) rfl, tb_t 7 (by decide +kernel) rfl, by decide, by decide, by decide +kernel⟩
theorem st_nu_of : Cond.static (mY m_nu_of) ∈ TB := tb_t 129 (by decide +kernel) rfl
theorem ck_nu_plus : zCk m_nu_plus 2 := ⟨tb_t 183 (by decide +kernel) rfl, tb_t 7 (by decide +kernel) rfl, by decide, by decide, by decide +kernel⟩
theorem st_nu_plus : Cond.static (mY m_nu_plus) ∈ TB := tb_t 182 (by decide +kernel) rfl
theorem ck_nu_minus : zCk m_nu_minus 2 := ⟨tb_t 168 (by decide +kernel) rfl, tb_t 7 (by decide +kernel) rfl, by decide, by decide, by decide +kernel⟩
theorem st_nu_minus : Cond.static (mY m_nu_minus) ∈ TB := tb_t 167 (by decide +kernel) rfl
theorem ck_nu_times : zCk m_nu_times 2 := ⟨tb_t 175 (by decide +kernel) rfl, tb_t 7 (by decide +kernel) rfl, by decide, by decide, by decide +kernel⟩
theorem st_nu_times : Cond.static (mY m_nu_times) ∈ TB := tb_t 174 (by decide +kernel) rfl
theorem ck_nu_plusTimes : zCk m_nu_plusTimes 3 := ⟨tb_t 153 (by decide +kernel) rfl, tb_t 7 (by decide +kernel) rfl, by decide, by decide, by decide +kernel⟩
theorem st_nu_plusTimes : Cond.static (mY m_nu_plusTimes) ∈ TB := tb_t 152 (by decide +kernel) rfl
theorem ck_nu_inverse : zCk m_nu_inverse 1 := ⟨tb_t 171 (by decide +kernel) rfl, tb_t 7 (by decide +kernel) rfl, by decide, by decide, by decide +kernel⟩
theorem st_nu_inverse : Cond.static (mY m_nu_inverse) ∈ TB := tb_t 170 (by decide +kernel) rfl
theorem ck_nu_foretold : zCk m_nu_foretold 4 := ⟨tb_t 150 (by decide +kernel) rfl, tb_t 7 (by decide +kernel) rfl, by decide, by decide, by decide +kernel⟩
theorem st_nu_foretold : Cond.static (mY m_nu_foretold) ∈ TB := tb_t 149 (by decide +kernel) rfl
theorem ck_sk_init : zCk m_sk_init 0 := ⟨tb_t 40 (by decide +kernel) rfl, tb_t 3 (by decide +kernel) rfl, by decide, by decide, by decide +kernel⟩
theorem im_sk_init : Cond.instanceMethod (mY m_sk_init) ∈ TB := tb_t 39 (by decide +kernel) rfl
theorem ck_sk_seek : zCk m_sk_seek 2 := ⟨tb_t 259 (by decide +kernel) rfl, tb_t 3 (by decide +kernel) rfl, by decide, by decide, by decide +kernel⟩
theorem im_sk_seek : Cond.instanceMethod (mY m_sk_seek) ∈ TB := tb_t 257 (by decide +kernel) rfl
theorem sl_sk_seek : Cond.selects "RecurrentSeries$Seeker" (mY m_sk_seek) (mY m_sk_seek) ∈ TB := tb_t 258 (by decide +kernel) rfl
theorem ck_sk_load : zCk m_sk_load 1 := ⟨tb_t 263 (by decide +kernel) rfl, tb_t 3 (by decide +kernel) rfl, by decide, by decide, by decide +kernel⟩
theorem im_sk_load : Cond.instanceMethod (mY m_sk_load) ∈ TB := tb_t 262 (by decide +kernel) rfl
theorem sl_sk_load : Cond.selects "RecurrentSeries$Seeker" (mY m_sk_load) (mY m_sk_load) ∈ TB := tb_s 6 (by decide +kernel) rfl
theorem ck_sk_halve : zCk m_sk_halve 2 := ⟨tb_t 269 (by decide +kernel) rfl, tb_t 3 (by decide +kernel) rfl, by decide, by decide, by decide +kernel⟩
theorem im_sk_halve : Cond.instanceMethod (mY m_sk_halve) ∈ TB := tb_t 268 (by decide +kernel) rfl
theorem sl_sk_halve : Cond.selects "RecurrentSeries$Seeker" (mY m_sk_halve) (mY m_sk_halve) ∈ TB := tb_s 7 (by decide +kernel) rfl
theorem ck_sk_timesMirrored : zCk m_sk_timesMirrored 3 := ⟨tb_t 273 (by decide +kernel) rfl, tb_t 3 (by decide +kernel) rfl, by decide, by decide, by decide +kernel⟩
theorem im_sk_timesMirrored : Cond.instanceMethod (mY m_sk_timesMirrored) ∈ TB := tb_t 272 (by decide +kernel) rfl
theorem sl_sk_timesMirrored : Cond.selects "RecurrentSeries$Seeker" (mY m_sk_timesMirrored) (mY m_sk_timesMirrored) ∈ TB := tb_s 8 (by decide +kernel) rfl
theorem ck_se_init : zCk m_se_init 0 := ⟨tb_t 74 (by decide +kernel) rfl, tb_t 5 (by decide +kernel) rfl, by decide, by decide, by decide +kernel⟩
theorem im_se_init : Cond.instanceMethod (mY m_se_init) ∈ TB := tb_t 73 (by decide +kernel) rfl
theorem ck_se_writeTerms : zCk m_se_writeTerms 2 := ⟨tb_t 191 (by decide +kernel) rfl, tb_t 5 (by decide +kernel) rfl, by decide, by decide, by decide +kernel⟩
theorem im_se_writeTerms : Cond.instanceMethod (mY m_se_writeTerms) ∈ TB := tb_t 189 (by decide +kernel) rfl
theorem sl_se_writeTerms : Cond.selects "RecurrentSeries$Series" (mY m_se_writeTerms) (mY m_se_writeTerms) ∈ TB := tb_t 190 (by decide +kernel) rfl
theorem ck_ma_max : zCk m_ma_max 2 := ⟨tb_t 276 (by decide +kernel) rfl, tb_t 8 (by decide +kernel) rfl, by decide, by decide, by decide +kernel⟩
theorem st_ma_max : Cond.static (mY m_ma_max) ∈ TB := tb_t 275 (by decide +kernel) rfl
theorem lk_rs_3 : Cond.methodLink "RecurrentSeries" 3 Lib.objectInit ∈ TB := tb_t 14 (by decide +kernel) rfl
theorem lk_rs_27 : zLk "RecurrentSeries" 27 (mY m_fi_init) := Or.inr ⟨"RecurrentSeries", nb_t 21 (by decide +kernel) rfl⟩
theorem lk_rs_34 : zLk "RecurrentSeries" 34 (mY m_sk_init) := Or.inr ⟨"RecurrentSeries", nb_t 38 (by decide +kernel) rfl⟩
theorem lk_rs_41 : zLk "RecurrentSeries" 41 (mY m_dv_init) := Or.inr ⟨"RecurrentSeries", nb_t 60 (by decide +kernel) rfl⟩
theorem lk_rs_46 : zLk "RecurrentSeries" 46 (mY m_se_init) := Or.inr ⟨"RecurrentSeries", nb_t 72 (by decide +kernel) rfl⟩
theorem lk_rs_54 : zLk "RecurrentSeries" 54 (mY m_nu_of) := Or.inl (tb_t 128 (by decide +kernel) rfl)
theorem lk_rs_60 : zLk "RecurrentSeries" 60 (mY m_rs_numberFor) := Or.inl (tb_t 140 (by decide +kernel) rfl)
theorem lk_rs_64 : zLk "RecurrentSeries" 64 (mY m_rs_othersFit) := Or.inl (tb_t 144 (by decide +kernel) rfl)
theorem lk_rs_68 : zLk "RecurrentSeries" 68 (mY m_nu_foretold) := Or.inl (tb_t 148 (by decide +kernel) rfl)
theorem lk_rs_72 : zLk "RecurrentSeries" 72 (mY m_rs_enlist) := Or.inl (tb_t 154 (by decide +kernel) rfl)
theorem lk_rs_75 : zLk "RecurrentSeries" 75 (mY m_rs_isListed) := Or.inl (tb_t 197 (by decide +kernel) rfl)
theorem lk_rs_84 : zLk "RecurrentSeries" 84 (mY m_nu_times) := Or.inl (tb_t 201 (by decide +kernel) rfl)
theorem lk_rs_88 : zLk "RecurrentSeries" 88 (mY m_nu_plusTimes) := Or.inl (tb_t 202 (by decide +kernel) rfl)
theorem lk_rs_92 : zLk "RecurrentSeries" 92 (mY m_nu_plus) := Or.inl (tb_t 227 (by decide +kernel) rfl)
theorem lk_rs_95 : zLk "RecurrentSeries" 95 (mY m_se_writeTerms) := Or.inl (tb_t 188 (by decide +kernel) rfl)
theorem lk_rs_102 : zLk "RecurrentSeries" 102 (mY m_sk_seek) := Or.inl (tb_t 256 (by decide +kernel) rfl)
theorem lk_rs_106 : zLk "RecurrentSeries" 106 (mY m_dv_commonDegree) := Or.inl (tb_t 290 (by decide +kernel) rfl)
theorem lk_rs_110 : zLk "RecurrentSeries" 110 (mY m_fi_find) := Or.inl (tb_t 158 (by decide +kernel) rfl)
theorem lk_mo_1 : Cond.methodLink "RecurrentSeriesModel" 1 Lib.objectInit ∈ TB := tb_t 308 (by decide +kernel) rfl
theorem lk_mo_52 : zLk "RecurrentSeriesModel" 52 (mY m_mo_inverse) := Or.inl (tb_t 386 (by decide +kernel) rfl)
theorem lk_mo_56 : zLk "RecurrentSeriesModel" 56 (mY m_mo_swapRows) := Or.inl (tb_t 378 (by decide +kernel) rfl)
theorem lk_mo_60 : zLk "RecurrentSeriesModel" 60 (mY m_mo_clean) := Or.inl (tb_t 382 (by decide +kernel) rfl)
theorem lk_mo_64 : zLk "RecurrentSeriesModel" 64 (mY m_mo_ask) := Or.inl (tb_t 370 (by decide +kernel) rfl)
theorem lk_mo_67 : zLk "RecurrentSeriesModel" 67 (mY m_mo_solve) := Or.inl (tb_t 374 (by decide +kernel) rfl)
theorem lk_mo_74 : zLk "RecurrentSeriesModel" 74 (mY m_mo_number) := Or.inl (tb_t 354 (by decide +kernel) rfl)
theorem lk_mo_78 : zLk "RecurrentSeriesModel" 78 (mY m_mo_settle) := Or.inl (tb_t 366 (by decide +kernel) rfl)
theorem lk_mo_82 : zLk "RecurrentSeriesModel" 82 (mY m_mo_isIn) := Or.inl (tb_t 398 (by decide +kernel) rfl)
theorem lk_mo_86 : zLk "RecurrentSeriesModel" 86 (mY m_mo_orderOf) := Or.inl (tb_t 394 (by decide +kernel) rfl)
theorem lk_mo_89 : zLk "RecurrentSeriesModel" 89 (mY m_mo_refusal) := Or.inl (tb_t 402 (by decide +kernel) rfl)
theorem lk_mo_93 : zLk "RecurrentSeriesModel" 93 (mY m_mo_expand) := Or.inl (tb_t 406 (by decide +kernel) rfl)
theorem lk_mo_96 : zLk "RecurrentSeriesModel" 96 (mY m_mo_section) := Or.inl (tb_t 426 (by decide +kernel) rfl)
theorem lk_mo_100 : zLk "RecurrentSeriesModel" 100 (mY m_mo_makeStep) := Or.inl (tb_t 463 (by decide +kernel) rfl)
theorem lk_mo_104 : zLk "RecurrentSeriesModel" 104 (mY m_mo_applyStep) := Or.inl (tb_t 467 (by decide +kernel) rfl)
theorem lk_mo_108 : zLk "RecurrentSeriesModel" 108 (mY m_mo_squareStep) := Or.inl (tb_t 471 (by decide +kernel) rfl)
theorem lk_dv_3 : Cond.methodLink "RecurrentSeries$Divider" 3 Lib.objectInit ∈ TB := tb_t 63 (by decide +kernel) rfl
theorem lk_dv_18 : zLk "RecurrentSeries$Divider" 18 (mY m_dv_load) := Or.inl (tb_t 294 (by decide +kernel) rfl)
theorem lk_dv_28 : zLk "RecurrentSeries$Divider" 28 (mY m_dv_reduce) := Or.inl (tb_t 298 (by decide +kernel) rfl)
theorem lk_dv_35 : zLk "RecurrentSeries$Divider" 35 (mY m_nu_minus) := Or.inl (tb_t 297 (by decide +kernel) rfl)
theorem lk_dv_41 : zLk "RecurrentSeries$Divider" 41 (mY m_nu_inverse) := Or.inl (tb_t 301 (by decide +kernel) rfl)
theorem lk_dv_45 : zLk "RecurrentSeries$Divider" 45 (mY m_nu_times) := Or.inl (tb_t 302 (by decide +kernel) rfl)
theorem lk_fi_3 : Cond.methodLink "RecurrentSeries$Finder" 3 Lib.objectInit ∈ TB := tb_t 24 (by decide +kernel) rfl
theorem lk_fi_21 : zLk "RecurrentSeries$Finder" 21 (mY m_fi_erase) := Or.inl (tb_t 162 (by decide +kernel) rfl)
theorem lk_fi_25 : zLk "RecurrentSeries$Finder" 25 (mY m_nu_foretold) := Or.inl (tb_t 165 (by decide +kernel) rfl)
theorem lk_fi_31 : zLk "RecurrentSeries$Finder" 31 (mY m_nu_minus) := Or.inl (tb_t 166 (by decide +kernel) rfl)
theorem lk_fi_35 : zLk "RecurrentSeries$Finder" 35 (mY m_nu_inverse) := Or.inl (tb_t 169 (by decide +kernel) rfl)
theorem lk_fi_39 : zLk "RecurrentSeries$Finder" 39 (mY m_nu_times) := Or.inl (tb_t 176 (by decide +kernel) rfl)
theorem lk_fi_42 : zLk "RecurrentSeries$Finder" 42 (mY m_fi_mend) := Or.inl (tb_t 177 (by decide +kernel) rfl)
theorem lk_fi_46 : zLk "RecurrentSeries$Finder" 46 (mY m_fi_keepUnmended) := Or.inl (tb_t 184 (by decide +kernel) rfl)
theorem lk_fi_58 : zLk "RecurrentSeries$Finder" 58 (mY m_nu_plus) := Or.inl (tb_t 181 (by decide +kernel) rfl)
theorem lk_nu_13 : zLk "RecurrentSeries$Numbers" 13 (mY m_nu_times) := Or.inl (tb_t 173 (by decide +kernel) rfl)
theorem lk_nu_17 : zLk "RecurrentSeries$Numbers" 17 (mY m_nu_plusTimes) := Or.inl (tb_t 151 (by decide +kernel) rfl)
theorem lk_sk_3 : Cond.methodLink "RecurrentSeries$Seeker" 3 Lib.objectInit ∈ TB := tb_t 41 (by decide +kernel) rfl
theorem lk_sk_27 : zLk "RecurrentSeries$Seeker" 27 (mY m_sk_load) := Or.inl (tb_t 260 (by decide +kernel) rfl)
theorem lk_sk_37 : zLk "RecurrentSeries$Seeker" 37 (mY m_sk_halve) := Or.inl (tb_t 266 (by decide +kernel) rfl)
theorem lk_sk_44 : zLk "RecurrentSeries$Seeker" 44 (mY m_nu_minus) := Or.inl (tb_t 264 (by decide +kernel) rfl)
theorem lk_sk_53 : zLk "RecurrentSeries$Seeker" 53 (mY m_nu_foretold) := Or.inl (tb_t 265 (by decide +kernel) rfl)
theorem lk_sk_57 : zLk "RecurrentSeries$Seeker" 57 (mY m_sk_timesMirrored) := Or.inl (tb_t 270 (by decide +kernel) rfl)
theorem lk_sk_61 : zLk "RecurrentSeries$Seeker" 61 (mY m_ma_max) := Or.inl (tb_t 274 (by decide +kernel) rfl)
theorem lk_sk_67 : zLk "RecurrentSeries$Seeker" 67 (mY m_nu_plusTimes) := Or.inl (tb_t 277 (by decide +kernel) rfl)
theorem lk_se_3 : Cond.methodLink "RecurrentSeries$Series" 3 Lib.objectInit ∈ TB := tb_t 75 (by decide +kernel) rfl
theorem lk_se_22 : zLk "RecurrentSeries$Series" 22 (mY m_nu_foretold) := Or.inl (tb_t 192 (by decide +kernel) rfl)
theorem lk_la_9 : zLk "RecurrentSeriesLaw" 9 (mY m_rs_init) := Or.inl (tb_t 11 (by decide +kernel) rfl)
theorem lk_la_12 : zLk "RecurrentSeriesLaw" 12 (mY m_mo_init) := Or.inl (tb_t 305 (by decide +kernel) rfl)
theorem lk_la_13 : zLk "RecurrentSeriesLaw" 13 (mY m_rs_give) := Or.inl (tb_t 124 (by decide +kernel) rfl)
theorem lk_la_17 : zLk "RecurrentSeriesLaw" 17 (mY m_mo_give) := Or.inl (tb_t 350 (by decide +kernel) rfl)
theorem lk_la_18 : zLk "RecurrentSeriesLaw" 18 (mY m_rs_clear) := Or.inl (tb_t 132 (by decide +kernel) rfl)
theorem lk_la_22 : zLk "RecurrentSeriesLaw" 22 (mY m_mo_clear) := Or.inl (tb_t 358 (by decide +kernel) rfl)
theorem lk_la_23 : zLk "RecurrentSeriesLaw" 23 (mY m_rs_leaf) := Or.inl (tb_t 136 (by decide +kernel) rfl)
theorem lk_la_27 : zLk "RecurrentSeriesLaw" 27 (mY m_mo_leaf) := Or.inl (tb_t 362 (by decide +kernel) rfl)
theorem lk_la_28 : zLk "RecurrentSeriesLaw" 28 (mY m_rs_combine) := Or.inl (tb_t 193 (by decide +kernel) rfl)
theorem lk_la_32 : zLk "RecurrentSeriesLaw" 32 (mY m_mo_combine) := Or.inl (tb_t 390 (by decide +kernel) rfl)
theorem lk_la_33 : zLk "RecurrentSeriesLaw" 33 (mY m_rs_product) := Or.inl (tb_t 203 (by decide +kernel) rfl)
theorem lk_la_37 : zLk "RecurrentSeriesLaw" 37 (mY m_mo_product) := Or.inl (tb_t 410 (by decide +kernel) rfl)
theorem lk_la_38 : zLk "RecurrentSeriesLaw" 38 (mY m_rs_pairwise) := Or.inl (tb_t 207 (by decide +kernel) rfl)
theorem lk_la_41 : zLk "RecurrentSeriesLaw" 41 (mY m_mo_pairwise) := Or.inl (tb_t 414 (by decide +kernel) rfl)
theorem lk_la_42 : zLk "RecurrentSeriesLaw" 42 (mY m_rs_derivative) := Or.inl (tb_t 211 (by decide +kernel) rfl)
theorem lk_la_45 : zLk "RecurrentSeriesLaw" 45 (mY m_mo_derivative) := Or.inl (tb_t 418 (by decide +kernel) rfl)
theorem lk_la_46 : zLk "RecurrentSeriesLaw" 46 (mY m_rs_tail) := Or.inl (tb_t 215 (by decide +kernel) rfl)
theorem lk_la_49 : zLk "RecurrentSeriesLaw" 49 (mY m_mo_tail) := Or.inl (tb_t 422 (by decide +kernel) rfl)
theorem lk_la_50 : zLk "RecurrentSeriesLaw" 50 (mY m_rs_delay) := Or.inl (tb_t 219 (by decide +kernel) rfl)
theorem lk_la_53 : zLk "RecurrentSeriesLaw" 53 (mY m_mo_delay) := Or.inl (tb_t 430 (by decide +kernel) rfl)
theorem lk_la_54 : zLk "RecurrentSeriesLaw" 54 (mY m_rs_sums) := Or.inl (tb_t 223 (by decide +kernel) rfl)
theorem lk_la_57 : zLk "RecurrentSeriesLaw" 57 (mY m_mo_sums) := Or.inl (tb_t 434 (by decide +kernel) rfl)
theorem lk_la_58 : zLk "RecurrentSeriesLaw" 58 (mY m_rs_section) := Or.inl (tb_t 228 (by decide +kernel) rfl)
theorem lk_la_62 : zLk "RecurrentSeriesLaw" 62 (mY m_mo_section) := Or.inl (tb_t 438 (by decide +kernel) rfl)
theorem lk_la_63 : zLk "RecurrentSeriesLaw" 63 (mY m_rs_spread) := Or.inl (tb_t 232 (by decide +kernel) rfl)
theorem lk_la_66 : zLk "RecurrentSeriesLaw" 66 (mY m_mo_spread) := Or.inl (tb_t 439 (by decide +kernel) rfl)
theorem lk_la_67 : zLk "RecurrentSeriesLaw" 67 (mY m_rs_forget) := Or.inl (tb_t 236 (by decide +kernel) rfl)
theorem lk_la_71 : zLk "RecurrentSeriesLaw" 71 (mY m_mo_forget) := Or.inl (tb_t 443 (by decide +kernel) rfl)
theorem lk_la_72 : zLk "RecurrentSeriesLaw" 72 (mY m_rs_count) := Or.inl (tb_t 240 (by decide +kernel) rfl)
theorem lk_la_75 : zLk "RecurrentSeriesLaw" 75 (mY m_mo_count) := Or.inl (tb_t 447 (by decide +kernel) rfl)
theorem lk_la_76 : zLk "RecurrentSeriesLaw" 76 (mY m_rs_order) := Or.inl (tb_t 244 (by decide +kernel) rfl)
theorem lk_la_79 : zLk "RecurrentSeriesLaw" 79 (mY m_mo_order) := Or.inl (tb_t 451 (by decide +kernel) rfl)
theorem lk_la_80 : zLk "RecurrentSeriesLaw" 80 (mY m_rs_coefficient) := Or.inl (tb_t 248 (by decide +kernel) rfl)
theorem lk_la_83 : zLk "RecurrentSeriesLaw" 83 (mY m_mo_coefficient) := Or.inl (tb_t 455 (by decide +kernel) rfl)
theorem lk_la_86 : zLk "RecurrentSeriesLaw" 86 (mY m_rs_term) := Or.inl (tb_t 252 (by decide +kernel) rfl)
theorem lk_la_90 : zLk "RecurrentSeriesLaw" 90 (mY m_mo_term) := Or.inl (tb_t 459 (by decide +kernel) rfl)
theorem lk_la_91 : zLk "RecurrentSeriesLaw" 91 (mY m_rs_differ) := Or.inl (tb_t 278 (by decide +kernel) rfl)
theorem lk_la_94 : zLk "RecurrentSeriesLaw" 94 (mY m_mo_differ) := Or.inl (tb_t 475 (by decide +kernel) rfl)
theorem lk_la_95 : zLk "RecurrentSeriesLaw" 95 (mY m_rs_obeys) := Or.inl (tb_t 282 (by decide +kernel) rfl)
theorem lk_la_98 : zLk "RecurrentSeriesLaw" 98 (mY m_mo_obeys) := Or.inl (tb_t 479 (by decide +kernel) rfl)
theorem lk_la_99 : zLk "RecurrentSeriesLaw" 99 (mY m_rs_shared) := Or.inl (tb_t 286 (by decide +kernel) rfl)
theorem lk_la_102 : zLk "RecurrentSeriesLaw" 102 (mY m_mo_shared) := Or.inl (tb_t 483 (by decide +kernel) rfl)
theorem tb_obj1 : Cond.instanceMethod Lib.objectInit ∈ TB := tb_t 15 (by decide +kernel) rfl
theorem tb_obj2 : Cond.code Lib.objectInit ⟨#[0xb1]⟩ 1 none ∈ TB := tb_t 16 (by decide +kernel) rfl
theorem tb_arrL : Cond.arrayClass .long ∈ TB := tb_t 35 (by decide +kernel) rfl
theorem tb_arrI : Cond.arrayClass .int ∈ TB := tb_t 349 (by decide +kernel) rfl
theorem nb_over : Cond.arrayOver (.object "RecurrentSeries$Series") ∈ NB := nb_t 18 (by decide +kernel) rfl
theorem cl_nu_9 : Cond.constantLong "RecurrentSeries$Numbers" 9 (lN 2147483647) ∈ TB := tb_t 131 (by decide +kernel) rfl
theorem cl_nu_11 : Cond.constantLong "RecurrentSeries$Numbers" 11 (lN 2147483645) ∈ TB := tb_t 172 (by decide +kernel) rfl
theorem cl_mo_44 : Cond.constantLong "RecurrentSeriesModel" 44 (lN 2147483647) ∈ TB := tb_t 357 (by decide +kernel) rfl
theorem cl_mo_46 : Cond.constantLong "RecurrentSeriesModel" 46 (lN 2147483645) ∈ TB := tb_t 389 (by decide +kernel) rfl
theorem cl_la_84 : Cond.constantLong "RecurrentSeriesLaw" 84 (lN 4294967295) ∈ TB := tb_t 487 (by decide +kernel) rfl
theorem cn_rs_9 : Cond.classLink "RecurrentSeries" 9 "RecurrentSeries$Series" ∈ TB := tb_t 17 (by decide +kernel) rfl
theorem cn_rs_25 : Cond.classLink "RecurrentSeries" 25 "RecurrentSeries$Finder" ∈ TB := tb_t 19 (by decide +kernel) rfl
theorem cn_rs_32 : Cond.classLink "RecurrentSeries" 32 "RecurrentSeries$Seeker" ∈ TB := tb_t 36 (by decide +kernel) rfl
theorem cn_rs_39 : Cond.classLink "RecurrentSeries" 39 "RecurrentSeries$Divider" ∈ TB := tb_t 58 (by decide +kernel) rfl
theorem cn_la_7 : Cond.classLink "RecurrentSeriesLaw" 7 "RecurrentSeries" ∈ TB := tb_t 9 (by decide +kernel) rfl
theorem cn_la_10 : Cond.classLink "RecurrentSeriesLaw" 10 "RecurrentSeriesModel" ∈ TB := tb_t 303 (by decide +kernel) rfl
theorem nw_rs {own : String} {idx : Nat} (h : Cond.classLink own idx "RecurrentSeries" ∈ TB) : zNw own idx 0 9 [.null, .null, .null, .null, .null, .null, .null, .int 0, .int 0] := ⟨_, zT_rs, zY_rs, rfl, uw_rs, zY_rs_ok, h, tb_t 10 (by decide +kernel) rfl, tb_t 1 (by decide +kernel) rfl, fun b j hj => by
  match j, hj with
  | 0, _ => rfl
  | 1, _ => rfl
  | 2, _ => rfl
  | 3, _ => rfl
  | 4, _ => rfl
  | 5, _ => rfl
  | 6, _ => rfl
  | 7, _ => rfl
  | 8, _ => rfl
  | j + 9, hj => omega⟩
theorem nw_se {own : String} {idx : Nat} (h : Cond.classLink own idx "RecurrentSeries$Series" ∈ TB) : zNw own idx 1 3 [.int 0, .null, .null] := ⟨_, zT_se, zY_se, rfl, uw_se, zY_se_ok, h, tb_t 71 (by decide +kernel) rfl, tb_t 5 (by decide +kernel) rfl, fun b j hj => by
  match j, hj with
  | 0, _ => rfl
  | 1, _ => rfl
  | 2, _ => rfl
  | j + 3, hj => omega⟩
theorem nw_fi {own : String} {idx : Nat} (h : Cond.classLink own idx "RecurrentSeries$Finder" ∈ TB) : zNw own idx 2 3 [.null, .null, .null] := ⟨_, zT_fi, zY_fi, rfl, uw_fi, zY_fi_ok, h, tb_t 20 (by decide +kernel) rfl, tb_t 2 (by decide +kernel) rfl, fun b j hj => by
  match j, hj with
  | 0, _ => rfl
  | 1, _ => rfl
  | 2, _ => rfl
  | j + 3, hj => omega⟩
theorem nw_sk {own : String} {idx : Nat} (h : Cond.classLink own idx "RecurrentSeries$Seeker" ∈ TB) : zNw own idx 3 5 [.null, .null, .null, .null, .null] := ⟨_, zT_sk, zY_sk, rfl, uw_sk, zY_sk_ok, h, tb_t 37 (by decide +kernel) rfl, tb_t 3 (by decide +kernel) rfl, fun b j hj => by
  match j, hj with
  | 0, _ => rfl
  | 1, _ => rfl
  | 2, _ => rfl
  | 3, _ => rfl
  | 4, _ => rfl
  | j + 5, hj => omega⟩
theorem nw_dv {own : String} {idx : Nat} (h : Cond.classLink own idx "RecurrentSeries$Divider" ∈ TB) : zNw own idx 4 2 [.null, .null] := ⟨_, zT_dv, zY_dv, rfl, uw_dv, zY_dv_ok, h, tb_t 59 (by decide +kernel) rfl, tb_t 4 (by decide +kernel) rfl, fun b j hj => by
  match j, hj with
  | 0, _ => rfl
  | 1, _ => rfl
  | j + 2, hj => omega⟩
theorem nw_mo {own : String} {idx : Nat} (h : Cond.classLink own idx "RecurrentSeriesModel" ∈ TB) : zNw own idx 5 13 [.int 0, .int 0, .null, .null, .null, .null, .null, .null, .null, .null, .null, .null, .null] := ⟨_, zT_mo, zY_mo, rfl, uw_mo, zY_mo_ok, h, tb_t 304 (by decide +kernel) rfl, tb_t 6 (by decide +kernel) rfl, fun b j hj => by
  match j, hj with
  | 0, _ => rfl
  | 1, _ => rfl
  | 2, _ => rfl
  | 3, _ => rfl
  | 4, _ => rfl
  | 5, _ => rfl
  | 6, _ => rfl
  | 7, _ => rfl
  | 8, _ => rfl
  | 9, _ => rfl
  | 10, _ => rfl
  | 11, _ => rfl
  | 12, _ => rfl
  | j + 13, hj => omega⟩
/-- an exact end -/
def zEq (r : Option Value) (n : Nat) (σ : zWd) : Option Value → Nat → zWd → Prop := fun r' n' σ' => r' = r ∧ n' = n ∧ σ' = σ
section ZC
variable {M M' : zMI} {Po Po' : Option Value → Nat → zWd → Prop} {n n' pc q idx : Nat} {σ σ' : zWd} {lv : List (Option Value)} {rest : List Value}
theorem z_gS0 (hd : decode (mB M) pc = .ok (.invokestatic idx, 3)) (hq : pc + 3 = q) (hM : Ct M' [] n σ Po') (hk : zCk M' 0) (hl : zLk (mY M).cls idx (mY M')) (hst : Cond.static (mY M') ∈ TB) (hR : zFit M M') (hcat : (rest.map fun v => v.category).sum ≤ 8) (h0 : (mR M').cells = 0) (h1 : (mR M').slots = 0) (k : ∀ (r : Option Value) (m : Nat) (τ : zWd), Po' r m τ → Z M Po 0 0 m τ q lv (r.toList ++ rest)) : Z M Po 0 0 n σ pc lv (rest) := z_callS (As := []) hd hq hM hk hl hst hR hcat (by omega) (by omega) (fun r m τ h => by rw [h0, h1]; exact k r m τ h)
theorem z_cS0 {v : Value} (hd : decode (mB M) pc = .ok (.invokestatic idx, 3)) (hq : pc + 3 = q) (hM : Ct M' [] n σ (zEq (some v) n' σ')) (hk : zCk M' 0) (hl : zLk (mY M).cls idx (mY M')) (hst : Cond.static (mY M') ∈ TB) (hR : zFit M M') (hcat : (rest.map fun v => v.category).sum ≤ 8) (h0 : (mR M').cells = 0) (h1 : (mR M').slots = 0) (k : Z M Po 0 0 n' σ' q lv (v :: rest)) : Z M Po 0 0 n σ pc lv (rest) := z_callS (As := []) hd hq hM hk hl hst hR hcat (by omega) (by omega) (fun r m τ h => by rw [h0, h1]; obtain ⟨rfl, rfl, rfl⟩ := h; exact k)
theorem z_cS0v (hd : decode (mB M) pc = .ok (.invokestatic idx, 3)) (hq : pc + 3 = q) (hM : Ct M' [] n σ (zEq none n' σ')) (hk : zCk M' 0) (hl : zLk (mY M).cls idx (mY M')) (hst : Cond.static (mY M') ∈ TB) (hR : zFit M M') (hcat : (rest.map fun v => v.category).sum ≤ 8) (h0 : (mR M').cells = 0) (h1 : (mR M').slots = 0) (k : Z M Po 0 0 n' σ' q lv rest) : Z M Po 0 0 n σ pc lv (rest) := z_callS (As := []) hd hq hM hk hl hst hR hcat (by omega) (by omega) (fun r m τ h => by rw [h0, h1]; obtain ⟨rfl, rfl, rfl⟩ := h; exact k)
theorem z_gV0 {i ci : Nat} {fs : List Value} {vc : vw_C} (hd : decode (mB M) pc = .ok (.invokevirtual idx, 3)) (hq : pc + 3 = q) (hM : Ct M' [.ref i] n σ Po') (hs : σ i = zO ci fs) (hi : i < n) (hvc : zCl[ci]? = some vc) (hk : zCk M' 0) (hl : zLk (mY M).cls idx (mY M')) (hst : Cond.instanceMethod (mY M') ∈ TB) (hsel : Cond.selects vc.1 (mY M') (mY M') ∈ TB) (hR : zFit M M') (hcat : (rest.map fun v => v.category).sum ≤ 8) (h0 : (mR M').cells = 0) (h1 : (mR M').slots = 0) (k : ∀ (r : Option Value) (m : Nat) (τ : zWd), Po' r m τ → Z M Po 0 0 m τ q lv (r.toList ++ rest)) : Z M Po 0 0 n σ pc lv (.ref i :: rest) := z_callV (As := []) hd hq hM hs hi hvc hk hl hst hsel hR hcat (by omega) (by omega) (fun r m τ h => by rw [h0, h1]; exact k r m τ h)
theorem z_cV0 {v : Value} {i ci : Nat} {fs : List Value} {vc : vw_C} (hd : decode (mB M) pc = .ok (.invokevirtual idx, 3)) (hq : pc + 3 = q) (hM : Ct M' [.ref i] n σ (zEq (some v) n' σ')) (hs : σ i = zO ci fs) (hi : i < n) (hvc : zCl[ci]? = some vc) (hk : zCk M' 0) (hl : zLk (mY M).cls idx (mY M')) (hst : Cond.instanceMethod (mY M') ∈ TB) (hsel : Cond.selects vc.1 (mY M') (mY M') ∈ TB) (hR : zFit M M') (hcat : (rest.map fun v => v.category).sum ≤ 8) (h0 : (mR M').cells = 0) (h1 : (mR M').slots = 0) (k : Z M Po 0 0 n' σ' q lv (v :: rest)) : Z M Po 0 0 n σ pc lv (.ref i :: rest) := z_callV (As := []) hd hq hM hs hi hvc hk hl hst hsel hR hcat (by omega) (by omega) (fun r m τ h => by rw [h0, h1]; obtain ⟨rfl, rfl, rfl⟩ := h; exact k)
theorem z_cV0v {i ci : Nat} {fs : List Value} {vc : vw_C} (hd : decode (mB M) pc = .ok (.invokevirtual idx, 3)) (hq : pc + 3 = q) (hM : Ct M' [.ref i] n σ (zEq none n' σ')) (hs : σ i = zO ci fs) (hi : i < n) (hvc : zCl[ci]? = some vc) (hk : zCk M' 0) (hl : zLk (mY M).cls idx (mY M')) (hst : Cond.instanceMethod (mY M') ∈ TB) (hsel : Cond.selects vc.1 (mY M') (mY M') ∈ TB) (hR : zFit M M') (hcat : (rest.map fun v => v.category).sum ≤ 8) (h0 : (mR M').cells = 0) (h1 : (mR M').slots = 0) (k : Z M Po 0 0 n' σ' q lv rest) : Z M Po 0 0 n σ pc lv (.ref i :: rest) := z_callV (As := []) hd hq hM hs hi hvc hk hl hst hsel hR hcat (by omega) (by omega) (fun r m τ h => by rw [h0, h1]; obtain ⟨rfl, rfl, rfl⟩ := h; exact k)
theorem z_gS1 {a0 : Value} (hd : decode (mB M) pc = .ok (.invokestatic idx, 3)) (hq : pc + 3 = q) (hM : Ct M' [a0] n σ Po') (hk : zCk M' 1) (hl : zLk (mY M).cls idx (mY M')) (hst : Cond.static (mY M') ∈ TB) (hR : zFit M M') (hcat : (rest.map fun v => v.category).sum ≤ 8) (h0 : (mR M').cells = 0) (h1 : (mR M').slots = 0) (k : ∀ (r : Option Value) (m : Nat) (τ : zWd), Po' r m τ → Z M Po 0 0 m τ q lv (r.toList ++ rest)) : Z M Po 0 0 n σ pc lv (a0 :: rest) := z_callS (As := [a0]) hd hq hM hk hl hst hR hcat (by omega) (by omega) (fun r m τ h => by rw [h0, h1]; exact k r m τ h)
theorem z_cS1 {a0 : Value} {v : Value} (hd : decode (mB M) pc = .ok (.invokestatic idx, 3)) (hq : pc + 3 = q) (hM : Ct M' [a0] n σ (zEq (some v) n' σ')) (hk : zCk M' 1) (hl : zLk (mY M).cls idx (mY M')) (hst : Cond.static (mY M') ∈ TB) (hR : zFit M M') (hcat : (rest.map fun v => v.category).sum ≤ 8) (h0 : (mR M').cells = 0) (h1 : (mR M').slots = 0) (k : Z M Po 0 0 n' σ' q lv (v :: rest)) : Z M Po 0 0 n σ pc lv (a0 :: rest) := z_callS (As := [a0]) hd hq hM hk hl hst hR hcat (by omega) (by omega) (fun r m τ h => by rw [h0, h1]; obtain ⟨rfl, rfl, rfl⟩ := h; exact k)
theorem z_cS1v {a0 : Value} (hd : decode (mB M) pc = .ok (.invokestatic idx, 3)) (hq : pc + 3 = q) (hM : Ct M' [a0] n σ (zEq none n' σ')) (hk : zCk M' 1) (hl : zLk (mY M).cls idx (mY M')) (hst : Cond.static (mY M') ∈ TB) (hR : zFit M M') (hcat : (rest.map fun v => v.category).sum ≤ 8) (h0 : (mR M').cells = 0) (h1 : (mR M').slots = 0) (k : Z M Po 0 0 n' σ' q lv rest) : Z M Po 0 0 n σ pc lv (a0 :: rest) := z_callS (As := [a0]) hd hq hM hk hl hst hR hcat (by omega) (by omega) (fun r m τ h => by rw [h0, h1]; obtain ⟨rfl, rfl, rfl⟩ := h; exact k)
theorem z_gV1 {a0 : Value} {i ci : Nat} {fs : List Value} {vc : vw_C} (hd : decode (mB M) pc = .ok (.invokevirtual idx, 3)) (hq : pc + 3 = q) (hM : Ct M' [.ref i, a0] n σ Po') (hs : σ i = zO ci fs) (hi : i < n) (hvc : zCl[ci]? = some vc) (hk : zCk M' 1) (hl : zLk (mY M).cls idx (mY M')) (hst : Cond.instanceMethod (mY M') ∈ TB) (hsel : Cond.selects vc.1 (mY M') (mY M') ∈ TB) (hR : zFit M M') (hcat : (rest.map fun v => v.category).sum ≤ 8) (h0 : (mR M').cells = 0) (h1 : (mR M').slots = 0) (k : ∀ (r : Option Value) (m : Nat) (τ : zWd), Po' r m τ → Z M Po 0 0 m τ q lv (r.toList ++ rest)) : Z M Po 0 0 n σ pc lv (a0 :: .ref i :: rest) := z_callV (As := [a0]) hd hq hM hs hi hvc hk hl hst hsel hR hcat (by omega) (by omega) (fun r m τ h => by rw [h0, h1]; exact k r m τ h)
theorem z_cV1 {a0 : Value} {v : Value} {i ci : Nat} {fs : List Value} {vc : vw_C} (hd : decode (mB M) pc = .ok (.invokevirtual idx, 3)) (hq : pc + 3 = q) (hM : Ct M' [.ref i, a0] n σ (zEq (some v) n' σ')) (hs : σ i = zO ci fs) (hi : i < n) (hvc : zCl[ci]? = some vc) (hk : zCk M' 1) (hl : zLk (mY M).cls idx (mY M')) (hst : Cond.instanceMethod (mY M') ∈ TB) (hsel : Cond.selects vc.1 (mY M') (mY M') ∈ TB) (hR : zFit M M') (hcat : (rest.map fun v => v.category).sum ≤ 8) (h0 : (mR M').cells = 0) (h1 : (mR M').slots = 0) (k : Z M Po 0 0 n' σ' q lv (v :: rest)) : Z M Po 0 0 n σ pc lv (a0 :: .ref i :: rest) := z_callV (As := [a0]) hd hq hM hs hi hvc hk hl hst hsel hR hcat (by omega) (by omega) (fun r m τ h => by rw [h0, h1]; obtain ⟨rfl, rfl, rfl⟩ := h; exact k)
theorem z_cV1v {a0 : Value} {i ci : Nat} {fs : List Value} {vc : vw_C} (hd : decode (mB M) pc = .ok (.invokevirtual idx, 3)) (hq : pc + 3 = q) (hM : Ct M' [.ref i, a0] n σ (zEq none n' σ')) (hs : σ i = zO ci fs) (hi : i < n) (hvc : zCl[ci]? = some vc) (hk : zCk M' 1) (hl : zLk (mY M).cls idx (mY M')) (hst : Cond.instanceMethod (mY M') ∈ TB) (hsel : Cond.selects vc.1 (mY M') (mY M') ∈ TB) (hR : zFit M M') (hcat : (rest.map fun v => v.category).sum ≤ 8) (h0 : (mR M').cells = 0) (h1 : (mR M').slots = 0) (k : Z M Po 0 0 n' σ' q lv rest) : Z M Po 0 0 n σ pc lv (a0 :: .ref i :: rest) := z_callV (As := [a0]) hd hq hM hs hi hvc hk hl hst hsel hR hcat (by omega) (by omega) (fun r m τ h => by rw [h0, h1]; obtain ⟨rfl, rfl, rfl⟩ := h; exact k)
theorem z_gS2 {a0 a1 : Value} (hd : decode (mB M) pc = .ok (.invokestatic idx, 3)) (hq : pc + 3 = q) (hM : Ct M' [a0, a1] n σ Po') (hk : zCk M' 2) (hl : zLk (mY M).cls idx (mY M')) (hst : Cond.static (mY M') ∈ TB) (hR : zFit M M') (hcat : (rest.map fun v => v.category).sum ≤ 8) (h0 : (mR M').cells = 0) (h1 : (mR M').slots = 0) (k : ∀ (r : Option Value) (m : Nat) (τ : zWd), Po' r m τ → Z M Po 0 0 m τ q lv (r.toList ++ rest)) : Z M Po 0 0 n σ pc lv (a1 :: a0 :: rest) := z_callS (As := [a0, a1]) hd hq hM hk hl hst hR hcat (by omega) (by omega) (fun r m τ h => by rw [h0, h1]; exact k r m τ h)
theorem z_cS2 {a0 a1 : Value} {v : Value} (hd : decode (mB M) pc = .ok (.invokestatic idx, 3)) (hq : pc + 3 = q) (hM : Ct M' [a0, a1] n σ (zEq (some v) n' σ')) (hk : zCk M' 2) (hl : zLk (mY M).cls idx (mY M')) (hst : Cond.static (mY M') ∈ TB) (hR : zFit M M') (hcat : (rest.map fun v => v.category).sum ≤ 8) (h0 : (mR M').cells = 0) (h1 : (mR M').slots = 0) (k : Z M Po 0 0 n' σ' q lv (v :: rest)) : Z M Po 0 0 n σ pc lv (a1 :: a0 :: rest) := z_callS (As := [a0, a1]) hd hq hM hk hl hst hR hcat (by omega) (by omega) (fun r m τ h => by rw [h0, h1]; obtain ⟨rfl, rfl, rfl⟩ := h; exact k)
theorem z_cS2v {a0 a1 : Value} (hd : decode (mB M) pc = .ok (.invokestatic idx, 3)) (hq : pc + 3 = q) (hM : Ct M' [a0, a1] n σ (zEq none n' σ')) (hk : zCk M' 2) (hl : zLk (mY M).cls idx (mY M')) (hst : Cond.static (mY M') ∈ TB) (hR : zFit M M') (hcat : (rest.map fun v => v.category).sum ≤ 8) (h0 : (mR M').cells = 0) (h1 : (mR M').slots = 0) (k : Z M Po 0 0 n' σ' q lv rest) : Z M Po 0 0 n σ pc lv (a1 :: a0 :: rest) := z_callS (As := [a0, a1]) hd hq hM hk hl hst hR hcat (by omega) (by omega) (fun r m τ h => by rw [h0, h1]; obtain ⟨rfl, rfl, rfl⟩ := h; exact k)
theorem z_gV2 {a0 a1 : Value} {i ci : Nat} {fs : List Value} {vc : vw_C} (hd : decode (mB M) pc = .ok (.invokevirtual idx, 3)) (hq : pc + 3 = q) (hM : Ct M' [.ref i, a0, a1] n σ Po') (hs : σ i = zO ci fs) (hi : i < n) (hvc : zCl[ci]? = some vc) (hk : zCk M' 2) (hl : zLk (mY M).cls idx (mY M')) (hst : Cond.instanceMethod (mY M') ∈ TB) (hsel : Cond.selects vc.1 (mY M') (mY M') ∈ TB) (hR : zFit M M') (hcat : (rest.map fun v => v.category).sum ≤ 8) (h0 : (mR M').cells = 0) (h1 : (mR M').slots = 0) (k : ∀ (r : Option Value) (m : Nat) (τ : zWd), Po' r m τ → Z M Po 0 0 m τ q lv (r.toList ++ rest)) : Z M Po 0 0 n σ pc lv (a1 :: a0 :: .ref i :: rest) := z_callV (As := [a0, a1]) hd hq hM hs hi hvc hk hl hst hsel hR hcat (by omega) (by omega) (fun r m τ h => by rw [h0, h1]; exact k r m τ h)
theorem z_cV2 {a0 a1 : Value} {v : Value} {i ci : Nat} {fs : List Value} {vc : vw_C} (hd : decode (mB M) pc = .ok (.invokevirtual idx, 3)) (hq : pc + 3 = q) (hM : Ct M' [.ref i, a0, a1] n σ (zEq (some v) n' σ')) (hs : σ i = zO ci fs) (hi : i < n) (hvc : zCl[ci]? = some vc) (hk : zCk M' 2) (hl : zLk (mY M).cls idx (mY M')) (hst : Cond.instanceMethod (mY M') ∈ TB) (hsel : Cond.selects vc.1 (mY M') (mY M') ∈ TB) (hR : zFit M M') (hcat : (rest.map fun v => v.category).sum ≤ 8) (h0 : (mR M').cells = 0) (h1 : (mR M').slots = 0) (k : Z M Po 0 0 n' σ' q lv (v :: rest)) : Z M Po 0 0 n σ pc lv (a1 :: a0 :: .ref i :: rest) := z_callV (As := [a0, a1]) hd hq hM hs hi hvc hk hl hst hsel hR hcat (by omega) (by omega) (fun r m τ h => by rw [h0, h1]; obtain ⟨rfl, rfl, rfl⟩ := h; exact k)
theorem z_cV2v {a0 a1 : Value} {i ci : Nat} {fs : List Value} {vc : vw_C} (hd : decode (mB M) pc = .ok (.invokevirtual idx, 3)) (hq : pc + 3 = q) (hM : Ct M' [.ref i, a0, a1] n σ (zEq none n' σ')) (hs : σ i = zO ci fs) (hi : i < n) (hvc : zCl[ci]? = some vc) (hk : zCk M' 2) (hl : zLk (mY M).cls idx (mY M')) (hst : Cond.instanceMethod (mY M') ∈ TB) (hsel : Cond.selects vc.1 (mY M') (mY M') ∈ TB) (hR : zFit M M') (hcat : (rest.map fun v => v.category).sum ≤ 8) (h0 : (mR M').cells = 0) (h1 : (mR M').slots = 0) (k : Z M Po 0 0 n' σ' q lv rest) : Z M Po 0 0 n σ pc lv (a1 :: a0 :: .ref i :: rest) := z_callV (As := [a0, a1]) hd hq hM hs hi hvc hk hl hst hsel hR hcat (by omega) (by omega) (fun r m τ h => by rw [h0, h1]; obtain ⟨rfl, rfl, rfl⟩ := h; exact k)
theorem z_gS3 {a0 a1 a2 : Value} (hd : decode (mB M) pc = .ok (.invokestatic idx, 3)) (hq : pc + 3 = q) (hM : Ct M' [a0, a1, a2] n σ Po') (hk : zCk M' 3) (hl : zLk (mY M).cls idx (mY M')) (hst : Cond.static (mY M') ∈ TB) (hR : zFit M M') (hcat : (rest.map fun v => v.category).sum ≤ 8) (h0 : (mR M').cells = 0) (h1 : (mR M').slots = 0) (k : ∀ (r : Option Value) (m : Nat) (τ : zWd), Po' r m τ → Z M Po 0 0 m τ q lv (r.toList ++ rest)) : Z M Po 0 0 n σ pc lv (a2 :: a1 :: a0 :: rest) := z_callS (As := [a0, a1, a2]) hd hq hM hk hl hst hR hcat (by omega) (by omega) (fun r m τ h => by rw [h0, h1]; exact k r m τ h)
theorem z_cS3 {a0 a1 a2 : Value} {v : Value} (hd : decode (mB M) pc = .ok (.invokestatic idx, 3)) (hq : pc + 3 = q) (hM : Ct M' [a0, a1, a2] n σ (zEq (some v) n' σ')) (hk : zCk M' 3) (hl : zLk (mY M).cls idx (mY M')) (hst : Cond.static (mY M') ∈ TB) (hR : zFit M M') (hcat : (rest.map fun v => v.category).sum ≤ 8) (h0 : (mR M').cells = 0) (h1 : (mR M').slots = 0) (k : Z M Po 0 0 n' σ' q lv (v :: rest)) : Z M Po 0 0 n σ pc lv (a2 :: a1 :: a0 :: rest) := z_callS (As := [a0, a1, a2]) hd hq hM hk hl hst hR hcat (by omega) (by omega) (fun r m τ h => by rw [h0, h1]; obtain ⟨rfl, rfl, rfl⟩ := h; exact k)
theorem z_cS3v {a0 a1 a2 : Value} (hd : decode (mB M) pc = .ok (.invokestatic idx, 3)) (hq : pc + 3 = q) (hM : Ct M' [a0, a1, a2] n σ (zEq none n' σ')) (hk : zCk M' 3) (hl : zLk (mY M).cls idx (mY M')) (hst : Cond.static (mY M') ∈ TB) (hR : zFit M M') (hcat : (rest.map fun v => v.category).sum ≤ 8) (h0 : (mR M').cells = 0) (h1 : (mR M').slots = 0) (k : Z M Po 0 0 n' σ' q lv rest) : Z M Po 0 0 n σ pc lv (a2 :: a1 :: a0 :: rest) := z_callS (As := [a0, a1, a2]) hd hq hM hk hl hst hR hcat (by omega) (by omega) (fun r m τ h => by rw [h0, h1]; obtain ⟨rfl, rfl, rfl⟩ := h; exact k)
theorem z_gV3 {a0 a1 a2 : Value} {i ci : Nat} {fs : List Value} {vc : vw_C} (hd : decode (mB M) pc = .ok (.invokevirtual idx, 3)) (hq : pc + 3 = q) (hM : Ct M' [.ref i, a0, a1, a2] n σ Po') (hs : σ i = zO ci fs) (hi : i < n) (hvc : zCl[ci]? = some vc) (hk : zCk M' 3) (hl : zLk (mY M).cls idx (mY M')) (hst : Cond.instanceMethod (mY M') ∈ TB) (hsel : Cond.selects vc.1 (mY M') (mY M') ∈ TB) (hR : zFit M M') (hcat : (rest.map fun v => v.category).sum ≤ 8) (h0 : (mR M').cells = 0) (h1 : (mR M').slots = 0) (k : ∀ (r : Option Value) (m : Nat) (τ : zWd), Po' r m τ → Z M Po 0 0 m τ q lv (r.toList ++ rest)) : Z M Po 0 0 n σ pc lv (a2 :: a1 :: a0 :: .ref i :: rest) := z_callV (As := [a0, a1, a2]) hd hq hM hs hi hvc hk hl hst hsel hR hcat (by omega) (by omega) (fun r m τ h => by rw [h0, h1]; exact k r m τ h)
theorem z_cV3 {a0 a1 a2 : Value} {v : Value} {i ci : Nat} {fs : List Value} {vc : vw_C} (hd : decode (mB M) pc = .ok (.invokevirtual idx, 3)) (hq : pc + 3 = q) (hM : Ct M' [.ref i, a0, a1, a2] n σ (zEq (some v) n' σ')) (hs : σ i = zO ci fs) (hi : i < n) (hvc : zCl[ci]? = some vc) (hk : zCk M' 3) (hl : zLk (mY M).cls idx (mY M')) (hst : Cond.instanceMethod (mY M') ∈ TB) (hsel : Cond.selects vc.1 (mY M') (mY M') ∈ TB) (hR : zFit M M') (hcat : (rest.map fun v => v.category).sum ≤ 8) (h0 : (mR M').cells = 0) (h1 : (mR M').slots = 0) (k : Z M Po 0 0 n' σ' q lv (v :: rest)) : Z M Po 0 0 n σ pc lv (a2 :: a1 :: a0 :: .ref i :: rest) := z_callV (As := [a0, a1, a2]) hd hq hM hs hi hvc hk hl hst hsel hR hcat (by omega) (by omega) (fun r m τ h => by rw [h0, h1]; obtain ⟨rfl, rfl, rfl⟩ := h; exact k)
theorem z_cV3v {a0 a1 a2 : Value} {i ci : Nat} {fs : List Value} {vc : vw_C} (hd : decode (mB M) pc = .ok (.invokevirtual idx, 3)) (hq : pc + 3 = q) (hM : Ct M' [.ref i, a0, a1, a2] n σ (zEq none n' σ')) (hs : σ i = zO ci fs) (hi : i < n) (hvc : zCl[ci]? = some vc) (hk : zCk M' 3) (hl : zLk (mY M).cls idx (mY M')) (hst : Cond.instanceMethod (mY M') ∈ TB) (hsel : Cond.selects vc.1 (mY M') (mY M') ∈ TB) (hR : zFit M M') (hcat : (rest.map fun v => v.category).sum ≤ 8) (h0 : (mR M').cells = 0) (h1 : (mR M').slots = 0) (k : Z M Po 0 0 n' σ' q lv rest) : Z M Po 0 0 n σ pc lv (a2 :: a1 :: a0 :: .ref i :: rest) := z_callV (As := [a0, a1, a2]) hd hq hM hs hi hvc hk hl hst hsel hR hcat (by omega) (by omega) (fun r m τ h => by rw [h0, h1]; obtain ⟨rfl, rfl, rfl⟩ := h; exact k)
theorem z_gS4 {a0 a1 a2 a3 : Value} (hd : decode (mB M) pc = .ok (.invokestatic idx, 3)) (hq : pc + 3 = q) (hM : Ct M' [a0, a1, a2, a3] n σ Po') (hk : zCk M' 4) (hl : zLk (mY M).cls idx (mY M')) (hst : Cond.static (mY M') ∈ TB) (hR : zFit M M') (hcat : (rest.map fun v => v.category).sum ≤ 8) (h0 : (mR M').cells = 0) (h1 : (mR M').slots = 0) (k : ∀ (r : Option Value) (m : Nat) (τ : zWd), Po' r m τ → Z M Po 0 0 m τ q lv (r.toList ++ rest)) : Z M Po 0 0 n σ pc lv (a3 :: a2 :: a1 :: a0 :: rest) := z_callS (As := [a0, a1, a2, a3]) hd hq hM hk hl hst hR hcat (by omega) (by omega) (fun r m τ h => by rw [h0, h1]; exact k r m τ h)
theorem z_cS4 {a0 a1 a2 a3 : Value} {v : Value} (hd : decode (mB M) pc = .ok (.invokestatic idx, 3)) (hq : pc + 3 = q) (hM : Ct M' [a0, a1, a2, a3] n σ (zEq (some v) n' σ')) (hk : zCk M' 4) (hl : zLk (mY M).cls idx (mY M')) (hst : Cond.static (mY M') ∈ TB) (hR : zFit M M') (hcat : (rest.map fun v => v.category).sum ≤ 8) (h0 : (mR M').cells = 0) (h1 : (mR M').slots = 0) (k : Z M Po 0 0 n' σ' q lv (v :: rest)) : Z M Po 0 0 n σ pc lv (a3 :: a2 :: a1 :: a0 :: rest) := z_callS (As := [a0, a1, a2, a3]) hd hq hM hk hl hst hR hcat (by omega) (by omega) (fun r m τ h => by rw [h0, h1]; obtain ⟨rfl, rfl, rfl⟩ := h; exact k)
theorem z_cS4v {a0 a1 a2 a3 : Value} (hd : decode (mB M) pc = .ok (.invokestatic idx, 3)) (hq : pc + 3 = q) (hM : Ct M' [a0, a1, a2, a3] n σ (zEq none n' σ')) (hk : zCk M' 4) (hl : zLk (mY M).cls idx (mY M')) (hst : Cond.static (mY M') ∈ TB) (hR : zFit M M') (hcat : (rest.map fun v => v.category).sum ≤ 8) (h0 : (mR M').cells = 0) (h1 : (mR M').slots = 0) (k : Z M Po 0 0 n' σ' q lv rest) : Z M Po 0 0 n σ pc lv (a3 :: a2 :: a1 :: a0 :: rest) := z_callS (As := [a0, a1, a2, a3]) hd hq hM hk hl hst hR hcat (by omega) (by omega) (fun r m τ h => by rw [h0, h1]; obtain ⟨rfl, rfl, rfl⟩ := h; exact k)
theorem z_gV4 {a0 a1 a2 a3 : Value} {i ci : Nat} {fs : List Value} {vc : vw_C} (hd : decode (mB M) pc = .ok (.invokevirtual idx, 3)) (hq : pc + 3 = q) (hM : Ct M' [.ref i, a0, a1, a2, a3] n σ Po') (hs : σ i = zO ci fs) (hi : i < n) (hvc : zCl[ci]? = some vc) (hk : zCk M' 4) (hl : zLk (mY M).cls idx (mY M')) (hst : Cond.instanceMethod (mY M') ∈ TB) (hsel : Cond.selects vc.1 (mY M') (mY M') ∈ TB) (hR : zFit M M') (hcat : (rest.map fun v => v.category).sum ≤ 8) (h0 : (mR M').cells = 0) (h1 : (mR M').slots = 0) (k : ∀ (r : Option Value) (m : Nat) (τ : zWd), Po' r m τ → Z M Po 0 0 m τ q lv (r.toList ++ rest)) : Z M Po 0 0 n σ pc lv (a3 :: a2 :: a1 :: a0 :: .ref i :: rest) := z_callV (As := [a0, a1, a2, a3]) hd hq hM hs hi hvc hk hl hst hsel hR hcat (by omega) (by omega) (fun r m τ h => by rw [h0, h1]; exact k r m τ h)
theorem z_cV4 {a0 a1 a2 a3 : Value} {v : Value} {i ci : Nat} {fs : List Value} {vc : vw_C} (hd : decode (mB M) pc = .ok (.invokevirtual idx, 3)) (hq : pc + 3 = q) (hM : Ct M' [.ref i, a0, a1, a2, a3] n σ (zEq (some v) n' σ')) (hs : σ i = zO ci fs) (hi : i < n) (hvc : zCl[ci]? = some vc) (hk : zCk M' 4) (hl : zLk (mY M).cls idx (mY M')) (hst : Cond.instanceMethod (mY M') ∈ TB) (hsel : Cond.selects vc.1 (mY M') (mY M') ∈ TB) (hR : zFit M M') (hcat : (rest.map fun v => v.category).sum ≤ 8) (h0 : (mR M').cells = 0) (h1 : (mR M').slots = 0) (k : Z M Po 0 0 n' σ' q lv (v :: rest)) : Z M Po 0 0 n σ pc lv (a3 :: a2 :: a1 :: a0 :: .ref i :: rest) := z_callV (As := [a0, a1, a2, a3]) hd hq hM hs hi hvc hk hl hst hsel hR hcat (by omega) (by omega) (fun r m τ h => by rw [h0, h1]; obtain ⟨rfl, rfl, rfl⟩ := h; exact k)
theorem z_cV4v {a0 a1 a2 a3 : Value} {i ci : Nat} {fs : List Value} {vc : vw_C} (hd : decode (mB M) pc = .ok (.invokevirtual idx, 3)) (hq : pc + 3 = q) (hM : Ct M' [.ref i, a0, a1, a2, a3] n σ (zEq none n' σ')) (hs : σ i = zO ci fs) (hi : i < n) (hvc : zCl[ci]? = some vc) (hk : zCk M' 4) (hl : zLk (mY M).cls idx (mY M')) (hst : Cond.instanceMethod (mY M') ∈ TB) (hsel : Cond.selects vc.1 (mY M') (mY M') ∈ TB) (hR : zFit M M') (hcat : (rest.map fun v => v.category).sum ≤ 8) (h0 : (mR M').cells = 0) (h1 : (mR M').slots = 0) (k : Z M Po 0 0 n' σ' q lv rest) : Z M Po 0 0 n σ pc lv (a3 :: a2 :: a1 :: a0 :: .ref i :: rest) := z_callV (As := [a0, a1, a2, a3]) hd hq hM hs hi hvc hk hl hst hsel hR hcat (by omega) (by omega) (fun r m τ h => by rw [h0, h1]; obtain ⟨rfl, rfl, rfl⟩ := h; exact k)
theorem z_gS5 {a0 a1 a2 a3 a4 : Value} (hd : decode (mB M) pc = .ok (.invokestatic idx, 3)) (hq : pc + 3 = q) (hM : Ct M' [a0, a1, a2, a3, a4] n σ Po') (hk : zCk M' 5) (hl : zLk (mY M).cls idx (mY M')) (hst : Cond.static (mY M') ∈ TB) (hR : zFit M M') (hcat : (rest.map fun v => v.category).sum ≤ 8) (h0 : (mR M').cells = 0) (h1 : (mR M').slots = 0) (k : ∀ (r : Option Value) (m : Nat) (τ : zWd), Po' r m τ → Z M Po 0 0 m τ q lv (r.toList ++ rest)) : Z M Po 0 0 n σ pc lv (a4 :: a3 :: a2 :: a1 :: a0 :: rest) := z_callS (As := [a0, a1, a2, a3, a4]) hd hq hM hk hl hst hR hcat (by omega) (by omega) (fun r m τ h => by rw [h0, h1]; exact k r m τ h)
theorem z_cS5 {a0 a1 a2 a3 a4 : Value} {v : Value} (hd : decode (mB M) pc = .ok (.invokestatic idx, 3)) (hq : pc + 3 = q) (hM : Ct M' [a0, a1, a2, a3, a4] n σ (zEq (some v) n' σ')) (hk : zCk M' 5) (hl : zLk (mY M).cls idx (mY M')) (hst : Cond.static (mY M') ∈ TB) (hR : zFit M M') (hcat : (rest.map fun v => v.category).sum ≤ 8) (h0 : (mR M').cells = 0) (h1 : (mR M').slots = 0) (k : Z M Po 0 0 n' σ' q lv (v :: rest)) : Z M Po 0 0 n σ pc lv (a4 :: a3 :: a2 :: a1 :: a0 :: rest) := z_callS (As := [a0, a1, a2, a3, a4]) hd hq hM hk hl hst hR hcat (by omega) (by omega) (fun r m τ h => by rw [h0, h1]; obtain ⟨rfl, rfl, rfl⟩ := h; exact k)
theorem z_cS5v {a0 a1 a2 a3 a4 : Value} (hd : decode (mB M) pc = .ok (.invokestatic idx, 3)) (hq : pc + 3 = q) (hM : Ct M' [a0, a1, a2, a3, a4] n σ (zEq none n' σ')) (hk : zCk M' 5) (hl : zLk (mY M).cls idx (mY M')) (hst : Cond.static (mY M') ∈ TB) (hR : zFit M M') (hcat : (rest.map fun v => v.category).sum ≤ 8) (h0 : (mR M').cells = 0) (h1 : (mR M').slots = 0) (k : Z M Po 0 0 n' σ' q lv rest) : Z M Po 0 0 n σ pc lv (a4 :: a3 :: a2 :: a1 :: a0 :: rest) := z_callS (As := [a0, a1, a2, a3, a4]) hd hq hM hk hl hst hR hcat (by omega) (by omega) (fun r m τ h => by rw [h0, h1]; obtain ⟨rfl, rfl, rfl⟩ := h; exact k)
theorem z_gV5 {a0 a1 a2 a3 a4 : Value} {i ci : Nat} {fs : List Value} {vc : vw_C} (hd : decode (mB M) pc = .ok (.invokevirtual idx, 3)) (hq : pc + 3 = q) (hM : Ct M' [.ref i, a0, a1, a2, a3, a4] n σ Po') (hs : σ i = zO ci fs) (hi : i < n) (hvc : zCl[ci]? = some vc) (hk : zCk M' 5) (hl : zLk (mY M).cls idx (mY M')) (hst : Cond.instanceMethod (mY M') ∈ TB) (hsel : Cond.selects vc.1 (mY M') (mY M') ∈ TB) (hR : zFit M M') (hcat : (rest.map fun v => v.category).sum ≤ 8) (h0 : (mR M').cells = 0) (h1 : (mR M').slots = 0) (k : ∀ (r : Option Value) (m : Nat) (τ : zWd), Po' r m τ → Z M Po 0 0 m τ q lv (r.toList ++ rest)) : Z M Po 0 0 n σ pc lv (a4 :: a3 :: a2 :: a1 :: a0 :: .ref i :: rest) := z_callV (As := [a0, a1, a2, a3, a4]) hd hq hM hs hi hvc hk hl hst hsel hR hcat (by omega) (by omega) (fun r m τ h => by rw [h0, h1]; exact k r m τ h)
theorem z_cV5 {a0 a1 a2 a3 a4 : Value} {v : Value} {i ci : Nat} {fs : List Value} {vc : vw_C} (hd : decode (mB M) pc = .ok (.invokevirtual idx, 3)) (hq : pc + 3 = q) (hM : Ct M' [.ref i, a0, a1, a2, a3, a4] n σ (zEq (some v) n' σ')) (hs : σ i = zO ci fs) (hi : i < n) (hvc : zCl[ci]? = some vc) (hk : zCk M' 5) (hl : zLk (mY M).cls idx (mY M')) (hst : Cond.instanceMethod (mY M') ∈ TB) (hsel : Cond.selects vc.1 (mY M') (mY M') ∈ TB) (hR : zFit M M') (hcat : (rest.map fun v => v.category).sum ≤ 8) (h0 : (mR M').cells = 0) (h1 : (mR M').slots = 0) (k : Z M Po 0 0 n' σ' q lv (v :: rest)) : Z M Po 0 0 n σ pc lv (a4 :: a3 :: a2 :: a1 :: a0 :: .ref i :: rest) := z_callV (As := [a0, a1, a2, a3, a4]) hd hq hM hs hi hvc hk hl hst hsel hR hcat (by omega) (by omega) (fun r m τ h => by rw [h0, h1]; obtain ⟨rfl, rfl, rfl⟩ := h; exact k)
theorem z_cV5v {a0 a1 a2 a3 a4 : Value} {i ci : Nat} {fs : List Value} {vc : vw_C} (hd : decode (mB M) pc = .ok (.invokevirtual idx, 3)) (hq : pc + 3 = q) (hM : Ct M' [.ref i, a0, a1, a2, a3, a4] n σ (zEq none n' σ')) (hs : σ i = zO ci fs) (hi : i < n) (hvc : zCl[ci]? = some vc) (hk : zCk M' 5) (hl : zLk (mY M).cls idx (mY M')) (hst : Cond.instanceMethod (mY M') ∈ TB) (hsel : Cond.selects vc.1 (mY M') (mY M') ∈ TB) (hR : zFit M M') (hcat : (rest.map fun v => v.category).sum ≤ 8) (h0 : (mR M').cells = 0) (h1 : (mR M').slots = 0) (k : Z M Po 0 0 n' σ' q lv rest) : Z M Po 0 0 n σ pc lv (a4 :: a3 :: a2 :: a1 :: a0 :: .ref i :: rest) := z_callV (As := [a0, a1, a2, a3, a4]) hd hq hM hs hi hvc hk hl hst hsel hR hcat (by omega) (by omega) (fun r m τ h => by rw [h0, h1]; obtain ⟨rfl, rfl, rfl⟩ := h; exact k)
theorem z_gS6 {a0 a1 a2 a3 a4 a5 : Value} (hd : decode (mB M) pc = .ok (.invokestatic idx, 3)) (hq : pc + 3 = q) (hM : Ct M' [a0, a1, a2, a3, a4, a5] n σ Po') (hk : zCk M' 6) (hl : zLk (mY M).cls idx (mY M')) (hst : Cond.static (mY M') ∈ TB) (hR : zFit M M') (hcat : (rest.map fun v => v.category).sum ≤ 8) (h0 : (mR M').cells = 0) (h1 : (mR M').slots = 0) (k : ∀ (r : Option Value) (m : Nat) (τ : zWd), Po' r m τ → Z M Po 0 0 m τ q lv (r.toList ++ rest)) : Z M Po 0 0 n σ pc lv (a5 :: a4 :: a3 :: a2 :: a1 :: a0 :: rest) := z_callS (As := [a0, a1, a2, a3, a4, a5]) hd hq hM hk hl hst hR hcat (by omega) (by omega) (fun r m τ h => by rw [h0, h1]; exact k r m τ h)
theorem z_cS6 {a0 a1 a2 a3 a4 a5 : Value} {v : Value} (hd : decode (mB M) pc = .ok (.invokestatic idx, 3)) (hq : pc + 3 = q) (hM : Ct M' [a0, a1, a2, a3, a4, a5] n σ (zEq (some v) n' σ')) (hk : zCk M' 6) (hl : zLk (mY M).cls idx (mY M')) (hst : Cond.static (mY M') ∈ TB) (hR : zFit M M') (hcat : (rest.map fun v => v.category).sum ≤ 8) (h0 : (mR M').cells = 0) (h1 : (mR M').slots = 0) (k : Z M Po 0 0 n' σ' q lv (v :: rest)) : Z M Po 0 0 n σ pc lv (a5 :: a4 :: a3 :: a2 :: a1 :: a0 :: rest) := z_callS (As := [a0, a1, a2, a3, a4, a5]) hd hq hM hk hl hst hR hcat (by omega) (by omega) (fun r m τ h => by rw [h0, h1]; obtain ⟨rfl, rfl, rfl⟩ := h; exact k)
theorem z_cS6v {a0 a1 a2 a3 a4 a5 : Value} (hd : decode (mB M) pc = .ok (.invokestatic idx, 3)) (hq : pc + 3 = q) (hM : Ct M' [a0, a1, a2, a3, a4, a5] n σ (zEq none n' σ')) (hk : zCk M' 6) (hl : zLk (mY M).cls idx (mY M')) (hst : Cond.static (mY M') ∈ TB) (hR : zFit M M') (hcat : (rest.map fun v => v.category).sum ≤ 8) (h0 : (mR M').cells = 0) (h1 : (mR M').slots = 0) (k : Z M Po 0 0 n' σ' q lv rest) : Z M Po 0 0 n σ pc lv (a5 :: a4 :: a3 :: a2 :: a1 :: a0 :: rest) := z_callS (As := [a0, a1, a2, a3, a4, a5]) hd hq hM hk hl hst hR hcat (by omega) (by omega) (fun r m τ h => by rw [h0, h1]; obtain ⟨rfl, rfl, rfl⟩ := h; exact k)
theorem z_gV6 {a0 a1 a2 a3 a4 a5 : Value} {i ci : Nat} {fs : List Value} {vc : vw_C} (hd : decode (mB M) pc = .ok (.invokevirtual idx, 3)) (hq : pc + 3 = q) (hM : Ct M' [.ref i, a0, a1, a2, a3, a4, a5] n σ Po') (hs : σ i = zO ci fs) (hi : i < n) (hvc : zCl[ci]? = some vc) (hk : zCk M' 6) (hl : zLk (mY M).cls idx (mY M')) (hst : Cond.instanceMethod (mY M') ∈ TB) (hsel : Cond.selects vc.1 (mY M') (mY M') ∈ TB) (hR : zFit M M') (hcat : (rest.map fun v => v.category).sum ≤ 8) (h0 : (mR M').cells = 0) (h1 : (mR M').slots = 0) (k : ∀ (r : Option Value) (m : Nat) (τ : zWd), Po' r m τ → Z M Po 0 0 m τ q lv (r.toList ++ rest)) : Z M Po 0 0 n σ pc lv (a5 :: a4 :: a3 :: a2 :: a1 :: a0 :: .ref i :: rest) := z_callV (As := [a0, a1, a2, a3, a4, a5]) hd hq hM hs hi hvc hk hl hst hsel hR hcat (by omega) (by omega) (fun r m τ h => by rw [h0, h1]; exact k r m τ h)
theorem z_cV6 {a0 a1 a2 a3 a4 a5 : Value} {v : Value} {i ci : Nat} {fs : List Value} {vc : vw_C} (hd : decode (mB M) pc = .ok (.invokevirtual idx, 3)) (hq : pc + 3 = q) (hM : Ct M' [.ref i, a0, a1, a2, a3, a4, a5] n σ (zEq (some v) n' σ')) (hs : σ i = zO ci fs) (hi : i < n) (hvc : zCl[ci]? = some vc) (hk : zCk M' 6) (hl : zLk (mY M).cls idx (mY M')) (hst : Cond.instanceMethod (mY M') ∈ TB) (hsel : Cond.selects vc.1 (mY M') (mY M') ∈ TB) (hR : zFit M M') (hcat : (rest.map fun v => v.category).sum ≤ 8) (h0 : (mR M').cells = 0) (h1 : (mR M').slots = 0) (k : Z M Po 0 0 n' σ' q lv (v :: rest)) : Z M Po 0 0 n σ pc lv (a5 :: a4 :: a3 :: a2 :: a1 :: a0 :: .ref i :: rest) := z_callV (As := [a0, a1, a2, a3, a4, a5]) hd hq hM hs hi hvc hk hl hst hsel hR hcat (by omega) (by omega) (fun r m τ h => by rw [h0, h1]; obtain ⟨rfl, rfl, rfl⟩ := h; exact k)
theorem z_cV6v {a0 a1 a2 a3 a4 a5 : Value} {i ci : Nat} {fs : List Value} {vc : vw_C} (hd : decode (mB M) pc = .ok (.invokevirtual idx, 3)) (hq : pc + 3 = q) (hM : Ct M' [.ref i, a0, a1, a2, a3, a4, a5] n σ (zEq none n' σ')) (hs : σ i = zO ci fs) (hi : i < n) (hvc : zCl[ci]? = some vc) (hk : zCk M' 6) (hl : zLk (mY M).cls idx (mY M')) (hst : Cond.instanceMethod (mY M') ∈ TB) (hsel : Cond.selects vc.1 (mY M') (mY M') ∈ TB) (hR : zFit M M') (hcat : (rest.map fun v => v.category).sum ≤ 8) (h0 : (mR M').cells = 0) (h1 : (mR M').slots = 0) (k : Z M Po 0 0 n' σ' q lv rest) : Z M Po 0 0 n σ pc lv (a5 :: a4 :: a3 :: a2 :: a1 :: a0 :: .ref i :: rest) := z_callV (As := [a0, a1, a2, a3, a4, a5]) hd hq hM hs hi hvc hk hl hst hsel hR hcat (by omega) (by omega) (fun r m τ h => by rw [h0, h1]; obtain ⟨rfl, rfl, rfl⟩ := h; exact k)
end ZC
