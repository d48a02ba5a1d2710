theorem re_Mo_records {M : rn_M} {Q : rn_Q} {v0 : rn_V} (h : rn_WP 125 0 [v0, rn_J] [] M Q) : rn_ME 125 [v0] M Q := h
set_option maxRecDepth 4000 in
theorem rb_Mo_records_0 {M : rn_M} {Q : rn_Q} {vl1 : rn_V} (hM : rn_sh M)   (k1 : (rn_gi M 466 2 = 5) → rn_WP 125 10 [rn_R 466, rn_I 0] [] M Q) (k2 : (¬ (rn_gi M 466 2 = 5)) → rn_WP 125 51 [rn_R 466, rn_I 0] [] M Q) : rn_WP 125 0 [rn_R 466, vl1] [] M Q := by
  refine (rn_step (e := (.aload_n 0, 1, 0, 0, 0, 0, 0, [])) rfl).mpr ?_
  refine (rn_step (e := (.getfield 37, 4, 10, 2, 904, 0, 11, [])) rfl).mpr (And.intro ((rn_ks466 (M := M) hM)) (?_))
  refine (rn_step (e := (.iconst 5, 5, 0, 0, 0, 0, 0, [])) rfl).mpr ?_
  refine (rn_step (e := (.if_icmp .ne 44, 8, 49, 0, 0, 0, 0, [])) rfl).mpr (And.intro (fun c1 => ?_) (fun c1 => ?_))
  ·
    refine (rn_step (e := (.iconst 0, 9, 0, 0, 0, 0, 0, [])) rfl).mpr ?_
    refine (rn_step (e := (.istore_n 1, 10, 1, 0, 0, 0, 0, [])) rfl).mpr ?_
    exact (k1 c1)
  ·
    refine (rn_step (e := (.iconst 0, 50, 0, 0, 0, 0, 0, [])) rfl).mpr ?_
    refine (rn_step (e := (.istore_n 1, 51, 1, 0, 0, 0, 0, [])) rfl).mpr ?_
    exact (k2 c1)
set_option maxRecDepth 4000 in
theorem rb_Mo_records_10 {M : rn_M} {Q : rn_Q} {xl1 : Int} (hM : rn_sh M)   (hr1 : (xl1 < 2248) → (-2147483648 : Int) ≤ xl1 + 562 ∧ xl1 + 562 ≤ 2147483647 ∧ (0 : Int) ≤ xl1 + 562 ∧ xl1 + 562 < (2810 : Int) ∧ (0 : Int) ≤ xl1 ∧ xl1 < (2810 : Int) ∧ (-2147483648 : Int) ≤ xl1 + 1 ∧ xl1 + 1 ≤ 2147483647) (hr2 : (¬ (xl1 < 2248)) → (-2147483648 : Int) ≤ (rn_gi M 466 2) - 1 ∧ (rn_gi M 466 2) - 1 ≤ 2147483647) (k1 : (xl1 < 2248) → rn_WP 125 10 [rn_R 466, rn_I (xl1 + 1)] [] (rn_si M 468 (xl1).toNat (rn_gi M 468 (xl1 + 562).toNat)) Q) (k2 : (¬ (xl1 < 2248)) → rn_WP 125 51 [rn_R 466, rn_I 0] [] (rn_si M 466 2 ((rn_gi M 466 2) - 1)) Q) : rn_WP 125 10 [rn_R 466, rn_I xl1] [] M Q := by
  refine (rn_step (e := (.iload_n 1, 11, 1, 0, 0, 0, 0, [])) rfl).mpr ?_
  refine (rn_step (e := (.sipush 2248, 14, 0, 0, 0, 0, 0, [])) rfl).mpr ?_
  refine (rn_step (e := (.if_icmp .ge 25, 17, 39, 0, 0, 0, 0, [])) rfl).mpr (And.intro (fun c1 => ?_) (fun c1 => ?_))
  ·
    refine (rn_step (e := (.aload_n 0, 18, 0, 0, 0, 0, 0, [])) rfl).mpr ?_
    refine (rn_step (e := (.getfield 13, 21, 10, 1, 903, 2, 11, [])) rfl).mpr (And.intro ((rn_ks466 (M := M) hM)) (rn_cg (rn_g466_1 (M := M) hM) ?_))
    refine (rn_step (e := (.iload_n 1, 22, 1, 0, 0, 0, 0, [])) rfl).mpr ?_
    refine (rn_step (e := (.aload_n 0, 23, 0, 0, 0, 0, 0, [])) rfl).mpr ?_
    refine (rn_step (e := (.getfield 13, 26, 10, 1, 903, 2, 11, [])) rfl).mpr (And.intro ((rn_ks466 (M := M) hM)) (rn_cg (rn_g466_1 (M := M) hM) ?_))
    refine (rn_step (e := (.iload_n 1, 27, 1, 0, 0, 0, 0, [])) rfl).mpr ?_
    refine (rn_step (e := (.sipush 562, 30, 0, 0, 0, 0, 0, [])) rfl).mpr ?_
    refine (rn_step (e := (.iadd, 31, 0, 0, 0, 0, 0, [])) rfl).mpr (rn_cw (hr1 c1).1 (hr1 c1).2.1 ?_)
    refine (rn_step (e := (.iaload, 32, 0, 0, 0, 0, 0, [])) rfl).mpr (And.intro (Or.inl (rn_w468 (M := M) hM).1) (And.intro ((And.intro ((hr1 c1).2.2.1) (rn_lt (rn_w468 (M := M) hM).2 (hr1 c1).2.2.2.1))) (?_)))
    refine (rn_step (e := (.iastore, 33, 0, 0, 0, 0, 0, [])) rfl).mpr (And.intro ((rn_w468 (M := M) hM).1) (And.intro ((And.intro ((hr1 c1).2.2.2.2.1) (rn_lt (rn_w468 (M := M) hM).2 (hr1 c1).2.2.2.2.2.1))) (?_)))
    refine (rn_step (e := (.iinc 1 1, 36, 1, 0, 0, 0, 0, [])) rfl).mpr (rn_ci (hr1 c1).2.2.2.2.2.2.1 (hr1 c1).2.2.2.2.2.2.2 ?_)
    refine (rn_step (e := (.goto (-26), 39, 10, 0, 0, 0, 0, [])) rfl).mpr ?_
    exact (k1 c1)
  ·
    refine (rn_step (e := (.aload_n 0, 40, 0, 0, 0, 0, 0, [])) rfl).mpr ?_
    refine (rn_step (e := (.dup, 41, 0, 0, 0, 0, 0, [])) rfl).mpr ?_
    refine (rn_step (e := (.getfield 37, 44, 10, 2, 904, 0, 11, [])) rfl).mpr (And.intro ((rn_ks466 (M := M) hM)) (?_))
    refine (rn_step (e := (.iconst 1, 45, 0, 0, 0, 0, 0, [])) rfl).mpr ?_
    refine (rn_step (e := (.isub, 46, 0, 0, 0, 0, 0, [])) rfl).mpr (rn_cw (hr2 c1).1 (hr2 c1).2 ?_)
    refine (rn_step (e := (.putfield 37, 49, 10, 2, 904, 0, 11, [])) rfl).mpr (And.intro ((rn_ks466 (M := M) hM)) (?_))
    refine (rn_step (e := (.iconst 0, 50, 0, 0, 0, 0, 0, [])) rfl).mpr ?_
    refine (rn_step (e := (.istore_n 1, 51, 1, 0, 0, 0, 0, [])) rfl).mpr ?_
    exact (k2 c1)
set_option maxRecDepth 4000 in
theorem rb_Mo_records_51 {M : rn_M} {Q : rn_Q} {xl1 : Int} (hM : rn_sh M)   (hr1 : (xl1 < 562) → (-2147483648 : Int) ≤ 562 * (rn_gi M 466 2) ∧ 562 * (rn_gi M 466 2) ≤ 2147483647 ∧ (-2147483648 : Int) ≤ (562 * (rn_gi M 466 2)) + xl1 ∧ (562 * (rn_gi M 466 2)) + xl1 ≤ 2147483647 ∧ (0 : Int) ≤ xl1 ∧ xl1 < (562 : Int) ∧ (0 : Int) ≤ (562 * (rn_gi M 466 2)) + xl1 ∧ (562 * (rn_gi M 466 2)) + xl1 < (2810 : Int) ∧ (-2147483648 : Int) ≤ xl1 + 1 ∧ xl1 + 1 ≤ 2147483647) (hr2 : (¬ (xl1 < 562)) → (-2147483648 : Int) ≤ rn_gi M 466 2 + 1 ∧ rn_gi M 466 2 + 1 ≤ 2147483647) (k1 : (xl1 < 562) → rn_WP 125 51 [rn_R 466, rn_I (xl1 + 1)] [] (rn_si M 468 ((562 * (rn_gi M 466 2)) + xl1).toNat (rn_gi M 467 (xl1).toNat)) Q) (k2 : (¬ (xl1 < 562)) → Q none (rn_si M 466 2 (rn_gi M 466 2 + 1))) : rn_WP 125 51 [rn_R 466, rn_I xl1] [] M Q := by
  refine (rn_step (e := (.iload_n 1, 52, 1, 0, 0, 0, 0, [])) rfl).mpr ?_
  refine (rn_step (e := (.sipush 562, 55, 0, 0, 0, 0, 0, [])) rfl).mpr ?_
  refine (rn_step (e := (.if_icmp .ge 30, 58, 85, 0, 0, 0, 0, [])) rfl).mpr (And.intro (fun c1 => ?_) (fun c1 => ?_))
  ·
    refine (rn_step (e := (.aload_n 0, 59, 0, 0, 0, 0, 0, [])) rfl).mpr ?_
    refine (rn_step (e := (.getfield 13, 62, 10, 1, 903, 2, 11, [])) rfl).mpr (And.intro ((rn_ks466 (M := M) hM)) (rn_cg (rn_g466_1 (M := M) hM) ?_))
    refine (rn_step (e := (.sipush 562, 65, 0, 0, 0, 0, 0, [])) rfl).mpr ?_
    refine (rn_step (e := (.aload_n 0, 66, 0, 0, 0, 0, 0, [])) rfl).mpr ?_
    refine (rn_step (e := (.getfield 37, 69, 10, 2, 904, 0, 11, [])) rfl).mpr (And.intro ((rn_ks466 (M := M) hM)) (?_))
    refine (rn_step (e := (.imul, 70, 0, 0, 0, 0, 0, [])) rfl).mpr (rn_cw (hr1 c1).1 (hr1 c1).2.1 ?_)
    refine (rn_step (e := (.iload_n 1, 71, 1, 0, 0, 0, 0, [])) rfl).mpr ?_
    refine (rn_step (e := (.iadd, 72, 0, 0, 0, 0, 0, [])) rfl).mpr (rn_cw (hr1 c1).2.2.1 (hr1 c1).2.2.2.1 ?_)
    refine (rn_step (e := (.aload_n 0, 73, 0, 0, 0, 0, 0, [])) rfl).mpr ?_
    refine (rn_step (e := (.getfield 7, 76, 10, 0, 902, 2, 11, [])) rfl).mpr (And.intro ((rn_ks466 (M := M) hM)) (rn_cg (rn_g466_0 (M := M) hM) ?_))
    refine (rn_step (e := (.iload_n 1, 77, 1, 0, 0, 0, 0, [])) rfl).mpr ?_
    refine (rn_step (e := (.iaload, 78, 0, 0, 0, 0, 0, [])) rfl).mpr (And.intro (Or.inl (rn_w467 (M := M) hM).1) (And.intro ((And.intro ((hr1 c1).2.2.2.2.1) (rn_lt (rn_w467 (M := M) hM).2 (hr1 c1).2.2.2.2.2.1))) (?_)))
    refine (rn_step (e := (.iastore, 79, 0, 0, 0, 0, 0, [])) rfl).mpr (And.intro ((rn_w468 (M := M) hM).1) (And.intro ((And.intro ((hr1 c1).2.2.2.2.2.2.1) (rn_lt (rn_w468 (M := M) hM).2 (hr1 c1).2.2.2.2.2.2.2.1))) (?_)))
    refine (rn_step (e := (.iinc 1 1, 82, 1, 0, 0, 0, 0, [])) rfl).mpr (rn_ci (hr1 c1).2.2.2.2.2.2.2.2.1 (hr1 c1).2.2.2.2.2.2.2.2.2 ?_)
    refine (rn_step (e := (.goto (-31), 85, 51, 0, 0, 0, 0, [])) rfl).mpr ?_
    exact (k1 c1)
  ·
    refine (rn_step (e := (.aload_n 0, 86, 0, 0, 0, 0, 0, [])) rfl).mpr ?_
    refine (rn_step (e := (.dup, 87, 0, 0, 0, 0, 0, [])) rfl).mpr ?_
    refine (rn_step (e := (.getfield 37, 90, 10, 2, 904, 0, 11, [])) rfl).mpr (And.intro ((rn_ks466 (M := M) hM)) (?_))
    refine (rn_step (e := (.iconst 1, 91, 0, 0, 0, 0, 0, [])) rfl).mpr ?_
    refine (rn_step (e := (.iadd, 92, 0, 0, 0, 0, 0, [])) rfl).mpr (rn_cw (hr2 c1).1 (hr2 c1).2 ?_)
    refine (rn_step (e := (.putfield 37, 95, 10, 2, 904, 0, 11, [])) rfl).mpr (And.intro ((rn_ks466 (M := M) hM)) (?_))
    exact (rn_step (e := (.return_, 96, 0, 0, 0, 0, 0, [])) rfl).mpr (k2 c1)
theorem re_Mo_undo {M : rn_M} {Q : rn_Q} {v0 : rn_V} (h : rn_WP 126 0 [v0, rn_J] [] M Q) : rn_ME 126 [v0] M Q := h
set_option maxRecDepth 4000 in
theorem rb_Mo_undo_0 {M : rn_M} {Q : rn_Q} {vl1 : rn_V} (hM : rn_sh M)   (hr1 : (¬ (rn_gi M 466 2 = 0)) → (-2147483648 : Int) ≤ (rn_gi M 466 2) - 1 ∧ (rn_gi M 466 2) - 1 ≤ 2147483647) (k1 : (rn_gi M 466 2 = 0) → Q (some (rn_I (-2))) M) (k2 : (¬ (rn_gi M 466 2 = 0)) → rn_WP 126 22 [rn_R 466, rn_I 0] [] (rn_si M 466 2 ((rn_gi M 466 2) - 1)) Q) : rn_WP 126 0 [rn_R 466, vl1] [] M Q := by
  refine (rn_step (e := (.aload_n 0, 1, 0, 0, 0, 0, 0, [])) rfl).mpr ?_
  refine (rn_step (e := (.getfield 37, 4, 10, 2, 904, 0, 11, [])) rfl).mpr (And.intro ((rn_ks466 (M := M) hM)) (?_))
  refine (rn_step (e := (.ifCond .ne 6, 7, 10, 0, 0, 0, 0, [])) rfl).mpr (And.intro (fun c1 => ?_) (fun c1 => ?_))
  ·
    refine (rn_step (e := (.bipush (-2), 9, 0, 0, 0, 0, 0, [])) rfl).mpr ?_
    exact (rn_step (e := (.ireturn, 10, 0, 0, 0, 0, 0, [])) rfl).mpr (And.intro (trivial) ((k1 c1)))
  ·
    refine (rn_step (e := (.aload_n 0, 11, 0, 0, 0, 0, 0, [])) rfl).mpr ?_
    refine (rn_step (e := (.dup, 12, 0, 0, 0, 0, 0, [])) rfl).mpr ?_
    refine (rn_step (e := (.getfield 37, 15, 10, 2, 904, 0, 11, [])) rfl).mpr (And.intro ((rn_ks466 (M := M) hM)) (?_))
    refine (rn_step (e := (.iconst 1, 16, 0, 0, 0, 0, 0, [])) rfl).mpr ?_
    refine (rn_step (e := (.isub, 17, 0, 0, 0, 0, 0, [])) rfl).mpr (rn_cw (hr1 c1).1 (hr1 c1).2 ?_)
    refine (rn_step (e := (.putfield 37, 20, 10, 2, 904, 0, 11, [])) rfl).mpr (And.intro ((rn_ks466 (M := M) hM)) (?_))
    refine (rn_step (e := (.iconst 0, 21, 0, 0, 0, 0, 0, [])) rfl).mpr ?_
    refine (rn_step (e := (.istore_n 1, 22, 1, 0, 0, 0, 0, [])) rfl).mpr ?_
    exact (k2 c1)
set_option maxRecDepth 4000 in
theorem rb_Mo_undo_22 {M : rn_M} {Q : rn_Q} {xl1 : Int} (hM : rn_sh M)   (hr1 : (xl1 < 562) → (-2147483648 : Int) ≤ 562 * (rn_gi M 466 2) ∧ 562 * (rn_gi M 466 2) ≤ 2147483647 ∧ (-2147483648 : Int) ≤ (562 * (rn_gi M 466 2)) + xl1 ∧ (562 * (rn_gi M 466 2)) + xl1 ≤ 2147483647 ∧ (0 : Int) ≤ (562 * (rn_gi M 466 2)) + xl1 ∧ (562 * (rn_gi M 466 2)) + xl1 < (2810 : Int) ∧ (0 : Int) ≤ xl1 ∧ xl1 < (562 : Int) ∧ (-2147483648 : Int) ≤ xl1 + 1 ∧ xl1 + 1 ≤ 2147483647) (k1 : (xl1 < 562) → rn_WP 126 22 [rn_R 466, rn_I (xl1 + 1)] [] (rn_si M 467 (xl1).toNat (rn_gi M 468 ((562 * (rn_gi M 466 2)) + xl1).toNat)) Q) (k2 : (¬ (xl1 < 562)) → Q (some (rn_I (rn_gi M 466 2))) M) : rn_WP 126 22 [rn_R 466, rn_I xl1] [] M Q := by
  refine (rn_step (e := (.iload_n 1, 23, 1, 0, 0, 0, 0, [])) rfl).mpr ?_
  refine (rn_step (e := (.sipush 562, 26, 0, 0, 0, 0, 0, [])) rfl).mpr ?_
  refine (rn_step (e := (.if_icmp .ge 30, 29, 56, 0, 0, 0, 0, [])) rfl).mpr (And.intro (fun c1 => ?_) (fun c1 => ?_))
  ·
    refine (rn_step (e := (.aload_n 0, 30, 0, 0, 0, 0, 0, [])) rfl).mpr ?_
    refine (rn_step (e := (.getfield 7, 33, 10, 0, 902, 2, 11, [])) rfl).mpr (And.intro ((rn_ks466 (M := M) hM)) (rn_cg (rn_g466_0 (M := M) hM) ?_))
    refine (rn_step (e := (.iload_n 1, 34, 1, 0, 0, 0, 0, [])) rfl).mpr ?_
    refine (rn_step (e := (.aload_n 0, 35, 0, 0, 0, 0, 0, [])) rfl).mpr ?_
    refine (rn_step (e := (.getfield 13, 38, 10, 1, 903, 2, 11, [])) rfl).mpr (And.intro ((rn_ks466 (M := M) hM)) (rn_cg (rn_g466_1 (M := M) hM) ?_))
    refine (rn_step (e := (.sipush 562, 41, 0, 0, 0, 0, 0, [])) rfl).mpr ?_
    refine (rn_step (e := (.aload_n 0, 42, 0, 0, 0, 0, 0, [])) rfl).mpr ?_
    refine (rn_step (e := (.getfield 37, 45, 10, 2, 904, 0, 11, [])) rfl).mpr (And.intro ((rn_ks466 (M := M) hM)) (?_))
    refine (rn_step (e := (.imul, 46, 0, 0, 0, 0, 0, [])) rfl).mpr (rn_cw (hr1 c1).1 (hr1 c1).2.1 ?_)
    refine (rn_step (e := (.iload_n 1, 47, 1, 0, 0, 0, 0, [])) rfl).mpr ?_
    refine (rn_step (e := (.iadd, 48, 0, 0, 0, 0, 0, [])) rfl).mpr (rn_cw (hr1 c1).2.2.1 (hr1 c1).2.2.2.1 ?_)
    refine (rn_step (e := (.iaload, 49, 0, 0, 0, 0, 0, [])) rfl).mpr (And.intro (Or.inl (rn_w468 (M := M) hM).1) (And.intro ((And.intro ((hr1 c1).2.2.2.2.1) (rn_lt (rn_w468 (M := M) hM).2 (hr1 c1).2.2.2.2.2.1))) (?_)))
    refine (rn_step (e := (.iastore, 50, 0, 0, 0, 0, 0, [])) rfl).mpr (And.intro ((rn_w467 (M := M) hM).1) (And.intro ((And.intro ((hr1 c1).2.2.2.2.2.2.1) (rn_lt (rn_w467 (M := M) hM).2 (hr1 c1).2.2.2.2.2.2.2.1))) (?_)))
    refine (rn_step (e := (.iinc 1 1, 53, 1, 0, 0, 0, 0, [])) rfl).mpr (rn_ci (hr1 c1).2.2.2.2.2.2.2.2.1 (hr1 c1).2.2.2.2.2.2.2.2.2 ?_)
    refine (rn_step (e := (.goto (-31), 56, 22, 0, 0, 0, 0, [])) rfl).mpr ?_
    exact (k1 c1)
  ·
    refine (rn_step (e := (.aload_n 0, 57, 0, 0, 0, 0, 0, [])) rfl).mpr ?_
    refine (rn_step (e := (.getfield 37, 60, 10, 2, 904, 0, 11, [])) rfl).mpr (And.intro ((rn_ks466 (M := M) hM)) (?_))
    exact (rn_step (e := (.ireturn, 61, 0, 0, 0, 0, 0, [])) rfl).mpr (And.intro (trivial) ((k2 c1)))
theorem re_Mo_walks {M : rn_M} {Q : rn_Q} {v0 v1 : rn_V} (h : rn_WP 133 0 [v0, v1, rn_J] [] M Q) : rn_ME 133 [v0, v1] M Q := h
set_option maxRecDepth 4000 in
theorem rb_Mo_walks_0 {M : rn_M} {Q : rn_Q} {xl1 : Int} {vl2 : rn_V} (hM : rn_sh M)   (hr1 : ((0 : Int) ≤ xl1 ∧ (xl1 : Int) ≤ 5) ∧ ((0 : Int) ≤ 3 ∧ (3 : Int) ≤ 77) ∧ ((0 : Int) ≤ 4 ∧ (4 : Int) ≤ 77)) (k1 : rn_WP 133 26 [rn_R 466, rn_I xl1, rn_I 0] [] (rn_si (rn_si M 470 0 (rn_o (rn_gi M 467) xl1 3)) 471 0 (rn_o (rn_gi M 467) xl1 4)) Q) : rn_WP 133 0 [rn_R 466, rn_I xl1, vl2] [] M Q := by
  refine (rn_step (e := (.aload_n 0, 1, 0, 0, 0, 0, 0, [])) rfl).mpr ?_
  refine (rn_step (e := (.getfield 19, 4, 10, 5, 907, 2, 11, [])) rfl).mpr (And.intro ((rn_ks466 (M := M) hM)) (rn_cg (rn_g466_5 (M := M) hM) ?_))
  refine (rn_step (e := (.iconst 0, 5, 0, 0, 0, 0, 0, [])) rfl).mpr ?_
  refine (rn_step (e := (.aload_n 0, 6, 0, 0, 0, 0, 0, [])) rfl).mpr ?_
  refine (rn_step (e := (.iload_n 1, 7, 1, 0, 0, 0, 0, [])) rfl).mpr ?_
  refine (rn_step (e := (.iconst 3, 8, 0, 0, 0, 0, 0, [])) rfl).mpr ?_
  refine (rn_step (e := (.invokevirtual 49, 11, 129, 3, 1002, 0, 11, [0])) rfl).mpr (And.intro ((rn_ks466 (M := M) hM)) ((rc_Mo_of hM (hr1.1) (hr1.2.1) ?_)))
  refine (rn_step (e := (.iastore, 12, 0, 0, 0, 0, 0, [])) rfl).mpr (And.intro ((rn_w470 (M := M) hM).1) (And.intro ((And.intro ((by decide)) (rn_lt (rn_w470 (M := M) hM).2 (by decide)))) (?_)))
  refine (rn_step (e := (.aload_n 0, 13, 0, 0, 0, 0, 0, [])) rfl).mpr ?_
  refine (rn_step (e := (.getfield 22, 16, 10, 6, 908, 2, 11, [])) rfl).mpr (And.intro ((rn_ks466 (M := M) hM)) (rn_cg (rn_g466_6 (M := M) hM) ?_))
  refine (rn_step (e := (.iconst 0, 17, 0, 0, 0, 0, 0, [])) rfl).mpr ?_
  refine (rn_step (e := (.aload_n 0, 18, 0, 0, 0, 0, 0, [])) rfl).mpr ?_
  refine (rn_step (e := (.iload_n 1, 19, 1, 0, 0, 0, 0, [])) rfl).mpr ?_
  refine (rn_step (e := (.iconst 4, 20, 0, 0, 0, 0, 0, [])) rfl).mpr ?_
  refine (rn_step (e := (.invokevirtual 49, 23, 129, 3, 1002, 0, 11, [0])) rfl).mpr (And.intro ((rn_ks466 (M := M) hM)) ((rc_Mo_of (M := (rn_si M 470 0 (rn_o (rn_gi M 467) xl1 3))) hM (hr1.1) (hr1.2.2) (rn_cv (by rw [rn_si_gif (a := 470) (b := 467) (by decide)]) ?_))))
  refine (rn_step (e := (.iastore, 24, 0, 0, 0, 0, 0, [])) rfl).mpr (And.intro ((rn_w471 (M := M) hM).1) (And.intro ((And.intro ((by decide)) (rn_lt (rn_w471 (M := M) hM).2 (by decide)))) (?_)))
  refine (rn_step (e := (.iconst 0, 25, 0, 0, 0, 0, 0, [])) rfl).mpr ?_
  refine (rn_step (e := (.istore_n 2, 26, 2, 0, 0, 0, 0, [])) rfl).mpr ?_
  exact k1
set_option maxRecDepth 4000 in
theorem rb_Mo_walks_26 {M : rn_M} {Q : rn_Q} {xl1 : Int} {xl2 : Int} (hM : rn_sh M)   (hr1 : ((0 : Int) ≤ xl1 ∧ (xl1 : Int) ≤ 5) ∧ ((0 : Int) ≤ 5 ∧ (5 : Int) ≤ 77)) (hr2 : (xl2 < rn_o (rn_gi M 467) xl1 5) → (-2147483648 : Int) ≤ xl2 + 1 ∧ xl2 + 1 ≤ 2147483647 ∧ (0 : Int) ≤ xl2 ∧ xl2 < (61 : Int) ∧ (-2147483648 : Int) ≤ 18 + xl2 ∧ 18 + xl2 ≤ 2147483647 ∧ ((0 : Int) ≤ xl1 ∧ (xl1 : Int) ≤ 5) ∧ ((0 : Int) ≤ 18 + xl2 ∧ (18 + xl2 : Int) ≤ 77) ∧ (-2147483648 : Int) ≤ rn_gi M 470 (xl2).toNat + (rn_sx (rn_o (rn_gi M 467) xl1 (18 + xl2))) ∧ rn_gi M 470 (xl2).toNat + (rn_sx (rn_o (rn_gi M 467) xl1 (18 + xl2))) ≤ 2147483647 ∧ (0 : Int) ≤ xl2 + 1 ∧ xl2 + 1 < (61 : Int) ∧ (-2147483648 : Int) ≤ rn_gi M 471 (xl2).toNat + (rn_sy (rn_o (rn_gi M 467) xl1 (18 + xl2))) ∧ rn_gi M 471 (xl2).toNat + (rn_sy (rn_o (rn_gi M 467) xl1 (18 + xl2))) ≤ 2147483647) (k1 : (xl2 < rn_o (rn_gi M 467) xl1 5) → rn_WP 133 26 [rn_R 466, rn_I xl1, rn_I (xl2 + 1)] [] (rn_si (rn_si M 470 (xl2 + 1).toNat (rn_gi M 470 (xl2).toNat + (rn_sx (rn_o (rn_gi M 467) xl1 (18 + xl2))))) 471 (xl2 + 1).toNat (rn_gi M 471 (xl2).toNat + (rn_sy (rn_o (rn_gi M 467) xl1 (18 + xl2))))) Q) (k2 : (¬ (xl2 < rn_o (rn_gi M 467) xl1 5)) → Q none M) : rn_WP 133 26 [rn_R 466, rn_I xl1, rn_I xl2] [] M Q := by
  refine (rn_step (e := (.iload_n 2, 27, 2, 0, 0, 0, 0, [])) rfl).mpr ?_
  refine (rn_step (e := (.aload_n 0, 28, 0, 0, 0, 0, 0, [])) rfl).mpr ?_
  refine (rn_step (e := (.iload_n 1, 29, 1, 0, 0, 0, 0, [])) rfl).mpr ?_
  refine (rn_step (e := (.iconst 5, 30, 0, 0, 0, 0, 0, [])) rfl).mpr ?_
  refine (rn_step (e := (.invokevirtual 49, 33, 129, 3, 1002, 0, 11, [0])) rfl).mpr (And.intro ((rn_ks466 (M := M) hM)) ((rc_Mo_of hM (hr1.1) (hr1.2) ?_)))
  refine (rn_step (e := (.if_icmp .ge 63, 36, 96, 0, 0, 0, 0, [])) rfl).mpr (And.intro (fun c1 => ?_) (fun c1 => ?_))
  ·
    refine (rn_step (e := (.aload_n 0, 37, 0, 0, 0, 0, 0, [])) rfl).mpr ?_
    refine (rn_step (e := (.getfield 19, 40, 10, 5, 907, 2, 11, [])) rfl).mpr (And.intro ((rn_ks466 (M := M) hM)) (rn_cg (rn_g466_5 (M := M) hM) ?_))
    refine (rn_step (e := (.iload_n 2, 41, 2, 0, 0, 0, 0, [])) rfl).mpr ?_
    refine (rn_step (e := (.iconst 1, 42, 0, 0, 0, 0, 0, [])) rfl).mpr ?_
    refine (rn_step (e := (.iadd, 43, 0, 0, 0, 0, 0, [])) rfl).mpr (rn_cw (hr2 c1).1 (hr2 c1).2.1 ?_)
    refine (rn_step (e := (.aload_n 0, 44, 0, 0, 0, 0, 0, [])) rfl).mpr ?_
    refine (rn_step (e := (.getfield 19, 47, 10, 5, 907, 2, 11, [])) rfl).mpr (And.intro ((rn_ks466 (M := M) hM)) (rn_cg (rn_g466_5 (M := M) hM) ?_))
    refine (rn_step (e := (.iload_n 2, 48, 2, 0, 0, 0, 0, [])) rfl).mpr ?_
    refine (rn_step (e := (.iaload, 49, 0, 0, 0, 0, 0, [])) rfl).mpr (And.intro (Or.inl (rn_w470 (M := M) hM).1) (And.intro ((And.intro ((hr2 c1).2.2.1) (rn_lt (rn_w470 (M := M) hM).2 (hr2 c1).2.2.2.1))) (?_)))
    refine (rn_step (e := (.aload_n 0, 50, 0, 0, 0, 0, 0, [])) rfl).mpr ?_
    refine (rn_step (e := (.iload_n 1, 51, 1, 0, 0, 0, 0, [])) rfl).mpr ?_
    refine (rn_step (e := (.bipush 18, 53, 0, 0, 0, 0, 0, [])) rfl).mpr ?_
    refine (rn_step (e := (.iload_n 2, 54, 2, 0, 0, 0, 0, [])) rfl).mpr ?_
    refine (rn_step (e := (.iadd, 55, 0, 0, 0, 0, 0, [])) rfl).mpr (rn_cw (hr2 c1).2.2.2.2.1 (hr2 c1).2.2.2.2.2.1 ?_)
    refine (rn_step (e := (.invokevirtual 49, 58, 129, 3, 1002, 0, 11, [0])) rfl).mpr (And.intro ((rn_ks466 (M := M) hM)) ((rc_Mo_of hM ((hr2 c1).2.2.2.2.2.2.1) ((hr2 c1).2.2.2.2.2.2.2.1) ?_)))
    refine (rn_step (e := (.invokestatic 53, 61, 130, 1, 1006, 0, 11, [0])) rfl).mpr (rc_Mo_stepX  ?_)
    refine (rn_step (e := (.iadd, 62, 0, 0, 0, 0, 0, [])) rfl).mpr (rn_cw (hr2 c1).2.2.2.2.2.2.2.2.1 (hr2 c1).2.2.2.2.2.2.2.2.2.1 ?_)
    refine (rn_step (e := (.iastore, 63, 0, 0, 0, 0, 0, [])) rfl).mpr (And.intro ((rn_w470 (M := M) hM).1) (And.intro ((And.intro ((hr2 c1).2.2.2.2.2.2.2.2.2.2.1) (rn_lt (rn_w470 (M := M) hM).2 (hr2 c1).2.2.2.2.2.2.2.2.2.2.2.1))) (?_)))
    refine (rn_step (e := (.aload_n 0, 64, 0, 0, 0, 0, 0, [])) rfl).mpr ?_
    refine (rn_step (e := (.getfield 22, 67, 10, 6, 908, 2, 11, [])) rfl).mpr (And.intro ((rn_ks466 (M := M) hM)) (rn_cg (rn_g466_6 (M := M) hM) ?_))
    refine (rn_step (e := (.iload_n 2, 68, 2, 0, 0, 0, 0, [])) rfl).mpr ?_
    refine (rn_step (e := (.iconst 1, 69, 0, 0, 0, 0, 0, [])) rfl).mpr ?_
    refine (rn_step (e := (.iadd, 70, 0, 0, 0, 0, 0, [])) rfl).mpr (rn_cw (hr2 c1).1 (hr2 c1).2.1 ?_)
    refine (rn_step (e := (.aload_n 0, 71, 0, 0, 0, 0, 0, [])) rfl).mpr ?_
    refine (rn_step (e := (.getfield 22, 74, 10, 6, 908, 2, 11, [])) rfl).mpr (And.intro ((rn_ks466 (M := M) hM)) (rn_cg (rn_g466_6 (M := M) hM) ?_))
    refine (rn_step (e := (.iload_n 2, 75, 2, 0, 0, 0, 0, [])) rfl).mpr ?_
    refine (rn_step (e := (.iaload, 76, 0, 0, 0, 0, 0, [])) rfl).mpr (And.intro (Or.inl (rn_w471 (M := M) hM).1) (And.intro ((And.intro ((hr2 c1).2.2.1) (rn_lt (rn_w471 (M := M) hM).2 (hr2 c1).2.2.2.1))) (rn_cv (by rw [rn_si_gif (a := 470) (b := 471) (by decide)]) ?_)))
    refine (rn_step (e := (.aload_n 0, 77, 0, 0, 0, 0, 0, [])) rfl).mpr ?_
    refine (rn_step (e := (.iload_n 1, 78, 1, 0, 0, 0, 0, [])) rfl).mpr ?_
    refine (rn_step (e := (.bipush 18, 80, 0, 0, 0, 0, 0, [])) rfl).mpr ?_
    refine (rn_step (e := (.iload_n 2, 81, 2, 0, 0, 0, 0, [])) rfl).mpr ?_
    refine (rn_step (e := (.iadd, 82, 0, 0, 0, 0, 0, [])) rfl).mpr (rn_cw (hr2 c1).2.2.2.2.1 (hr2 c1).2.2.2.2.2.1 ?_)
    refine (rn_step (e := (.invokevirtual 49, 85, 129, 3, 1002, 0, 11, [0])) rfl).mpr (And.intro ((rn_ks466 (M := M) hM)) ((rc_Mo_of (M := (rn_si M 470 (xl2 + 1).toNat (rn_gi M 470 (xl2).toNat + (rn_sx (rn_o (rn_gi M 467) xl1 (18 + xl2)))))) hM ((hr2 c1).2.2.2.2.2.2.1) ((hr2 c1).2.2.2.2.2.2.2.1) (rn_cv (by rw [rn_si_gif (a := 470) (b := 467) (by decide)]) ?_))))
    refine (rn_step (e := (.invokestatic 56, 88, 131, 1, 1009, 0, 11, [0])) rfl).mpr (rc_Mo_stepY  ?_)
    refine (rn_step (e := (.iadd, 89, 0, 0, 0, 0, 0, [])) rfl).mpr (rn_cw (hr2 c1).2.2.2.2.2.2.2.2.2.2.2.2.1 (hr2 c1).2.2.2.2.2.2.2.2.2.2.2.2.2 ?_)
    refine (rn_step (e := (.iastore, 90, 0, 0, 0, 0, 0, [])) rfl).mpr (And.intro ((rn_w471 (M := M) hM).1) (And.intro ((And.intro ((hr2 c1).2.2.2.2.2.2.2.2.2.2.1) (rn_lt (rn_w471 (M := M) hM).2 (hr2 c1).2.2.2.2.2.2.2.2.2.2.2.1))) (?_)))
    refine (rn_step (e := (.iinc 2 1, 93, 2, 0, 0, 0, 0, [])) rfl).mpr (rn_ci (hr2 c1).1 (hr2 c1).2.1 ?_)
    refine (rn_step (e := (.goto (-67), 96, 26, 0, 0, 0, 0, [])) rfl).mpr ?_
    exact (k1 c1)
  ·
    exact (rn_step (e := (.return_, 97, 0, 0, 0, 0, 0, [])) rfl).mpr (k2 c1)
theorem re_Mo_comesRiver {M : rn_M} {Q : rn_Q} {v0 v1 v2 v3 v4 v5 : rn_V} (h : rn_WP 136 0 [v0, v1, v2, v3, v4, v5, rn_J, rn_J] [] M Q) : rn_ME 136 [v0, v1, v2, v3, v4, v5] M Q := h
set_option maxRecDepth 4000 in
theorem rb_Mo_comesRiver_0 {M : rn_M} {Q : rn_Q} {vl1 : rn_V} {vl2 : rn_V} {vl3 : rn_V} {vl4 : rn_V} {vl5 : rn_V} {vl6 : rn_V} {vl7 : rn_V} (hM : rn_sh M)   (hr1 : ((0 : Int) ≤ rn_gi M 467 0 ∧ (rn_gi M 467 0 : Int) ≤ 10)) (k1 : rn_WP 136 14 [rn_R 466, vl1, vl2, vl3, vl4, vl5, rn_I (4 + 78 * (rn_gi M 467 0)), rn_I 0] [] M Q) : rn_WP 136 0 [rn_R 466, vl1, vl2, vl3, vl4, vl5, vl6, vl7] [] M Q := by
  refine (rn_step (e := (.aload_n 0, 1, 0, 0, 0, 0, 0, [])) rfl).mpr ?_
  refine (rn_step (e := (.getfield 7, 4, 10, 0, 902, 2, 11, [])) rfl).mpr (And.intro ((rn_ks466 (M := M) hM)) (rn_cg (rn_g466_0 (M := M) hM) ?_))
  refine (rn_step (e := (.iconst 0, 5, 0, 0, 0, 0, 0, [])) rfl).mpr ?_
  refine (rn_step (e := (.iaload, 6, 0, 0, 0, 0, 0, [])) rfl).mpr (And.intro (Or.inl (rn_w467 (M := M) hM).1) (And.intro ((And.intro ((by decide)) (rn_lt (rn_w467 (M := M) hM).2 (by decide)))) (?_)))
  refine (rn_step (e := (.invokestatic 45, 9, 128, 1, 976, 0, 11, [0])) rfl).mpr (rc_Mo_riverAt (hr1) ?_)
  refine (rn_step (e := (.istore 6, 11, 6, 0, 0, 0, 0, [])) rfl).mpr ?_
  refine (rn_step (e := (.iconst 0, 12, 0, 0, 0, 0, 0, [])) rfl).mpr ?_
  refine (rn_step (e := (.istore 7, 14, 7, 0, 0, 0, 0, [])) rfl).mpr ?_
  exact k1
set_option maxRecDepth 4000 in
theorem rb_Mo_comesRiver_14 {M : rn_M} {Q : rn_Q} {xl1 : Int} {xl2 : Int} {xl3 : Int} {xl4 : Int} {xl5 : Int} {xl6 : Int} {xl7 : Int} (hM : rn_sh M)   (hr1 : (xl7 < 78) → (-2147483648 : Int) ≤ xl6 + xl7 ∧ xl6 + xl7 ≤ 2147483647 ∧ (0 : Int) ≤ xl6 + xl7 ∧ xl6 + xl7 < (562 : Int) ∧ (-2147483648 : Int) ≤ xl7 + 1 ∧ xl7 + 1 ≤ 2147483647) (hr2 : (¬ (xl7 < 78)) → (-2147483648 : Int) ≤ xl6 + 0 ∧ xl6 + 0 ≤ 2147483647 ∧ (0 : Int) ≤ xl6 + 0 ∧ xl6 + 0 < (562 : Int) ∧ (-2147483648 : Int) ≤ xl6 + 1 ∧ xl6 + 1 ≤ 2147483647 ∧ (0 : Int) ≤ xl6 + 1 ∧ xl6 + 1 < (562 : Int) ∧ (-2147483648 : Int) ≤ xl6 + 2 ∧ xl6 + 2 ≤ 2147483647 ∧ (0 : Int) ≤ xl6 + 2 ∧ xl6 + 2 < (562 : Int) ∧ (-2147483648 : Int) ≤ xl6 + 3 ∧ xl6 + 3 ≤ 2147483647 ∧ (0 : Int) ≤ xl6 + 3 ∧ xl6 + 3 < (562 : Int) ∧ (-2147483648 : Int) ≤ xl6 + 4 ∧ xl6 + 4 ≤ 2147483647 ∧ (0 : Int) ≤ xl6 + 4 ∧ xl6 + 4 < (562 : Int)) (k1 : (xl7 < 78) → rn_WP 136 14 [rn_R 466, rn_I xl1, rn_I xl2, rn_I xl3, rn_I xl4, rn_I xl5, rn_I xl6, rn_I (xl7 + 1)] [] (rn_si M 467 (xl6 + xl7).toNat 0) Q) (k2 : (¬ (xl7 < 78)) → rn_WP 136 93 [rn_R 466, rn_I xl1, rn_I xl2, rn_I xl3, rn_I xl4, rn_I xl5, rn_I xl6, rn_I 0] [] (rn_si (rn_si (rn_si (rn_si (rn_si M 467 (xl6 + 0).toNat xl1) 467 (xl6 + 1).toNat xl4) 467 (xl6 + 2).toNat xl5) 467 (xl6 + 3).toNat xl2) 467 (xl6 + 4).toNat xl3) Q) : rn_WP 136 14 [rn_R 466, rn_I xl1, rn_I xl2, rn_I xl3, rn_I xl4, rn_I xl5, rn_I xl6, rn_I xl7] [] M Q := by
  refine (rn_step (e := (.iload 7, 16, 7, 0, 0, 0, 0, [])) rfl).mpr ?_
  refine (rn_step (e := (.bipush 78, 18, 0, 0, 0, 0, 0, [])) rfl).mpr ?_
  refine (rn_step (e := (.if_icmp .ge 20, 21, 38, 0, 0, 0, 0, [])) rfl).mpr (And.intro (fun c1 => ?_) (fun c1 => ?_))
  ·
    refine (rn_step (e := (.aload_n 0, 22, 0, 0, 0, 0, 0, [])) rfl).mpr ?_
    refine (rn_step (e := (.getfield 7, 25, 10, 0, 902, 2, 11, [])) rfl).mpr (And.intro ((rn_ks466 (M := M) hM)) (rn_cg (rn_g466_0 (M := M) hM) ?_))
    refine (rn_step (e := (.iload 6, 27, 6, 0, 0, 0, 0, [])) rfl).mpr ?_
    refine (rn_step (e := (.iload 7, 29, 7, 0, 0, 0, 0, [])) rfl).mpr ?_
    refine (rn_step (e := (.iadd, 30, 0, 0, 0, 0, 0, [])) rfl).mpr (rn_cw (hr1 c1).1 (hr1 c1).2.1 ?_)
    refine (rn_step (e := (.iconst 0, 31, 0, 0, 0, 0, 0, [])) rfl).mpr ?_
    refine (rn_step (e := (.iastore, 32, 0, 0, 0, 0, 0, [])) rfl).mpr (And.intro ((rn_w467 (M := M) hM).1) (And.intro ((And.intro ((hr1 c1).2.2.1) (rn_lt (rn_w467 (M := M) hM).2 (hr1 c1).2.2.2.1))) (?_)))
    refine (rn_step (e := (.iinc 7 1, 35, 7, 0, 0, 0, 0, [])) rfl).mpr (rn_ci (hr1 c1).2.2.2.2.1 (hr1 c1).2.2.2.2.2 ?_)
    refine (rn_step (e := (.goto (-21), 38, 14, 0, 0, 0, 0, [])) rfl).mpr ?_
    exact (k1 c1)
  ·
    refine (rn_step (e := (.aload_n 0, 39, 0, 0, 0, 0, 0, [])) rfl).mpr ?_
    refine (rn_step (e := (.getfield 7, 42, 10, 0, 902, 2, 11, [])) rfl).mpr (And.intro ((rn_ks466 (M := M) hM)) (rn_cg (rn_g466_0 (M := M) hM) ?_))
    refine (rn_step (e := (.iload 6, 44, 6, 0, 0, 0, 0, [])) rfl).mpr ?_
    refine (rn_step (e := (.iconst 0, 45, 0, 0, 0, 0, 0, [])) rfl).mpr ?_
    refine (rn_step (e := (.iadd, 46, 0, 0, 0, 0, 0, [])) rfl).mpr (rn_cw (hr2 c1).1 (hr2 c1).2.1 ?_)
    refine (rn_step (e := (.iload_n 1, 47, 1, 0, 0, 0, 0, [])) rfl).mpr ?_
    refine (rn_step (e := (.iastore, 48, 0, 0, 0, 0, 0, [])) rfl).mpr (And.intro ((rn_w467 (M := M) hM).1) (And.intro ((And.intro ((hr2 c1).2.2.1) (rn_lt (rn_w467 (M := M) hM).2 (hr2 c1).2.2.2.1))) (?_)))
    refine (rn_step (e := (.aload_n 0, 49, 0, 0, 0, 0, 0, [])) rfl).mpr ?_
    refine (rn_step (e := (.getfield 7, 52, 10, 0, 902, 2, 11, [])) rfl).mpr (And.intro ((rn_ks466 (M := M) hM)) (rn_cg (rn_g466_0 (M := M) hM) ?_))
    refine (rn_step (e := (.iload 6, 54, 6, 0, 0, 0, 0, [])) rfl).mpr ?_
    refine (rn_step (e := (.iconst 1, 55, 0, 0, 0, 0, 0, [])) rfl).mpr ?_
    refine (rn_step (e := (.iadd, 56, 0, 0, 0, 0, 0, [])) rfl).mpr (rn_cw (hr2 c1).2.2.2.2.1 (hr2 c1).2.2.2.2.2.1 ?_)
    refine (rn_step (e := (.iload 4, 58, 4, 0, 0, 0, 0, [])) rfl).mpr ?_
    refine (rn_step (e := (.iastore, 59, 0, 0, 0, 0, 0, [])) rfl).mpr (And.intro ((rn_w467 (M := M) hM).1) (And.intro ((And.intro ((hr2 c1).2.2.2.2.2.2.1) (rn_lt (rn_w467 (M := M) hM).2 (hr2 c1).2.2.2.2.2.2.2.1))) (?_)))
    refine (rn_step (e := (.aload_n 0, 60, 0, 0, 0, 0, 0, [])) rfl).mpr ?_
    refine (rn_step (e := (.getfield 7, 63, 10, 0, 902, 2, 11, [])) rfl).mpr (And.intro ((rn_ks466 (M := M) hM)) (rn_cg (rn_g466_0 (M := M) hM) ?_))
    refine (rn_step (e := (.iload 6, 65, 6, 0, 0, 0, 0, [])) rfl).mpr ?_
    refine (rn_step (e := (.iconst 2, 66, 0, 0, 0, 0, 0, [])) rfl).mpr ?_
    refine (rn_step (e := (.iadd, 67, 0, 0, 0, 0, 0, [])) rfl).mpr (rn_cw (hr2 c1).2.2.2.2.2.2.2.2.1 (hr2 c1).2.2.2.2.2.2.2.2.2.1 ?_)
    refine (rn_step (e := (.iload 5, 69, 5, 0, 0, 0, 0, [])) rfl).mpr ?_
    refine (rn_step (e := (.iastore, 70, 0, 0, 0, 0, 0, [])) rfl).mpr (And.intro ((rn_w467 (M := M) hM).1) (And.intro ((And.intro ((hr2 c1).2.2.2.2.2.2.2.2.2.2.1) (rn_lt (rn_w467 (M := M) hM).2 (hr2 c1).2.2.2.2.2.2.2.2.2.2.2.1))) (?_)))
    refine (rn_step (e := (.aload_n 0, 71, 0, 0, 0, 0, 0, [])) rfl).mpr ?_
    refine (rn_step (e := (.getfield 7, 74, 10, 0, 902, 2, 11, [])) rfl).mpr (And.intro ((rn_ks466 (M := M) hM)) (rn_cg (rn_g466_0 (M := M) hM) ?_))
    refine (rn_step (e := (.iload 6, 76, 6, 0, 0, 0, 0, [])) rfl).mpr ?_
    refine (rn_step (e := (.iconst 3, 77, 0, 0, 0, 0, 0, [])) rfl).mpr ?_
    refine (rn_step (e := (.iadd, 78, 0, 0, 0, 0, 0, [])) rfl).mpr (rn_cw (hr2 c1).2.2.2.2.2.2.2.2.2.2.2.2.1 (hr2 c1).2.2.2.2.2.2.2.2.2.2.2.2.2.1 ?_)
    refine (rn_step (e := (.iload_n 2, 79, 2, 0, 0, 0, 0, [])) rfl).mpr ?_
    refine (rn_step (e := (.iastore, 80, 0, 0, 0, 0, 0, [])) rfl).mpr (And.intro ((rn_w467 (M := M) hM).1) (And.intro ((And.intro ((hr2 c1).2.2.2.2.2.2.2.2.2.2.2.2.2.2.1) (rn_lt (rn_w467 (M := M) hM).2 (hr2 c1).2.2.2.2.2.2.2.2.2.2.2.2.2.2.2.1))) (?_)))
    refine (rn_step (e := (.aload_n 0, 81, 0, 0, 0, 0, 0, [])) rfl).mpr ?_
    refine (rn_step (e := (.getfield 7, 84, 10, 0, 902, 2, 11, [])) rfl).mpr (And.intro ((rn_ks466 (M := M) hM)) (rn_cg (rn_g466_0 (M := M) hM) ?_))
    refine (rn_step (e := (.iload 6, 86, 6, 0, 0, 0, 0, [])) rfl).mpr ?_
    refine (rn_step (e := (.iconst 4, 87, 0, 0, 0, 0, 0, [])) rfl).mpr ?_
    refine (rn_step (e := (.iadd, 88, 0, 0, 0, 0, 0, [])) rfl).mpr (rn_cw (hr2 c1).2.2.2.2.2.2.2.2.2.2.2.2.2.2.2.2.1 (hr2 c1).2.2.2.2.2.2.2.2.2.2.2.2.2.2.2.2.2.1 ?_)
    refine (rn_step (e := (.iload_n 3, 89, 3, 0, 0, 0, 0, [])) rfl).mpr ?_
    refine (rn_step (e := (.iastore, 90, 0, 0, 0, 0, 0, [])) rfl).mpr (And.intro ((rn_w467 (M := M) hM).1) (And.intro ((And.intro ((hr2 c1).2.2.2.2.2.2.2.2.2.2.2.2.2.2.2.2.2.2.1) (rn_lt (rn_w467 (M := M) hM).2 (hr2 c1).2.2.2.2.2.2.2.2.2.2.2.2.2.2.2.2.2.2.2))) (?_)))
    refine (rn_step (e := (.iconst 0, 91, 0, 0, 0, 0, 0, [])) rfl).mpr ?_
    refine (rn_step (e := (.istore 7, 93, 7, 0, 0, 0, 0, [])) rfl).mpr ?_
    exact (k2 c1)
set_option maxRecDepth 4000 in
theorem rb_Mo_comesRiver_93 {M : rn_M} {Q : rn_Q} {xl1 : Int} {vl2 : rn_V} {vl3 : rn_V} {vl4 : rn_V} {vl5 : rn_V} {xl6 : Int} {xl7 : Int} (hM : rn_sh M)   (hr1 : (xl7 < xl1) → (-2147483648 : Int) ≤ xl6 + 6 ∧ xl6 + 6 ≤ 2147483647 ∧ (-2147483648 : Int) ≤ xl6 + 6 + xl7 ∧ xl6 + 6 + xl7 ≤ 2147483647 ∧ (-2147483648 : Int) ≤ 97 + xl7 ∧ 97 + xl7 ≤ 2147483647 ∧ (0 : Int) ≤ xl6 + 6 + xl7 ∧ xl6 + 6 + xl7 < (562 : Int) ∧ (-2147483648 : Int) ≤ xl7 + 1 ∧ xl7 + 1 ≤ 2147483647) (hr2 : (¬ (xl7 < xl1)) → (-2147483648 : Int) ≤ rn_gi M 467 0 + 1 ∧ rn_gi M 467 0 + 1 ≤ 2147483647 ∧ (-2147483648 : Int) ≤ (rn_gi M 467 0 + 1) - 1 ∧ (rn_gi M 467 0 + 1) - 1 ≤ 2147483647) (k1 : (xl7 < xl1) → rn_WP 136 93 [rn_R 466, rn_I xl1, vl2, vl3, vl4, vl5, rn_I xl6, rn_I (xl7 + 1)] [] (rn_si M 467 (xl6 + 6 + xl7).toNat (97 + xl7)) Q) (k2 : (¬ (xl7 < xl1)) → Q (some (rn_I ((rn_gi M 467 0 + 1) - 1))) (rn_si M 467 0 (rn_gi M 467 0 + 1))) : rn_WP 136 93 [rn_R 466, rn_I xl1, vl2, vl3, vl4, vl5, rn_I xl6, rn_I xl7] [] M Q := by
  refine (rn_step (e := (.iload 7, 95, 7, 0, 0, 0, 0, [])) rfl).mpr ?_
  refine (rn_step (e := (.iload_n 1, 96, 1, 0, 0, 0, 0, [])) rfl).mpr ?_
  refine (rn_step (e := (.if_icmp .ge 27, 99, 123, 0, 0, 0, 0, [])) rfl).mpr (And.intro (fun c1 => ?_) (fun c1 => ?_))
  ·
    refine (rn_step (e := (.aload_n 0, 100, 0, 0, 0, 0, 0, [])) rfl).mpr ?_
    refine (rn_step (e := (.getfield 7, 103, 10, 0, 902, 2, 11, [])) rfl).mpr (And.intro ((rn_ks466 (M := M) hM)) (rn_cg (rn_g466_0 (M := M) hM) ?_))
    refine (rn_step (e := (.iload 6, 105, 6, 0, 0, 0, 0, [])) rfl).mpr ?_
    refine (rn_step (e := (.bipush 6, 107, 0, 0, 0, 0, 0, [])) rfl).mpr ?_
    refine (rn_step (e := (.iadd, 108, 0, 0, 0, 0, 0, [])) rfl).mpr (rn_cw (hr1 c1).1 (hr1 c1).2.1 ?_)
    refine (rn_step (e := (.iload 7, 110, 7, 0, 0, 0, 0, [])) rfl).mpr ?_
    refine (rn_step (e := (.iadd, 111, 0, 0, 0, 0, 0, [])) rfl).mpr (rn_cw (hr1 c1).2.2.1 (hr1 c1).2.2.2.1 ?_)
    refine (rn_step (e := (.bipush 97, 113, 0, 0, 0, 0, 0, [])) rfl).mpr ?_
    refine (rn_step (e := (.iload 7, 115, 7, 0, 0, 0, 0, [])) rfl).mpr ?_
    refine (rn_step (e := (.iadd, 116, 0, 0, 0, 0, 0, [])) rfl).mpr (rn_cw (hr1 c1).2.2.2.2.1 (hr1 c1).2.2.2.2.2.1 ?_)
    refine (rn_step (e := (.iastore, 117, 0, 0, 0, 0, 0, [])) rfl).mpr (And.intro ((rn_w467 (M := M) hM).1) (And.intro ((And.intro ((hr1 c1).2.2.2.2.2.2.1) (rn_lt (rn_w467 (M := M) hM).2 (hr1 c1).2.2.2.2.2.2.2.1))) (?_)))
    refine (rn_step (e := (.iinc 7 1, 120, 7, 0, 0, 0, 0, [])) rfl).mpr (rn_ci (hr1 c1).2.2.2.2.2.2.2.2.1 (hr1 c1).2.2.2.2.2.2.2.2.2 ?_)
    refine (rn_step (e := (.goto (-27), 123, 93, 0, 0, 0, 0, [])) rfl).mpr ?_
    exact (k1 c1)
  ·
    refine (rn_step (e := (.aload_n 0, 124, 0, 0, 0, 0, 0, [])) rfl).mpr ?_
    refine (rn_step (e := (.getfield 7, 127, 10, 0, 902, 2, 11, [])) rfl).mpr (And.intro ((rn_ks466 (M := M) hM)) (rn_cg (rn_g466_0 (M := M) hM) ?_))
    refine (rn_step (e := (.iconst 0, 128, 0, 0, 0, 0, 0, [])) rfl).mpr ?_
    refine (rn_step (e := (.dup2, 129, 0, 0, 0, 0, 0, [])) rfl).mpr ?_
    refine (rn_step (e := (.iaload, 130, 0, 0, 0, 0, 0, [])) rfl).mpr (And.intro (Or.inl (rn_w467 (M := M) hM).1) (And.intro ((And.intro ((by decide)) (rn_lt (rn_w467 (M := M) hM).2 (by decide)))) (?_)))
    refine (rn_step (e := (.iconst 1, 131, 0, 0, 0, 0, 0, [])) rfl).mpr ?_
    refine (rn_step (e := (.iadd, 132, 0, 0, 0, 0, 0, [])) rfl).mpr (rn_cw (hr2 c1).1 (hr2 c1).2.1 ?_)
    refine (rn_step (e := (.iastore, 133, 0, 0, 0, 0, 0, [])) rfl).mpr (And.intro ((rn_w467 (M := M) hM).1) (And.intro ((And.intro ((by decide)) (rn_lt (rn_w467 (M := M) hM).2 (by decide)))) (?_)))
    refine (rn_step (e := (.aload_n 0, 134, 0, 0, 0, 0, 0, [])) rfl).mpr ?_
    refine (rn_step (e := (.getfield 7, 137, 10, 0, 902, 2, 11, [])) rfl).mpr (And.intro ((rn_ks466 (M := M) hM)) (rn_cg (rn_g466_0 (M := M) hM) ?_))
    refine (rn_step (e := (.iconst 0, 138, 0, 0, 0, 0, 0, [])) rfl).mpr ?_
    refine (rn_step (e := (.iaload, 139, 0, 0, 0, 0, 0, [])) rfl).mpr (And.intro (Or.inl (rn_w467 (M := M) hM).1) (And.intro ((And.intro ((by decide)) (rn_lt (rn_w467 (M := M) hM).2 (by decide)))) (rn_cv (by rw [rn_si_eq]) ?_)))
    refine (rn_step (e := (.iconst 1, 140, 0, 0, 0, 0, 0, [])) rfl).mpr ?_
    refine (rn_step (e := (.isub, 141, 0, 0, 0, 0, 0, [])) rfl).mpr (rn_cw (hr2 c1).2.2.1 (hr2 c1).2.2.2 ?_)
    exact (rn_step (e := (.ireturn, 142, 0, 0, 0, 0, 0, [])) rfl).mpr (And.intro (trivial) ((k2 c1)))
theorem re_Mo_addRiver {M : rn_M} {Q : rn_Q} {v0 v1 v2 v3 v4 v5 : rn_V} (h : rn_WP 137 0 [v0, v1, v2, v3, v4, v5] [] M Q) : rn_ME 137 [v0, v1, v2, v3, v4, v5] M Q := h
set_option maxRecDepth 4000 in
theorem rb_Mo_addRiver_0 {M : rn_M} {Q : rn_Q} {xl1 : Int} {xl2 : Int} {xl3 : Int} {xl4 : Int} {xl5 : Int} (hM : rn_sh M)   (k1 : (¬ (1 ≤ xl1 ∧ xl1 ≤ 12)) → Q (some (rn_I (-1))) M) (k2 : (1 ≤ xl1 ∧ xl1 ≤ 12) → (¬ ((0 ≤ xl2 ∧ xl2 < 60) ∧ 0 ≤ xl3 ∧ xl3 < 40)) → Q (some (rn_I (-1))) M) (k3 : (1 ≤ xl1 ∧ xl1 ≤ 12) → ((0 ≤ xl2 ∧ xl2 < 60) ∧ 0 ≤ xl3 ∧ xl3 < 40) → (¬ (1 ≤ xl4 ∧ xl4 ≤ 9)) → Q (some (rn_I (-1))) M) (k4 : (1 ≤ xl1 ∧ xl1 ≤ 12) → ((0 ≤ xl2 ∧ xl2 < 60) ∧ 0 ≤ xl3 ∧ xl3 < 40) → (1 ≤ xl4 ∧ xl4 ≤ 9) → (¬ (0 ≤ xl5 ∧ xl5 ≤ 2)) → Q (some (rn_I (-1))) M) (k5 : (1 ≤ xl1 ∧ xl1 ≤ 12) → ((0 ≤ xl2 ∧ xl2 < 60) ∧ 0 ≤ xl3 ∧ xl3 < 40) → (1 ≤ xl4 ∧ xl4 ≤ 9) → (0 ≤ xl5 ∧ xl5 ≤ 2) → (rn_gi M 467 0 = 6) → Q (some (rn_I (-3))) M) (k6 : (1 ≤ xl1 ∧ xl1 ≤ 12) → ((0 ≤ xl2 ∧ xl2 < 60) ∧ 0 ≤ xl3 ∧ xl3 < 40) → (1 ≤ xl4 ∧ xl4 ≤ 9) → (0 ≤ xl5 ∧ xl5 ≤ 2) → (¬ (rn_gi M 467 0 = 6)) → rn_ME 125 [rn_R 466] M (fun r M1 => rn_WP 137 54 [rn_R 466, rn_I xl1, rn_I xl2, rn_I xl3, rn_I xl4, rn_I xl5] (r.toList ++ []) M1 Q)) : rn_WP 137 0 [rn_R 466, rn_I xl1, rn_I xl2, rn_I xl3, rn_I xl4, rn_I xl5] [] M Q := by
  refine (rn_step (e := (.iload_n 1, 1, 1, 0, 0, 0, 0, [])) rfl).mpr ?_
  refine (rn_step (e := (.iconst 1, 2, 0, 0, 0, 0, 0, [])) rfl).mpr ?_
  refine (rn_step (e := (.bipush 12, 4, 0, 0, 0, 0, 0, [])) rfl).mpr ?_
  refine (rn_step (e := (.invokestatic 41, 7, 124, 3, 956, 0, 11, [0])) rfl).mpr (rc_Mo_in  ?_)
  refine (rn_step (e := (.ifCond .eq 27, 10, 34, 0, 0, 0, 0, [])) rfl).mpr (And.intro (fun q => ?_) (fun q => ?_))
  · have c1 := rn_b0 q
    refine (rn_step (e := (.iconst (-1), 35, 0, 0, 0, 0, 0, [])) rfl).mpr ?_
    exact (rn_step (e := (.ireturn, 36, 0, 0, 0, 0, 0, [])) rfl).mpr (And.intro (trivial) ((k1 c1)))
  · have c1 := rn_b1 q
    refine (rn_step (e := (.iload_n 2, 11, 2, 0, 0, 0, 0, [])) rfl).mpr ?_
    refine (rn_step (e := (.iload_n 3, 12, 3, 0, 0, 0, 0, [])) rfl).mpr ?_
    refine (rn_step (e := (.invokestatic 59, 15, 132, 2, 959, 0, 11, [0])) rfl).mpr (rc_Mo_isOnMap  ?_)
    refine (rn_step (e := (.ifCond .eq 19, 18, 34, 0, 0, 0, 0, [])) rfl).mpr (And.intro (fun q => ?_) (fun q => ?_))
    · have c2 := rn_b0 q
      refine (rn_step (e := (.iconst (-1), 35, 0, 0, 0, 0, 0, [])) rfl).mpr ?_
      exact (rn_step (e := (.ireturn, 36, 0, 0, 0, 0, 0, [])) rfl).mpr (And.intro (trivial) ((k2 c1 c2)))
    · have c2 := rn_b1 q
      refine (rn_step (e := (.iload 4, 20, 4, 0, 0, 0, 0, [])) rfl).mpr ?_
      refine (rn_step (e := (.invokestatic 63, 23, 134, 1, 962, 0, 11, [0])) rfl).mpr (rc_Mo_isRank  ?_)
      refine (rn_step (e := (.ifCond .eq 11, 26, 34, 0, 0, 0, 0, [])) rfl).mpr (And.intro (fun q => ?_) (fun q => ?_))
      · have c3 := rn_b0 q
        refine (rn_step (e := (.iconst (-1), 35, 0, 0, 0, 0, 0, [])) rfl).mpr ?_
        exact (rn_step (e := (.ireturn, 36, 0, 0, 0, 0, 0, [])) rfl).mpr (And.intro (trivial) ((k3 c1 c2 c3)))
      · have c3 := rn_b1 q
        refine (rn_step (e := (.iload 5, 28, 5, 0, 0, 0, 0, [])) rfl).mpr ?_
        refine (rn_step (e := (.invokestatic 67, 31, 135, 1, 965, 0, 11, [0])) rfl).mpr (rc_Mo_isHalo  ?_)
        refine (rn_step (e := (.ifCond .ne 5, 34, 36, 0, 0, 0, 0, [])) rfl).mpr (And.intro (fun q => ?_) (fun q => ?_))
        · have c4 := rn_b0 q
          refine (rn_step (e := (.iconst (-1), 35, 0, 0, 0, 0, 0, [])) rfl).mpr ?_
          exact (rn_step (e := (.ireturn, 36, 0, 0, 0, 0, 0, [])) rfl).mpr (And.intro (trivial) ((k4 c1 c2 c3 c4)))
        · have c4 := rn_b1 q
          refine (rn_step (e := (.aload_n 0, 37, 0, 0, 0, 0, 0, [])) rfl).mpr ?_
          refine (rn_step (e := (.getfield 7, 40, 10, 0, 902, 2, 11, [])) rfl).mpr (And.intro ((rn_ks466 (M := M) hM)) (rn_cg (rn_g466_0 (M := M) hM) ?_))
          refine (rn_step (e := (.iconst 0, 41, 0, 0, 0, 0, 0, [])) rfl).mpr ?_
          refine (rn_step (e := (.iaload, 42, 0, 0, 0, 0, 0, [])) rfl).mpr (And.intro (Or.inl (rn_w467 (M := M) hM).1) (And.intro ((And.intro ((by decide)) (rn_lt (rn_w467 (M := M) hM).2 (by decide)))) (?_)))
          refine (rn_step (e := (.bipush 6, 44, 0, 0, 0, 0, 0, [])) rfl).mpr ?_
          refine (rn_step (e := (.if_icmp .ne 6, 47, 50, 0, 0, 0, 0, [])) rfl).mpr (And.intro (fun c5 => ?_) (fun c5 => ?_))
          ·
            refine (rn_step (e := (.bipush (-3), 49, 0, 0, 0, 0, 0, [])) rfl).mpr ?_
            exact (rn_step (e := (.ireturn, 50, 0, 0, 0, 0, 0, [])) rfl).mpr (And.intro (trivial) ((k5 c1 c2 c3 c4 c5)))
          ·
            refine (rn_step (e := (.aload_n 0, 51, 0, 0, 0, 0, 0, [])) rfl).mpr ?_
            exact (rn_step (e := (.invokevirtual 70, 54, 125, 1, 968, 0, 11, [0])) rfl).mpr (And.intro ((rn_ks466 (M := M) hM)) ((k6 c1 c2 c3 c4 c5)))
set_option maxRecDepth 4000 in
theorem rb_Mo_addRiver_54 {M : rn_M} {Q : rn_Q} {xl1 : Int} {xl2 : Int} {xl3 : Int} {xl4 : Int} {xl5 : Int} (hM : rn_sh M)   (k1 : rn_ME 136 [rn_R 466, rn_I xl1, rn_I xl2, rn_I xl3, rn_I xl4, rn_I xl5] M (fun r M1 => rn_WP 137 65 [rn_R 466, rn_I xl1, rn_I xl2, rn_I xl3, rn_I xl4, rn_I xl5] (r.toList ++ []) M1 Q)) : rn_WP 137 54 [rn_R 466, rn_I xl1, rn_I xl2, rn_I xl3, rn_I xl4, rn_I xl5] [] M Q := by
  refine (rn_step (e := (.aload_n 0, 55, 0, 0, 0, 0, 0, [])) rfl).mpr ?_
  refine (rn_step (e := (.iload_n 1, 56, 1, 0, 0, 0, 0, [])) rfl).mpr ?_
  refine (rn_step (e := (.iload_n 2, 57, 2, 0, 0, 0, 0, [])) rfl).mpr ?_
  refine (rn_step (e := (.iload_n 3, 58, 3, 0, 0, 0, 0, [])) rfl).mpr ?_
  refine (rn_step (e := (.iload 4, 60, 4, 0, 0, 0, 0, [])) rfl).mpr ?_
  refine (rn_step (e := (.iload 5, 62, 5, 0, 0, 0, 0, [])) rfl).mpr ?_
  exact (rn_step (e := (.invokevirtual 73, 65, 136, 6, 972, 0, 11, [0])) rfl).mpr (And.intro ((rn_ks466 (M := M) hM)) (k1))
set_option maxRecDepth 4000 in
theorem rb_Mo_addRiver_65 {M : rn_M} {Q : rn_Q} {vl0 : rn_V} {vl1 : rn_V} {vl2 : rn_V} {vl3 : rn_V} {vl4 : rn_V} {vl5 : rn_V} {xs0 : Int}   (k1 : Q (some (rn_I xs0)) M) : rn_WP 137 65 [vl0, vl1, vl2, vl3, vl4, vl5] [rn_I xs0] M Q := by
  exact (rn_step (e := (.ireturn, 66, 0, 0, 0, 0, 0, [])) rfl).mpr (And.intro (trivial) (k1))
theorem re_Mo_comesTown {M : rn_M} {Q : rn_Q} {v0 v1 v2 v3 v4 v5 : rn_V} (h : rn_WP 139 0 [v0, v1, v2, v3, v4, v5, rn_J] [] M Q) : rn_ME 139 [v0, v1, v2, v3, v4, v5] M Q := h
set_option maxRecDepth 4000 in
theorem rb_Mo_comesTown_0 {M : rn_M} {Q : rn_Q} {xl1 : Int} {xl2 : Int} {xl3 : Int} {xl4 : Int} {xl5 : Int} {vl6 : rn_V} (hM : rn_sh M)   (hr1 : (-2147483648 : Int) ≤ 5 * (rn_gi M 467 1) ∧ 5 * (rn_gi M 467 1) ≤ 2147483647 ∧ (-2147483648 : Int) ≤ 472 + (5 * (rn_gi M 467 1)) ∧ 472 + (5 * (rn_gi M 467 1)) ≤ 2147483647 ∧ (0 : Int) ≤ 472 + (5 * (rn_gi M 467 1)) ∧ 472 + (5 * (rn_gi M 467 1)) < (562 : Int) ∧ (-2147483648 : Int) ≤ (472 + (5 * (rn_gi M 467 1))) + 1 ∧ (472 + (5 * (rn_gi M 467 1))) + 1 ≤ 2147483647 ∧ (0 : Int) ≤ (472 + (5 * (rn_gi M 467 1))) + 1 ∧ (472 + (5 * (rn_gi M 467 1))) + 1 < (562 : Int) ∧ (-2147483648 : Int) ≤ (472 + (5 * (rn_gi M 467 1))) + 2 ∧ (472 + (5 * (rn_gi M 467 1))) + 2 ≤ 2147483647 ∧ (0 : Int) ≤ (472 + (5 * (rn_gi M 467 1))) + 2 ∧ (472 + (5 * (rn_gi M 467 1))) + 2 < (562 : Int) ∧ (-2147483648 : Int) ≤ (472 + (5 * (rn_gi M 467 1))) + 3 ∧ (472 + (5 * (rn_gi M 467 1))) + 3 ≤ 2147483647 ∧ (0 : Int) ≤ (472 + (5 * (rn_gi M 467 1))) + 3 ∧ (472 + (5 * (rn_gi M 467 1))) + 3 < (562 : Int) ∧ (-2147483648 : Int) ≤ (472 + (5 * (rn_gi M 467 1))) + 4 ∧ (472 + (5 * (rn_gi M 467 1))) + 4 ≤ 2147483647 ∧ (0 : Int) ≤ (472 + (5 * (rn_gi M 467 1))) + 4 ∧ (472 + (5 * (rn_gi M 467 1))) + 4 < (562 : Int) ∧ (-2147483648 : Int) ≤ (rn_gi (rn_si (rn_si (rn_si (rn_si (rn_si M 467 (472 + (5 * (rn_gi M 467 1))).toNat xl1) 467 ((472 + (5 * (rn_gi M 467 1))) + 1).toNat xl2) 467 ((472 + (5 * (rn_gi M 467 1))) + 2).toNat xl3) 467 ((472 + (5 * (rn_gi M 467 1))) + 3).toNat xl4) 467 ((472 + (5 * (rn_gi M 467 1))) + 4).toNat xl5) 467 1) + 1 ∧ (rn_gi (rn_si (rn_si (rn_si (rn_si (rn_si M 467 (472 + (5 * (rn_gi M 467 1))).toNat xl1) 467 ((472 + (5 * (rn_gi M 467 1))) + 1).toNat xl2) 467 ((472 + (5 * (rn_gi M 467 1))) + 2).toNat xl3) 467 ((472 + (5 * (rn_gi M 467 1))) + 3).toNat xl4) 467 ((472 + (5 * (rn_gi M 467 1))) + 4).toNat xl5) 467 1) + 1 ≤ 2147483647 ∧ (-2147483648 : Int) ≤ ((rn_gi (rn_si (rn_si (rn_si (rn_si (rn_si M 467 (472 + (5 * (rn_gi M 467 1))).toNat xl1) 467 ((472 + (5 * (rn_gi M 467 1))) + 1).toNat xl2) 467 ((472 + (5 * (rn_gi M 467 1))) + 2).toNat xl3) 467 ((472 + (5 * (rn_gi M 467 1))) + 3).toNat xl4) 467 ((472 + (5 * (rn_gi M 467 1))) + 4).toNat xl5) 467 1) + 1) - 1 ∧ ((rn_gi (rn_si (rn_si (rn_si (rn_si (rn_si M 467 (472 + (5 * (rn_gi M 467 1))).toNat xl1) 467 ((472 + (5 * (rn_gi M 467 1))) + 1).toNat xl2) 467 ((472 + (5 * (rn_gi M 467 1))) + 2).toNat xl3) 467 ((472 + (5 * (rn_gi M 467 1))) + 3).toNat xl4) 467 ((472 + (5 * (rn_gi M 467 1))) + 4).toNat xl5) 467 1) + 1) - 1 ≤ 2147483647) (k1 : Q (some (rn_I (((rn_gi (rn_si (rn_si (rn_si (rn_si (rn_si M 467 (472 + (5 * (rn_gi M 467 1))).toNat xl1) 467 ((472 + (5 * (rn_gi M 467 1))) + 1).toNat xl2) 467 ((472 + (5 * (rn_gi M 467 1))) + 2).toNat xl3) 467 ((472 + (5 * (rn_gi M 467 1))) + 3).toNat xl4) 467 ((472 + (5 * (rn_gi M 467 1))) + 4).toNat xl5) 467 1) + 1) - 1))) (rn_si (rn_si (rn_si (rn_si (rn_si (rn_si M 467 (472 + (5 * (rn_gi M 467 1))).toNat xl1) 467 ((472 + (5 * (rn_gi M 467 1))) + 1).toNat xl2) 467 ((472 + (5 * (rn_gi M 467 1))) + 2).toNat xl3) 467 ((472 + (5 * (rn_gi M 467 1))) + 3).toNat xl4) 467 ((472 + (5 * (rn_gi M 467 1))) + 4).toNat xl5) 467 1 ((rn_gi (rn_si (rn_si (rn_si (rn_si (rn_si M 467 (472 + (5 * (rn_gi M 467 1))).toNat xl1) 467 ((472 + (5 * (rn_gi M 467 1))) + 1).toNat xl2) 467 ((472 + (5 * (rn_gi M 467 1))) + 2).toNat xl3) 467 ((472 + (5 * (rn_gi M 467 1))) + 3).toNat xl4) 467 ((472 + (5 * (rn_gi M 467 1))) + 4).toNat xl5) 467 1) + 1))) : rn_WP 139 0 [rn_R 466, rn_I xl1, rn_I xl2, rn_I xl3, rn_I xl4, rn_I xl5, vl6] [] M Q := by
  refine (rn_step (e := (.sipush 472, 3, 0, 0, 0, 0, 0, [])) rfl).mpr ?_
  refine (rn_step (e := (.iconst 5, 4, 0, 0, 0, 0, 0, [])) rfl).mpr ?_
  refine (rn_step (e := (.aload_n 0, 5, 0, 0, 0, 0, 0, [])) rfl).mpr ?_
  refine (rn_step (e := (.getfield 7, 8, 10, 0, 902, 2, 11, [])) rfl).mpr (And.intro ((rn_ks466 (M := M) hM)) (rn_cg (rn_g466_0 (M := M) hM) ?_))
  refine (rn_step (e := (.iconst 1, 9, 0, 0, 0, 0, 0, [])) rfl).mpr ?_
  refine (rn_step (e := (.iaload, 10, 0, 0, 0, 0, 0, [])) rfl).mpr (And.intro (Or.inl (rn_w467 (M := M) hM).1) (And.intro ((And.intro ((by decide)) (rn_lt (rn_w467 (M := M) hM).2 (by decide)))) (?_)))
  refine (rn_step (e := (.imul, 11, 0, 0, 0, 0, 0, [])) rfl).mpr (rn_cw hr1.1 hr1.2.1 ?_)
  refine (rn_step (e := (.iadd, 12, 0, 0, 0, 0, 0, [])) rfl).mpr (rn_cw hr1.2.2.1 hr1.2.2.2.1 ?_)
  refine (rn_step (e := (.istore 6, 14, 6, 0, 0, 0, 0, [])) rfl).mpr ?_
  refine (rn_step (e := (.aload_n 0, 15, 0, 0, 0, 0, 0, [])) rfl).mpr ?_
  refine (rn_step (e := (.getfield 7, 18, 10, 0, 902, 2, 11, [])) rfl).mpr (And.intro ((rn_ks466 (M := M) hM)) (rn_cg (rn_g466_0 (M := M) hM) ?_))
  refine (rn_step (e := (.iload 6, 20, 6, 0, 0, 0, 0, [])) rfl).mpr ?_
  refine (rn_step (e := (.iload_n 1, 21, 1, 0, 0, 0, 0, [])) rfl).mpr ?_
  refine (rn_step (e := (.iastore, 22, 0, 0, 0, 0, 0, [])) rfl).mpr (And.intro ((rn_w467 (M := M) hM).1) (And.intro ((And.intro (hr1.2.2.2.2.1) (rn_lt (rn_w467 (M := M) hM).2 hr1.2.2.2.2.2.1))) (?_)))
  refine (rn_step (e := (.aload_n 0, 23, 0, 0, 0, 0, 0, [])) rfl).mpr ?_
  refine (rn_step (e := (.getfield 7, 26, 10, 0, 902, 2, 11, [])) rfl).mpr (And.intro ((rn_ks466 (M := M) hM)) (rn_cg (rn_g466_0 (M := M) hM) ?_))
  refine (rn_step (e := (.iload 6, 28, 6, 0, 0, 0, 0, [])) rfl).mpr ?_
  refine (rn_step (e := (.iconst 1, 29, 0, 0, 0, 0, 0, [])) rfl).mpr ?_
  refine (rn_step (e := (.iadd, 30, 0, 0, 0, 0, 0, [])) rfl).mpr (rn_cw hr1.2.2.2.2.2.2.1 hr1.2.2.2.2.2.2.2.1 ?_)
  refine (rn_step (e := (.iload_n 2, 31, 2, 0, 0, 0, 0, [])) rfl).mpr ?_
  refine (rn_step (e := (.iastore, 32, 0, 0, 0, 0, 0, [])) rfl).mpr (And.intro ((rn_w467 (M := M) hM).1) (And.intro ((And.intro (hr1.2.2.2.2.2.2.2.2.1) (rn_lt (rn_w467 (M := M) hM).2 hr1.2.2.2.2.2.2.2.2.2.1))) (?_)))
  refine (rn_step (e := (.aload_n 0, 33, 0, 0, 0, 0, 0, [])) rfl).mpr ?_
  refine (rn_step (e := (.getfield 7, 36, 10, 0, 902, 2, 11, [])) rfl).mpr (And.intro ((rn_ks466 (M := M) hM)) (rn_cg (rn_g466_0 (M := M) hM) ?_))
  refine (rn_step (e := (.iload 6, 38, 6, 0, 0, 0, 0, [])) rfl).mpr ?_
  refine (rn_step (e := (.iconst 2, 39, 0, 0, 0, 0, 0, [])) rfl).mpr ?_
  refine (rn_step (e := (.iadd, 40, 0, 0, 0, 0, 0, [])) rfl).mpr (rn_cw hr1.2.2.2.2.2.2.2.2.2.2.1 hr1.2.2.2.2.2.2.2.2.2.2.2.1 ?_)
  refine (rn_step (e := (.iload_n 3, 41, 3, 0, 0, 0, 0, [])) rfl).mpr ?_
  refine (rn_step (e := (.iastore, 42, 0, 0, 0, 0, 0, [])) rfl).mpr (And.intro ((rn_w467 (M := M) hM).1) (And.intro ((And.intro (hr1.2.2.2.2.2.2.2.2.2.2.2.2.1) (rn_lt (rn_w467 (M := M) hM).2 hr1.2.2.2.2.2.2.2.2.2.2.2.2.2.1))) (?_)))
  refine (rn_step (e := (.aload_n 0, 43, 0, 0, 0, 0, 0, [])) rfl).mpr ?_
  refine (rn_step (e := (.getfield 7, 46, 10, 0, 902, 2, 11, [])) rfl).mpr (And.intro ((rn_ks466 (M := M) hM)) (rn_cg (rn_g466_0 (M := M) hM) ?_))
  refine (rn_step (e := (.iload 6, 48, 6, 0, 0, 0, 0, [])) rfl).mpr ?_
  refine (rn_step (e := (.iconst 3, 49, 0, 0, 0, 0, 0, [])) rfl).mpr ?_
  refine (rn_step (e := (.iadd, 50, 0, 0, 0, 0, 0, [])) rfl).mpr (rn_cw hr1.2.2.2.2.2.2.2.2.2.2.2.2.2.2.1 hr1.2.2.2.2.2.2.2.2.2.2.2.2.2.2.2.1 ?_)
  refine (rn_step (e := (.iload 4, 52, 4, 0, 0, 0, 0, [])) rfl).mpr ?_
  refine (rn_step (e := (.iastore, 53, 0, 0, 0, 0, 0, [])) rfl).mpr (And.intro ((rn_w467 (M := M) hM).1) (And.intro ((And.intro (hr1.2.2.2.2.2.2.2.2.2.2.2.2.2.2.2.2.1) (rn_lt (rn_w467 (M := M) hM).2 hr1.2.2.2.2.2.2.2.2.2.2.2.2.2.2.2.2.2.1))) (?_)))
  refine (rn_step (e := (.aload_n 0, 54, 0, 0, 0, 0, 0, [])) rfl).mpr ?_
  refine (rn_step (e := (.getfield 7, 57, 10, 0, 902, 2, 11, [])) rfl).mpr (And.intro ((rn_ks466 (M := M) hM)) (rn_cg (rn_g466_0 (M := M) hM) ?_))
  refine (rn_step (e := (.iload 6, 59, 6, 0, 0, 0, 0, [])) rfl).mpr ?_
  refine (rn_step (e := (.iconst 4, 60, 0, 0, 0, 0, 0, [])) rfl).mpr ?_
  refine (rn_step (e := (.iadd, 61, 0, 0, 0, 0, 0, [])) rfl).mpr (rn_cw hr1.2.2.2.2.2.2.2.2.2.2.2.2.2.2.2.2.2.2.1 hr1.2.2.2.2.2.2.2.2.2.2.2.2.2.2.2.2.2.2.2.1 ?_)
  refine (rn_step (e := (.iload 5, 63, 5, 0, 0, 0, 0, [])) rfl).mpr ?_
  refine (rn_step (e := (.iastore, 64, 0, 0, 0, 0, 0, [])) rfl).mpr (And.intro ((rn_w467 (M := M) hM).1) (And.intro ((And.intro (hr1.2.2.2.2.2.2.2.2.2.2.2.2.2.2.2.2.2.2.2.2.1) (rn_lt (rn_w467 (M := M) hM).2 hr1.2.2.2.2.2.2.2.2.2.2.2.2.2.2.2.2.2.2.2.2.2.1))) (?_)))
  refine (rn_step (e := (.aload_n 0, 65, 0, 0, 0, 0, 0, [])) rfl).mpr ?_
  refine (rn_step (e := (.getfield 7, 68, 10, 0, 902, 2, 11, [])) rfl).mpr (And.intro ((rn_ks466 (M := M) hM)) (rn_cg (rn_g466_0 (M := M) hM) ?_))
  refine (rn_step (e := (.iconst 1, 69, 0, 0, 0, 0, 0, [])) rfl).mpr ?_
  refine (rn_step (e := (.dup2, 70, 0, 0, 0, 0, 0, [])) rfl).mpr ?_
  refine (rn_step (e := (.iaload, 71, 0, 0, 0, 0, 0, [])) rfl).mpr (And.intro (Or.inl (rn_w467 (M := M) hM).1) (And.intro ((And.intro ((by decide)) (rn_lt (rn_w467 (M := M) hM).2 (by decide)))) (?_)))
  refine (rn_step (e := (.iconst 1, 72, 0, 0, 0, 0, 0, [])) rfl).mpr ?_
  refine (rn_step (e := (.iadd, 73, 0, 0, 0, 0, 0, [])) rfl).mpr (rn_cw hr1.2.2.2.2.2.2.2.2.2.2.2.2.2.2.2.2.2.2.2.2.2.2.1 hr1.2.2.2.2.2.2.2.2.2.2.2.2.2.2.2.2.2.2.2.2.2.2.2.1 ?_)
  refine (rn_step (e := (.iastore, 74, 0, 0, 0, 0, 0, [])) rfl).mpr (And.intro ((rn_w467 (M := M) hM).1) (And.intro ((And.intro ((by decide)) (rn_lt (rn_w467 (M := M) hM).2 (by decide)))) (?_)))
  refine (rn_step (e := (.aload_n 0, 75, 0, 0, 0, 0, 0, [])) rfl).mpr ?_
  refine (rn_step (e := (.getfield 7, 78, 10, 0, 902, 2, 11, [])) rfl).mpr (And.intro ((rn_ks466 (M := M) hM)) (rn_cg (rn_g466_0 (M := M) hM) ?_))
  refine (rn_step (e := (.iconst 1, 79, 0, 0, 0, 0, 0, [])) rfl).mpr ?_
  refine (rn_step (e := (.iaload, 80, 0, 0, 0, 0, 0, [])) rfl).mpr (And.intro (Or.inl (rn_w467 (M := M) hM).1) (And.intro ((And.intro ((by decide)) (rn_lt (rn_w467 (M := M) hM).2 (by decide)))) (rn_cv (by rw [rn_si_eq]) ?_)))
  refine (rn_step (e := (.iconst 1, 81, 0, 0, 0, 0, 0, [])) rfl).mpr ?_
  refine (rn_step (e := (.isub, 82, 0, 0, 0, 0, 0, [])) rfl).mpr (rn_cw hr1.2.2.2.2.2.2.2.2.2.2.2.2.2.2.2.2.2.2.2.2.2.2.2.2.1 hr1.2.2.2.2.2.2.2.2.2.2.2.2.2.2.2.2.2.2.2.2.2.2.2.2.2 ?_)
  exact (rn_step (e := (.ireturn, 83, 0, 0, 0, 0, 0, [])) rfl).mpr (And.intro (trivial) (k1))
theorem re_Mo_addTown {M : rn_M} {Q : rn_Q} {v0 v1 v2 v3 v4 v5 : rn_V} (h : rn_WP 140 0 [v0, v1, v2, v3, v4, v5] [] M Q) : rn_ME 140 [v0, v1, v2, v3, v4, v5] M Q := h
set_option maxRecDepth 4000 in
theorem rb_Mo_addTown_0 {M : rn_M} {Q : rn_Q} {xl1 : Int} {xl2 : Int} {xl3 : Int} {xl4 : Int} {xl5 : Int} (hM : rn_sh M)   (k1 : (¬ (((0 ≤ xl1 ∧ xl1 < 60) ∧ 0 ≤ xl2 ∧ xl2 < 40) ∧ (1 ≤ xl3 ∧ xl3 ≤ 12) ∧ (1 ≤ xl4 ∧ xl4 ≤ 3) ∧ xl1 + xl3 ≤ 60 ∧ xl2 + xl4 ≤ 40)) → Q (some (rn_I (-1))) M) (k2 : (((0 ≤ xl1 ∧ xl1 < 60) ∧ 0 ≤ xl2 ∧ xl2 < 40) ∧ (1 ≤ xl3 ∧ xl3 ≤ 12) ∧ (1 ≤ xl4 ∧ xl4 ≤ 3) ∧ xl1 + xl3 ≤ 60 ∧ xl2 + xl4 ≤ 40) → (¬ (1 ≤ xl5 ∧ xl5 ≤ 9)) → Q (some (rn_I (-1))) M) (k3 : (((0 ≤ xl1 ∧ xl1 < 60) ∧ 0 ≤ xl2 ∧ xl2 < 40) ∧ (1 ≤ xl3 ∧ xl3 ≤ 12) ∧ (1 ≤ xl4 ∧ xl4 ≤ 3) ∧ xl1 + xl3 ≤ 60 ∧ xl2 + xl4 ≤ 40) → (1 ≤ xl5 ∧ xl5 ≤ 9) → (rn_gi M 467 1 = 10) → Q (some (rn_I (-3))) M) (k4 : (((0 ≤ xl1 ∧ xl1 < 60) ∧ 0 ≤ xl2 ∧ xl2 < 40) ∧ (1 ≤ xl3 ∧ xl3 ≤ 12) ∧ (1 ≤ xl4 ∧ xl4 ≤ 3) ∧ xl1 + xl3 ≤ 60 ∧ xl2 + xl4 ≤ 40) → (1 ≤ xl5 ∧ xl5 ≤ 9) → (¬ (rn_gi M 467 1 = 10)) → rn_ME 125 [rn_R 466] M (fun r M1 => rn_WP 140 39 [rn_R 466, rn_I xl1, rn_I xl2, rn_I xl3, rn_I xl4, rn_I xl5] (r.toList ++ []) M1 Q)) : rn_WP 140 0 [rn_R 466, rn_I xl1, rn_I xl2, rn_I xl3, rn_I xl4, rn_I xl5] [] M Q := by
  refine (rn_step (e := (.iload_n 1, 1, 1, 0, 0, 0, 0, [])) rfl).mpr ?_
  refine (rn_step (e := (.iload_n 2, 2, 2, 0, 0, 0, 0, [])) rfl).mpr ?_
  refine (rn_step (e := (.iload_n 3, 3, 3, 0, 0, 0, 0, [])) rfl).mpr ?_
  refine (rn_step (e := (.iload 4, 5, 4, 0, 0, 0, 0, [])) rfl).mpr ?_
  refine (rn_step (e := (.invokestatic 77, 8, 138, 4, 983, 0, 11, [0])) rfl).mpr (rc_Mo_isTown  ?_)
  refine (rn_step (e := (.ifCond .eq 11, 11, 19, 0, 0, 0, 0, [])) rfl).mpr (And.intro (fun q => ?_) (fun q => ?_))
  · have c1 := rn_b0 q
    refine (rn_step (e := (.iconst (-1), 20, 0, 0, 0, 0, 0, [])) rfl).mpr ?_
    exact (rn_step (e := (.ireturn, 21, 0, 0, 0, 0, 0, [])) rfl).mpr (And.intro (trivial) ((k1 c1)))
  · have c1 := rn_b1 q
    refine (rn_step (e := (.iload 5, 13, 5, 0, 0, 0, 0, [])) rfl).mpr ?_
    refine (rn_step (e := (.invokestatic 63, 16, 134, 1, 962, 0, 11, [0])) rfl).mpr (rc_Mo_isRank  ?_)
    refine (rn_step (e := (.ifCond .ne 5, 19, 21, 0, 0, 0, 0, [])) rfl).mpr (And.intro (fun q => ?_) (fun q => ?_))
    · have c2 := rn_b0 q
      refine (rn_step (e := (.iconst (-1), 20, 0, 0, 0, 0, 0, [])) rfl).mpr ?_
      exact (rn_step (e := (.ireturn, 21, 0, 0, 0, 0, 0, [])) rfl).mpr (And.intro (trivial) ((k2 c1 c2)))
    · have c2 := rn_b1 q
      refine (rn_step (e := (.aload_n 0, 22, 0, 0, 0, 0, 0, [])) rfl).mpr ?_
      refine (rn_step (e := (.getfield 7, 25, 10, 0, 902, 2, 11, [])) rfl).mpr (And.intro ((rn_ks466 (M := M) hM)) (rn_cg (rn_g466_0 (M := M) hM) ?_))
      refine (rn_step (e := (.iconst 1, 26, 0, 0, 0, 0, 0, [])) rfl).mpr ?_
      refine (rn_step (e := (.iaload, 27, 0, 0, 0, 0, 0, [])) rfl).mpr (And.intro (Or.inl (rn_w467 (M := M) hM).1) (And.intro ((And.intro ((by decide)) (rn_lt (rn_w467 (M := M) hM).2 (by decide)))) (?_)))
      refine (rn_step (e := (.bipush 10, 29, 0, 0, 0, 0, 0, [])) rfl).mpr ?_
      refine (rn_step (e := (.if_icmp .ne 6, 32, 35, 0, 0, 0, 0, [])) rfl).mpr (And.intro (fun c3 => ?_) (fun c3 => ?_))
      ·
        refine (rn_step (e := (.bipush (-3), 34, 0, 0, 0, 0, 0, [])) rfl).mpr ?_
        exact (rn_step (e := (.ireturn, 35, 0, 0, 0, 0, 0, [])) rfl).mpr (And.intro (trivial) ((k3 c1 c2 c3)))
      ·
        refine (rn_step (e := (.aload_n 0, 36, 0, 0, 0, 0, 0, [])) rfl).mpr ?_
        exact (rn_step (e := (.invokevirtual 70, 39, 125, 1, 968, 0, 11, [0])) rfl).mpr (And.intro ((rn_ks466 (M := M) hM)) ((k4 c1 c2 c3)))
set_option maxRecDepth 4000 in
theorem rb_Mo_addTown_39 {M : rn_M} {Q : rn_Q} {xl1 : Int} {xl2 : Int} {xl3 : Int} {xl4 : Int} {xl5 : Int} (hM : rn_sh M)   (k1 : rn_ME 139 [rn_R 466, rn_I xl1, rn_I xl2, rn_I xl3, rn_I xl4, rn_I xl5] M (fun r M1 => rn_WP 140 50 [rn_R 466, rn_I xl1, rn_I xl2, rn_I xl3, rn_I xl4, rn_I xl5] (r.toList ++ []) M1 Q)) : rn_WP 140 39 [rn_R 466, rn_I xl1, rn_I xl2, rn_I xl3, rn_I xl4, rn_I xl5] [] M Q := by
  refine (rn_step (e := (.aload_n 0, 40, 0, 0, 0, 0, 0, [])) rfl).mpr ?_
  refine (rn_step (e := (.iload_n 1, 41, 1, 0, 0, 0, 0, [])) rfl).mpr ?_
  refine (rn_step (e := (.iload_n 2, 42, 2, 0, 0, 0, 0, [])) rfl).mpr ?_
  refine (rn_step (e := (.iload_n 3, 43, 3, 0, 0, 0, 0, [])) rfl).mpr ?_
  refine (rn_step (e := (.iload 4, 45, 4, 0, 0, 0, 0, [])) rfl).mpr ?_
  refine (rn_step (e := (.iload 5, 47, 5, 0, 0, 0, 0, [])) rfl).mpr ?_
  exact (rn_step (e := (.invokevirtual 81, 50, 139, 6, 986, 0, 11, [0])) rfl).mpr (And.intro ((rn_ks466 (M := M) hM)) (k1))
set_option maxRecDepth 4000 in
theorem rb_Mo_addTown_50 {M : rn_M} {Q : rn_Q} {vl0 : rn_V} {vl1 : rn_V} {vl2 : rn_V} {vl3 : rn_V} {vl4 : rn_V} {vl5 : rn_V} {xs0 : Int}   (k1 : Q (some (rn_I xs0)) M) : rn_WP 140 50 [vl0, vl1, vl2, vl3, vl4, vl5] [rn_I xs0] M Q := by
  exact (rn_step (e := (.ireturn, 51, 0, 0, 0, 0, 0, [])) rfl).mpr (And.intro (trivial) (k1))
theorem re_Mo_lengthens {M : rn_M} {Q : rn_Q} {v0 v1 v2 : rn_V} (h : rn_WP 141 0 [v0, v1, v2, rn_J] [] M Q) : rn_ME 141 [v0, v1, v2] M Q := h
set_option maxRecDepth 4000 in
theorem rb_Mo_lengthens_0 {M : rn_M} {Q : rn_Q} {xl1 : Int} {xl2 : Int} {vl3 : rn_V} (hM : rn_sh M)   (hr1 : ((0 : Int) ≤ xl1 ∧ (xl1 : Int) ≤ 10) ∧ (-2147483648 : Int) ≤ (4 + 78 * xl1) + 18 ∧ (4 + 78 * xl1) + 18 ≤ 2147483647 ∧ (-2147483648 : Int) ≤ (4 + 78 * xl1) + 5 ∧ (4 + 78 * xl1) + 5 ≤ 2147483647 ∧ (0 : Int) ≤ (4 + 78 * xl1) + 5 ∧ (4 + 78 * xl1) + 5 < (562 : Int) ∧ (-2147483648 : Int) ≤ ((4 + 78 * xl1) + 18) + (rn_gi M 467 ((4 + 78 * xl1) + 5).toNat) ∧ ((4 + 78 * xl1) + 18) + (rn_gi M 467 ((4 + 78 * xl1) + 5).toNat) ≤ 2147483647 ∧ (0 : Int) ≤ ((4 + 78 * xl1) + 18) + (rn_gi M 467 ((4 + 78 * xl1) + 5).toNat) ∧ ((4 + 78 * xl1) + 18) + (rn_gi M 467 ((4 + 78 * xl1) + 5).toNat) < (562 : Int) ∧ (-2147483648 : Int) ≤ (rn_gi (rn_si M 467 (((4 + 78 * xl1) + 18) + (rn_gi M 467 ((4 + 78 * xl1) + 5).toNat)).toNat xl2) 467 ((4 + 78 * xl1) + 5).toNat) + 1 ∧ (rn_gi (rn_si M 467 (((4 + 78 * xl1) + 18) + (rn_gi M 467 ((4 + 78 * xl1) + 5).toNat)).toNat xl2) 467 ((4 + 78 * xl1) + 5).toNat) + 1 ≤ 2147483647) (k1 : Q none (rn_si (rn_si M 467 (((4 + 78 * xl1) + 18) + (rn_gi M 467 ((4 + 78 * xl1) + 5).toNat)).toNat xl2) 467 ((4 + 78 * xl1) + 5).toNat ((rn_gi (rn_si M 467 (((4 + 78 * xl1) + 18) + (rn_gi M 467 ((4 + 78 * xl1) + 5).toNat)).toNat xl2) 467 ((4 + 78 * xl1) + 5).toNat) + 1))) : rn_WP 141 0 [rn_R 466, rn_I xl1, rn_I xl2, vl3] [] M Q := by
  refine (rn_step (e := (.iload_n 1, 1, 1, 0, 0, 0, 0, [])) rfl).mpr ?_
  refine (rn_step (e := (.invokestatic 45, 4, 128, 1, 976, 0, 11, [0])) rfl).mpr (rc_Mo_riverAt (hr1.1) ?_)
  refine (rn_step (e := (.istore_n 3, 5, 3, 0, 0, 0, 0, [])) rfl).mpr ?_
  refine (rn_step (e := (.aload_n 0, 6, 0, 0, 0, 0, 0, [])) rfl).mpr ?_
  refine (rn_step (e := (.getfield 7, 9, 10, 0, 902, 2, 11, [])) rfl).mpr (And.intro ((rn_ks466 (M := M) hM)) (rn_cg (rn_g466_0 (M := M) hM) ?_))
  refine (rn_step (e := (.iload_n 3, 10, 3, 0, 0, 0, 0, [])) rfl).mpr ?_
  refine (rn_step (e := (.bipush 18, 12, 0, 0, 0, 0, 0, [])) rfl).mpr ?_
  refine (rn_step (e := (.iadd, 13, 0, 0, 0, 0, 0, [])) rfl).mpr (rn_cw hr1.2.1 hr1.2.2.1 ?_)
  refine (rn_step (e := (.aload_n 0, 14, 0, 0, 0, 0, 0, [])) rfl).mpr ?_
  refine (rn_step (e := (.getfield 7, 17, 10, 0, 902, 2, 11, [])) rfl).mpr (And.intro ((rn_ks466 (M := M) hM)) (rn_cg (rn_g466_0 (M := M) hM) ?_))
  refine (rn_step (e := (.iload_n 3, 18, 3, 0, 0, 0, 0, [])) rfl).mpr ?_
  refine (rn_step (e := (.iconst 5, 19, 0, 0, 0, 0, 0, [])) rfl).mpr ?_
  refine (rn_step (e := (.iadd, 20, 0, 0, 0, 0, 0, [])) rfl).mpr (rn_cw hr1.2.2.2.1 hr1.2.2.2.2.1 ?_)
  refine (rn_step (e := (.iaload, 21, 0, 0, 0, 0, 0, [])) rfl).mpr (And.intro (Or.inl (rn_w467 (M := M) hM).1) (And.intro ((And.intro (hr1.2.2.2.2.2.1) (rn_lt (rn_w467 (M := M) hM).2 hr1.2.2.2.2.2.2.1))) (?_)))
  refine (rn_step (e := (.iadd, 22, 0, 0, 0, 0, 0, [])) rfl).mpr (rn_cw hr1.2.2.2.2.2.2.2.1 hr1.2.2.2.2.2.2.2.2.1 ?_)
  refine (rn_step (e := (.iload_n 2, 23, 2, 0, 0, 0, 0, [])) rfl).mpr ?_
  refine (rn_step (e := (.iastore, 24, 0, 0, 0, 0, 0, [])) rfl).mpr (And.intro ((rn_w467 (M := M) hM).1) (And.intro ((And.intro (hr1.2.2.2.2.2.2.2.2.2.1) (rn_lt (rn_w467 (M := M) hM).2 hr1.2.2.2.2.2.2.2.2.2.2.1))) (?_)))
  refine (rn_step (e := (.aload_n 0, 25, 0, 0, 0, 0, 0, [])) rfl).mpr ?_
  refine (rn_step (e := (.getfield 7, 28, 10, 0, 902, 2, 11, [])) rfl).mpr (And.intro ((rn_ks466 (M := M) hM)) (rn_cg (rn_g466_0 (M := M) hM) ?_))
  refine (rn_step (e := (.iload_n 3, 29, 3, 0, 0, 0, 0, [])) rfl).mpr ?_
  refine (rn_step (e := (.iconst 5, 30, 0, 0, 0, 0, 0, [])) rfl).mpr ?_
  refine (rn_step (e := (.iadd, 31, 0, 0, 0, 0, 0, [])) rfl).mpr (rn_cw hr1.2.2.2.1 hr1.2.2.2.2.1 ?_)
  refine (rn_step (e := (.dup2, 32, 0, 0, 0, 0, 0, [])) rfl).mpr ?_
  refine (rn_step (e := (.iaload, 33, 0, 0, 0, 0, 0, [])) rfl).mpr (And.intro (Or.inl (rn_w467 (M := M) hM).1) (And.intro ((And.intro (hr1.2.2.2.2.2.1) (rn_lt (rn_w467 (M := M) hM).2 hr1.2.2.2.2.2.2.1))) (?_)))
  refine (rn_step (e := (.iconst 1, 34, 0, 0, 0, 0, 0, [])) rfl).mpr ?_
  refine (rn_step (e := (.iadd, 35, 0, 0, 0, 0, 0, [])) rfl).mpr (rn_cw hr1.2.2.2.2.2.2.2.2.2.2.2.1 hr1.2.2.2.2.2.2.2.2.2.2.2.2 ?_)
  refine (rn_step (e := (.iastore, 36, 0, 0, 0, 0, 0, [])) rfl).mpr (And.intro ((rn_w467 (M := M) hM).1) (And.intro ((And.intro (hr1.2.2.2.2.2.1) (rn_lt (rn_w467 (M := M) hM).2 hr1.2.2.2.2.2.2.1))) (?_)))
  exact (rn_step (e := (.return_, 37, 0, 0, 0, 0, 0, [])) rfl).mpr k1
theorem re_Mo_flow {M : rn_M} {Q : rn_Q} {v0 v1 v2 : rn_V} (h : rn_WP 142 0 [v0, v1, v2, rn_J] [] M Q) : rn_ME 142 [v0, v1, v2] M Q := h
set_option maxRecDepth 4000 in
theorem rb_Mo_flow_0 {M : rn_M} {Q : rn_Q} {xl1 : Int} {xl2 : Int} {vl3 : rn_V} (hM : rn_sh M)   (hr1 : (0 ≤ rn_gi M 467 0 ∧ rn_gi M 467 0 ≤ 100)) (k1 : (¬ (0 ≤ xl1 ∧ xl1 ≤ rn_gi M 467 0 - 1)) → Q (some (rn_I (-1))) M) (k2 : (0 ≤ xl1 ∧ xl1 ≤ rn_gi M 467 0 - 1) → (¬ (0 ≤ xl2 ∧ xl2 ≤ 7)) → Q (some (rn_I (-1))) M) (k3 : (0 ≤ xl1 ∧ xl1 ≤ rn_gi M 467 0 - 1) → (0 ≤ xl2 ∧ xl2 ≤ 7) → rn_ME 133 [rn_R 466, rn_I xl1] M (fun r M1 => rn_WP 142 25 [rn_R 466, rn_I xl1, rn_I xl2, vl3] (r.toList ++ []) M1 Q)) : rn_WP 142 0 [rn_R 466, rn_I xl1, rn_I xl2, vl3] [] M Q := by
  refine (rn_step (e := (.aload_n 0, 1, 0, 0, 0, 0, 0, [])) rfl).mpr ?_
  refine (rn_step (e := (.iload_n 1, 2, 1, 0, 0, 0, 0, [])) rfl).mpr ?_
  refine (rn_step (e := (.invokevirtual 84, 5, 127, 2, 994, 0, 11, [0])) rfl).mpr (And.intro ((rn_ks466 (M := M) hM)) ((rc_Mo_isRiver hM (hr1) ?_)))
  refine (rn_step (e := (.ifCond .eq 13, 8, 18, 0, 0, 0, 0, [])) rfl).mpr (And.intro (fun q => ?_) (fun q => ?_))
  · have c1 := rn_b0 q
    refine (rn_step (e := (.iconst (-1), 19, 0, 0, 0, 0, 0, [])) rfl).mpr ?_
    exact (rn_step (e := (.ireturn, 20, 0, 0, 0, 0, 0, [])) rfl).mpr (And.intro (trivial) ((k1 c1)))
  · have c1 := rn_b1 q
    refine (rn_step (e := (.iload_n 2, 9, 2, 0, 0, 0, 0, [])) rfl).mpr ?_
    refine (rn_step (e := (.iconst 0, 10, 0, 0, 0, 0, 0, [])) rfl).mpr ?_
    refine (rn_step (e := (.bipush 7, 12, 0, 0, 0, 0, 0, [])) rfl).mpr ?_
    refine (rn_step (e := (.invokestatic 41, 15, 124, 3, 956, 0, 11, [0])) rfl).mpr (rc_Mo_in  ?_)
    refine (rn_step (e := (.ifCond .ne 5, 18, 20, 0, 0, 0, 0, [])) rfl).mpr (And.intro (fun q => ?_) (fun q => ?_))
    · have c2 := rn_b0 q
      refine (rn_step (e := (.iconst (-1), 19, 0, 0, 0, 0, 0, [])) rfl).mpr ?_
      exact (rn_step (e := (.ireturn, 20, 0, 0, 0, 0, 0, [])) rfl).mpr (And.intro (trivial) ((k2 c1 c2)))
    · have c2 := rn_b1 q
      refine (rn_step (e := (.aload_n 0, 21, 0, 0, 0, 0, 0, [])) rfl).mpr ?_
      refine (rn_step (e := (.iload_n 1, 22, 1, 0, 0, 0, 0, [])) rfl).mpr ?_
      exact (rn_step (e := (.invokevirtual 87, 25, 133, 2, 998, 0, 11, [0])) rfl).mpr (And.intro ((rn_ks466 (M := M) hM)) ((k3 c1 c2)))
set_option maxRecDepth 4000 in
theorem rb_Mo_flow_25 {M : rn_M} {Q : rn_Q} {xl1 : Int} {xl2 : Int} {vl3 : rn_V} (hM : rn_sh M)   (hr1 : ((0 : Int) ≤ xl1 ∧ (xl1 : Int) ≤ 5) ∧ ((0 : Int) ≤ 5 ∧ (5 : Int) ≤ 77) ∧ (0 : Int) ≤ rn_o (rn_gi M 467) xl1 5 ∧ rn_o (rn_gi M 467) xl1 5 < (61 : Int) ∧ (-2147483648 : Int) ≤ rn_gi M 470 (rn_o (rn_gi M 467) xl1 5).toNat + (rn_sx xl2) ∧ rn_gi M 470 (rn_o (rn_gi M 467) xl1 5).toNat + (rn_sx xl2) ≤ 2147483647 ∧ (-2147483648 : Int) ≤ rn_gi M 471 (rn_o (rn_gi M 467) xl1 5).toNat + (rn_sy xl2) ∧ rn_gi M 471 (rn_o (rn_gi M 467) xl1 5).toNat + (rn_sy xl2) ≤ 2147483647) (k1 : (¬ ((0 ≤ rn_gi M 470 (rn_o (rn_gi M 467) xl1 5).toNat + (rn_sx xl2) ∧ rn_gi M 470 (rn_o (rn_gi M 467) xl1 5).toNat + (rn_sx xl2) < 60) ∧ 0 ≤ rn_gi M 471 (rn_o (rn_gi M 467) xl1 5).toNat + (rn_sy xl2) ∧ rn_gi M 471 (rn_o (rn_gi M 467) xl1 5).toNat + (rn_sy xl2) < 40)) → Q (some (rn_I (-2))) M) (k2 : ((0 ≤ rn_gi M 470 (rn_o (rn_gi M 467) xl1 5).toNat + (rn_sx xl2) ∧ rn_gi M 470 (rn_o (rn_gi M 467) xl1 5).toNat + (rn_sx xl2) < 60) ∧ 0 ≤ rn_gi M 471 (rn_o (rn_gi M 467) xl1 5).toNat + (rn_sy xl2) ∧ rn_gi M 471 (rn_o (rn_gi M 467) xl1 5).toNat + (rn_sy xl2) < 40) → (rn_o (rn_gi M 467) xl1 5 = 60) → Q (some (rn_I (-3))) M) (k3 : ((0 ≤ rn_gi M 470 (rn_o (rn_gi M 467) xl1 5).toNat + (rn_sx xl2) ∧ rn_gi M 470 (rn_o (rn_gi M 467) xl1 5).toNat + (rn_sx xl2) < 60) ∧ 0 ≤ rn_gi M 471 (rn_o (rn_gi M 467) xl1 5).toNat + (rn_sy xl2) ∧ rn_gi M 471 (rn_o (rn_gi M 467) xl1 5).toNat + (rn_sy xl2) < 40) → (¬ (rn_o (rn_gi M 467) xl1 5 = 60)) → rn_ME 125 [rn_R 466] M (fun r M1 => rn_WP 142 76 [rn_R 466, rn_I xl1, rn_I xl2, rn_I (rn_o (rn_gi M 467) xl1 5)] (r.toList ++ []) M1 Q)) : rn_WP 142 25 [rn_R 466, rn_I xl1, rn_I xl2, vl3] [] M Q := by
  refine (rn_step (e := (.aload_n 0, 26, 0, 0, 0, 0, 0, [])) rfl).mpr ?_
  refine (rn_step (e := (.iload_n 1, 27, 1, 0, 0, 0, 0, [])) rfl).mpr ?_
  refine (rn_step (e := (.iconst 5, 28, 0, 0, 0, 0, 0, [])) rfl).mpr ?_
  refine (rn_step (e := (.invokevirtual 49, 31, 129, 3, 1002, 0, 11, [0])) rfl).mpr (And.intro ((rn_ks466 (M := M) hM)) ((rc_Mo_of hM (hr1.1) (hr1.2.1) ?_)))
  refine (rn_step (e := (.istore_n 3, 32, 3, 0, 0, 0, 0, [])) rfl).mpr ?_
  refine (rn_step (e := (.aload_n 0, 33, 0, 0, 0, 0, 0, [])) rfl).mpr ?_
  refine (rn_step (e := (.getfield 19, 36, 10, 5, 907, 2, 11, [])) rfl).mpr (And.intro ((rn_ks466 (M := M) hM)) (rn_cg (rn_g466_5 (M := M) hM) ?_))
  refine (rn_step (e := (.iload_n 3, 37, 3, 0, 0, 0, 0, [])) rfl).mpr ?_
  refine (rn_step (e := (.iaload, 38, 0, 0, 0, 0, 0, [])) rfl).mpr (And.intro (Or.inl (rn_w470 (M := M) hM).1) (And.intro ((And.intro (hr1.2.2.1) (rn_lt (rn_w470 (M := M) hM).2 hr1.2.2.2.1))) (?_)))
  refine (rn_step (e := (.iload_n 2, 39, 2, 0, 0, 0, 0, [])) rfl).mpr ?_
  refine (rn_step (e := (.invokestatic 53, 42, 130, 1, 1006, 0, 11, [0])) rfl).mpr (rc_Mo_stepX  ?_)
  refine (rn_step (e := (.iadd, 43, 0, 0, 0, 0, 0, [])) rfl).mpr (rn_cw hr1.2.2.2.2.1 hr1.2.2.2.2.2.1 ?_)
  refine (rn_step (e := (.aload_n 0, 44, 0, 0, 0, 0, 0, [])) rfl).mpr ?_
  refine (rn_step (e := (.getfield 22, 47, 10, 6, 908, 2, 11, [])) rfl).mpr (And.intro ((rn_ks466 (M := M) hM)) (rn_cg (rn_g466_6 (M := M) hM) ?_))
  refine (rn_step (e := (.iload_n 3, 48, 3, 0, 0, 0, 0, [])) rfl).mpr ?_
  refine (rn_step (e := (.iaload, 49, 0, 0, 0, 0, 0, [])) rfl).mpr (And.intro (Or.inl (rn_w471 (M := M) hM).1) (And.intro ((And.intro (hr1.2.2.1) (rn_lt (rn_w471 (M := M) hM).2 hr1.2.2.2.1))) (?_)))
  refine (rn_step (e := (.iload_n 2, 50, 2, 0, 0, 0, 0, [])) rfl).mpr ?_
  refine (rn_step (e := (.invokestatic 56, 53, 131, 1, 1009, 0, 11, [0])) rfl).mpr (rc_Mo_stepY  ?_)
  refine (rn_step (e := (.iadd, 54, 0, 0, 0, 0, 0, [])) rfl).mpr (rn_cw hr1.2.2.2.2.2.2.1 hr1.2.2.2.2.2.2.2 ?_)
  refine (rn_step (e := (.invokestatic 59, 57, 132, 2, 959, 0, 11, [0])) rfl).mpr (rc_Mo_isOnMap  ?_)
  refine (rn_step (e := (.ifCond .ne 6, 60, 63, 0, 0, 0, 0, [])) rfl).mpr (And.intro (fun q => ?_) (fun q => ?_))
  · have c1 := rn_b0 q
    refine (rn_step (e := (.bipush (-2), 62, 0, 0, 0, 0, 0, [])) rfl).mpr ?_
    exact (rn_step (e := (.ireturn, 63, 0, 0, 0, 0, 0, [])) rfl).mpr (And.intro (trivial) ((k1 c1)))
  · have c1 := rn_b1 q
    refine (rn_step (e := (.iload_n 3, 64, 3, 0, 0, 0, 0, [])) rfl).mpr ?_
    refine (rn_step (e := (.bipush 60, 66, 0, 0, 0, 0, 0, [])) rfl).mpr ?_
    refine (rn_step (e := (.if_icmp .ne 6, 69, 72, 0, 0, 0, 0, [])) rfl).mpr (And.intro (fun c2 => ?_) (fun c2 => ?_))
    ·
      refine (rn_step (e := (.bipush (-3), 71, 0, 0, 0, 0, 0, [])) rfl).mpr ?_
      exact (rn_step (e := (.ireturn, 72, 0, 0, 0, 0, 0, [])) rfl).mpr (And.intro (trivial) ((k2 c1 c2)))
    ·
      refine (rn_step (e := (.aload_n 0, 73, 0, 0, 0, 0, 0, [])) rfl).mpr ?_
      exact (rn_step (e := (.invokevirtual 70, 76, 125, 1, 968, 0, 11, [0])) rfl).mpr (And.intro ((rn_ks466 (M := M) hM)) ((k3 c1 c2)))
set_option maxRecDepth 4000 in
theorem rb_Mo_flow_76 {M : rn_M} {Q : rn_Q} {xl1 : Int} {xl2 : Int} {vl3 : rn_V} (hM : rn_sh M)   (k1 : rn_ME 141 [rn_R 466, rn_I xl1, rn_I xl2] M (fun r M1 => rn_WP 142 82 [rn_R 466, rn_I xl1, rn_I xl2, vl3] (r.toList ++ []) M1 Q)) : rn_WP 142 76 [rn_R 466, rn_I xl1, rn_I xl2, vl3] [] M Q := by
  refine (rn_step (e := (.aload_n 0, 77, 0, 0, 0, 0, 0, [])) rfl).mpr ?_
  refine (rn_step (e := (.iload_n 1, 78, 1, 0, 0, 0, 0, [])) rfl).mpr ?_
  refine (rn_step (e := (.iload_n 2, 79, 2, 0, 0, 0, 0, [])) rfl).mpr ?_
  exact (rn_step (e := (.invokevirtual 91, 82, 141, 3, 1012, 0, 11, [0])) rfl).mpr (And.intro ((rn_ks466 (M := M) hM)) (k1))
set_option maxRecDepth 4000 in
theorem rb_Mo_flow_82 {M : rn_M} {Q : rn_Q} {vl0 : rn_V} {vl1 : rn_V} {vl2 : rn_V} {xl3 : Int}   (hr1 : (-2147483648 : Int) ≤ xl3 + 1 ∧ xl3 + 1 ≤ 2147483647) (k1 : Q (some (rn_I (xl3 + 1))) M) : rn_WP 142 82 [vl0, vl1, vl2, rn_I xl3] [] M Q := by
  refine (rn_step (e := (.iload_n 3, 83, 3, 0, 0, 0, 0, [])) rfl).mpr ?_
  refine (rn_step (e := (.iconst 1, 84, 0, 0, 0, 0, 0, [])) rfl).mpr ?_
  refine (rn_step (e := (.iadd, 85, 0, 0, 0, 0, 0, [])) rfl).mpr (rn_cw hr1.1 hr1.2 ?_)
  exact (rn_step (e := (.ireturn, 86, 0, 0, 0, 0, 0, [])) rfl).mpr (And.intro (trivial) (k1))
theorem re_Mo_puts {M : rn_M} {Q : rn_Q} {v0 v1 v2 : rn_V} (h : rn_WP 143 0 [v0, v1, v2, rn_J] [] M Q) : rn_ME 143 [v0, v1, v2] M Q := h
set_option maxRecDepth 4000 in
theorem rb_Mo_puts_0 {M : rn_M} {Q : rn_Q} {vl1 : rn_V} {vl2 : rn_V} {vl3 : rn_V} (hM : rn_sh M)   (k1 : rn_ME 125 [rn_R 466] M (fun r M1 => rn_WP 143 4 [rn_R 466, vl1, vl2, vl3] (r.toList ++ []) M1 Q)) : rn_WP 143 0 [rn_R 466, vl1, vl2, vl3] [] M Q := by
  refine (rn_step (e := (.aload_n 0, 1, 0, 0, 0, 0, 0, [])) rfl).mpr ?_
  exact (rn_step (e := (.invokevirtual 70, 4, 125, 1, 968, 0, 11, [0])) rfl).mpr (And.intro ((rn_ks466 (M := M) hM)) (k1))
set_option maxRecDepth 4000 in
theorem rb_Mo_puts_4 {M : rn_M} {Q : rn_Q} {xl1 : Int} {xl2 : Int} {vl3 : rn_V} (hM : rn_sh M)   (hr1 : (0 : Int) ≤ xl1 ∧ xl1 < (562 : Int)) (k1 : Q (some (rn_I (rn_gi M 467 (xl1).toNat))) (rn_si M 467 (xl1).toNat xl2)) : rn_WP 143 4 [rn_R 466, rn_I xl1, rn_I xl2, vl3] [] M Q := by
  refine (rn_step (e := (.aload_n 0, 5, 0, 0, 0, 0, 0, [])) rfl).mpr ?_
  refine (rn_step (e := (.getfield 7, 8, 10, 0, 902, 2, 11, [])) rfl).mpr (And.intro ((rn_ks466 (M := M) hM)) (rn_cg (rn_g466_0 (M := M) hM) ?_))
  refine (rn_step (e := (.iload_n 1, 9, 1, 0, 0, 0, 0, [])) rfl).mpr ?_
  refine (rn_step (e := (.iaload, 10, 0, 0, 0, 0, 0, [])) rfl).mpr (And.intro (Or.inl (rn_w467 (M := M) hM).1) (And.intro ((And.intro (hr1.1) (rn_lt (rn_w467 (M := M) hM).2 hr1.2))) (?_)))
  refine (rn_step (e := (.istore_n 3, 11, 3, 0, 0, 0, 0, [])) rfl).mpr ?_
  refine (rn_step (e := (.aload_n 0, 12, 0, 0, 0, 0, 0, [])) rfl).mpr ?_
  refine (rn_step (e := (.getfield 7, 15, 10, 0, 902, 2, 11, [])) rfl).mpr (And.intro ((rn_ks466 (M := M) hM)) (rn_cg (rn_g466_0 (M := M) hM) ?_))
  refine (rn_step (e := (.iload_n 1, 16, 1, 0, 0, 0, 0, [])) rfl).mpr ?_
  refine (rn_step (e := (.iload_n 2, 17, 2, 0, 0, 0, 0, [])) rfl).mpr ?_
  refine (rn_step (e := (.iastore, 18, 0, 0, 0, 0, 0, [])) rfl).mpr (And.intro ((rn_w467 (M := M) hM).1) (And.intro ((And.intro (hr1.1) (rn_lt (rn_w467 (M := M) hM).2 hr1.2))) (?_)))
  refine (rn_step (e := (.iload_n 3, 19, 3, 0, 0, 0, 0, [])) rfl).mpr ?_
  exact (rn_step (e := (.ireturn, 20, 0, 0, 0, 0, 0, [])) rfl).mpr (And.intro (trivial) (k1))
theorem re_Mo_setRank {M : rn_M} {Q : rn_Q} {v0 v1 v2 : rn_V} (h : rn_WP 144 0 [v0, v1, v2] [] M Q) : rn_ME 144 [v0, v1, v2] M Q := h
set_option maxRecDepth 4000 in
theorem rb_Mo_setRank_0 {M : rn_M} {Q : rn_Q} {xl1 : Int} {xl2 : Int} (hM : rn_sh M)   (hr1 : (0 ≤ rn_gi M 467 0 ∧ rn_gi M 467 0 ≤ 100)) (hr2 : (0 ≤ xl1 ∧ xl1 ≤ rn_gi M 467 0 - 1) → (1 ≤ xl2 ∧ xl2 ≤ 9) → ((0 : Int) ≤ xl1 ∧ (xl1 : Int) ≤ 10) ∧ (-2147483648 : Int) ≤ (4 + 78 * xl1) + 1 ∧ (4 + 78 * xl1) + 1 ≤ 2147483647) (k1 : (¬ (0 ≤ xl1 ∧ xl1 ≤ rn_gi M 467 0 - 1)) → Q (some (rn_I (-1))) M) (k2 : (0 ≤ xl1 ∧ xl1 ≤ rn_gi M 467 0 - 1) → (¬ (1 ≤ xl2 ∧ xl2 ≤ 9)) → Q (some (rn_I (-1))) M) (k3 : (0 ≤ xl1 ∧ xl1 ≤ rn_gi M 467 0 - 1) → (1 ≤ xl2 ∧ xl2 ≤ 9) → rn_ME 143 [rn_R 466, rn_I ((4 + 78 * xl1) + 1), rn_I xl2] M (fun r M1 => rn_WP 144 26 [rn_R 466, rn_I xl1, rn_I xl2] (r.toList ++ []) M1 Q)) : rn_WP 144 0 [rn_R 466, rn_I xl1, rn_I xl2] [] M Q := by
  refine (rn_step (e := (.aload_n 0, 1, 0, 0, 0, 0, 0, [])) rfl).mpr ?_
  refine (rn_step (e := (.iload_n 1, 2, 1, 0, 0, 0, 0, [])) rfl).mpr ?_
  refine (rn_step (e := (.invokevirtual 84, 5, 127, 2, 994, 0, 11, [0])) rfl).mpr (And.intro ((rn_ks466 (M := M) hM)) ((rc_Mo_isRiver hM (hr1) ?_)))
  refine (rn_step (e := (.ifCond .eq 24, 8, 29, 0, 0, 0, 0, [])) rfl).mpr (And.intro (fun q => ?_) (fun q => ?_))
  · have c1 := rn_b0 q
    refine (rn_step (e := (.iconst (-1), 30, 0, 0, 0, 0, 0, [])) rfl).mpr ?_
    exact (rn_step (e := (.ireturn, 31, 0, 0, 0, 0, 0, [])) rfl).mpr (And.intro (trivial) ((k1 c1)))
  · have c1 := rn_b1 q
    refine (rn_step (e := (.iload_n 2, 9, 2, 0, 0, 0, 0, [])) rfl).mpr ?_
    refine (rn_step (e := (.invokestatic 63, 12, 134, 1, 962, 0, 11, [0])) rfl).mpr (rc_Mo_isRank  ?_)
    refine (rn_step (e := (.ifCond .eq 17, 15, 29, 0, 0, 0, 0, [])) rfl).mpr (And.intro (fun q => ?_) (fun q => ?_))
    · have c2 := rn_b0 q
      refine (rn_step (e := (.iconst (-1), 30, 0, 0, 0, 0, 0, [])) rfl).mpr ?_
      exact (rn_step (e := (.ireturn, 31, 0, 0, 0, 0, 0, [])) rfl).mpr (And.intro (trivial) ((k2 c1 c2)))
    · have c2 := rn_b1 q
      refine (rn_step (e := (.aload_n 0, 16, 0, 0, 0, 0, 0, [])) rfl).mpr ?_
      refine (rn_step (e := (.iload_n 1, 17, 1, 0, 0, 0, 0, [])) rfl).mpr ?_
      refine (rn_step (e := (.invokestatic 45, 20, 128, 1, 976, 0, 11, [0])) rfl).mpr (rc_Mo_riverAt ((hr2 c1 c2).1) ?_)
      refine (rn_step (e := (.iconst 1, 21, 0, 0, 0, 0, 0, [])) rfl).mpr ?_
      refine (rn_step (e := (.iadd, 22, 0, 0, 0, 0, 0, [])) rfl).mpr (rn_cw (hr2 c1 c2).2.1 (hr2 c1 c2).2.2 ?_)
      refine (rn_step (e := (.iload_n 2, 23, 2, 0, 0, 0, 0, [])) rfl).mpr ?_
      exact (rn_step (e := (.invokevirtual 95, 26, 143, 3, 1020, 0, 11, [0])) rfl).mpr (And.intro ((rn_ks466 (M := M) hM)) ((k3 c1 c2)))
set_option maxRecDepth 4000 in
theorem rb_Mo_setRank_26 {M : rn_M} {Q : rn_Q} {vl0 : rn_V} {vl1 : rn_V} {vl2 : rn_V} {xs0 : Int}   (k1 : Q (some (rn_I xs0)) M) : rn_WP 144 26 [vl0, vl1, vl2] [rn_I xs0] M Q := by
  refine (rn_step (e := (.goto 4, 29, 30, 0, 0, 0, 0, [])) rfl).mpr ?_
  exact (rn_step (e := (.ireturn, 31, 0, 0, 0, 0, 0, [])) rfl).mpr (And.intro (trivial) (k1))
theorem re_Mo_setHalo {M : rn_M} {Q : rn_Q} {v0 v1 v2 : rn_V} (h : rn_WP 145 0 [v0, v1, v2] [] M Q) : rn_ME 145 [v0, v1, v2] M Q := h
set_option maxRecDepth 4000 in
theorem rb_Mo_setHalo_0 {M : rn_M} {Q : rn_Q} {xl1 : Int} {xl2 : Int} (hM : rn_sh M)   (hr1 : (0 ≤ rn_gi M 467 0 ∧ rn_gi M 467 0 ≤ 100)) (hr2 : (0 ≤ xl1 ∧ xl1 ≤ rn_gi M 467 0 - 1) → (0 ≤ xl2 ∧ xl2 ≤ 2) → ((0 : Int) ≤ xl1 ∧ (xl1 : Int) ≤ 10) ∧ (-2147483648 : Int) ≤ (4 + 78 * xl1) + 2 ∧ (4 + 78 * xl1) + 2 ≤ 2147483647) (k1 : (¬ (0 ≤ xl1 ∧ xl1 ≤ rn_gi M 467 0 - 1)) → Q (some (rn_I (-1))) M) (k2 : (0 ≤ xl1 ∧ xl1 ≤ rn_gi M 467 0 - 1) → (¬ (0 ≤ xl2 ∧ xl2 ≤ 2)) → Q (some (rn_I (-1))) M) (k3 : (0 ≤ xl1 ∧ xl1 ≤ rn_gi M 467 0 - 1) → (0 ≤ xl2 ∧ xl2 ≤ 2) → rn_ME 143 [rn_R 466, rn_I ((4 + 78 * xl1) + 2), rn_I xl2] M (fun r M1 => rn_WP 145 26 [rn_R 466, rn_I xl1, rn_I xl2] (r.toList ++ []) M1 Q)) : rn_WP 145 0 [rn_R 466, rn_I xl1, rn_I xl2] [] M Q := by
  refine (rn_step (e := (.aload_n 0, 1, 0, 0, 0, 0, 0, [])) rfl).mpr ?_
  refine (rn_step (e := (.iload_n 1, 2, 1, 0, 0, 0, 0, [])) rfl).mpr ?_
  refine (rn_step (e := (.invokevirtual 84, 5, 127, 2, 994, 0, 11, [0])) rfl).mpr (And.intro ((rn_ks466 (M := M) hM)) ((rc_Mo_isRiver hM (hr1) ?_)))
  refine (rn_step (e := (.ifCond .eq 24, 8, 29, 0, 0, 0, 0, [])) rfl).mpr (And.intro (fun q => ?_) (fun q => ?_))
  · have c1 := rn_b0 q
    refine (rn_step (e := (.iconst (-1), 30, 0, 0, 0, 0, 0, [])) rfl).mpr ?_
    exact (rn_step (e := (.ireturn, 31, 0, 0, 0, 0, 0, [])) rfl).mpr (And.intro (trivial) ((k1 c1)))
  · have c1 := rn_b1 q
    refine (rn_step (e := (.iload_n 2, 9, 2, 0, 0, 0, 0, [])) rfl).mpr ?_
    refine (rn_step (e := (.invokestatic 67, 12, 135, 1, 965, 0, 11, [0])) rfl).mpr (rc_Mo_isHalo  ?_)
    refine (rn_step (e := (.ifCond .eq 17, 15, 29, 0, 0, 0, 0, [])) rfl).mpr (And.intro (fun q => ?_) (fun q => ?_))
    · have c2 := rn_b0 q
      refine (rn_step (e := (.iconst (-1), 30, 0, 0, 0, 0, 0, [])) rfl).mpr ?_
      exact (rn_step (e := (.ireturn, 31, 0, 0, 0, 0, 0, [])) rfl).mpr (And.intro (trivial) ((k2 c1 c2)))
    · have c2 := rn_b1 q
      refine (rn_step (e := (.aload_n 0, 16, 0, 0, 0, 0, 0, [])) rfl).mpr ?_
      refine (rn_step (e := (.iload_n 1, 17, 1, 0, 0, 0, 0, [])) rfl).mpr ?_
      refine (rn_step (e := (.invokestatic 45, 20, 128, 1, 976, 0, 11, [0])) rfl).mpr (rc_Mo_riverAt ((hr2 c1 c2).1) ?_)
      refine (rn_step (e := (.iconst 2, 21, 0, 0, 0, 0, 0, [])) rfl).mpr ?_
      refine (rn_step (e := (.iadd, 22, 0, 0, 0, 0, 0, [])) rfl).mpr (rn_cw (hr2 c1 c2).2.1 (hr2 c1 c2).2.2 ?_)
      refine (rn_step (e := (.iload_n 2, 23, 2, 0, 0, 0, 0, [])) rfl).mpr ?_
      exact (rn_step (e := (.invokevirtual 95, 26, 143, 3, 1020, 0, 11, [0])) rfl).mpr (And.intro ((rn_ks466 (M := M) hM)) ((k3 c1 c2)))
set_option maxRecDepth 4000 in
theorem rb_Mo_setHalo_26 {M : rn_M} {Q : rn_Q} {vl0 : rn_V} {vl1 : rn_V} {vl2 : rn_V} {xs0 : Int}   (k1 : Q (some (rn_I xs0)) M) : rn_WP 145 26 [vl0, vl1, vl2] [rn_I xs0] M Q := by
  refine (rn_step (e := (.goto 4, 29, 30, 0, 0, 0, 0, [])) rfl).mpr ?_
  exact (rn_step (e := (.ireturn, 31, 0, 0, 0, 0, 0, [])) rfl).mpr (And.intro (trivial) (k1))
theorem re_Mo_setTownRank {M : rn_M} {Q : rn_Q} {v0 v1 v2 : rn_V} (h : rn_WP 147 0 [v0, v1, v2] [] M Q) : rn_ME 147 [v0, v1, v2] M Q := h
set_option maxRecDepth 4000 in
theorem rb_Mo_setTownRank_0 {M : rn_M} {Q : rn_Q} {xl1 : Int} {xl2 : Int} (hM : rn_sh M)   (hr1 : (0 ≤ rn_gi M 467 1 ∧ rn_gi M 467 1 ≤ 100)) (hr2 : (0 ≤ xl1 ∧ xl1 ≤ rn_gi M 467 1 - 1) → (1 ≤ xl2 ∧ xl2 ≤ 9) → (-2147483648 : Int) ≤ 5 * xl1 ∧ 5 * xl1 ≤ 2147483647 ∧ (-2147483648 : Int) ≤ 472 + (5 * xl1) ∧ 472 + (5 * xl1) ≤ 2147483647 ∧ (-2147483648 : Int) ≤ (472 + (5 * xl1)) + 4 ∧ (472 + (5 * xl1)) + 4 ≤ 2147483647) (k1 : (¬ (0 ≤ xl1 ∧ xl1 ≤ rn_gi M 467 1 - 1)) → Q (some (rn_I (-1))) M) (k2 : (0 ≤ xl1 ∧ xl1 ≤ rn_gi M 467 1 - 1) → (¬ (1 ≤ xl2 ∧ xl2 ≤ 9)) → Q (some (rn_I (-1))) M) (k3 : (0 ≤ xl1 ∧ xl1 ≤ rn_gi M 467 1 - 1) → (1 ≤ xl2 ∧ xl2 ≤ 9) → rn_ME 143 [rn_R 466, rn_I ((472 + (5 * xl1)) + 4), rn_I xl2] M (fun r M1 => rn_WP 147 29 [rn_R 466, rn_I xl1, rn_I xl2] (r.toList ++ []) M1 Q)) : rn_WP 147 0 [rn_R 466, rn_I xl1, rn_I xl2] [] M Q := by
  refine (rn_step (e := (.aload_n 0, 1, 0, 0, 0, 0, 0, [])) rfl).mpr ?_
  refine (rn_step (e := (.iload_n 1, 2, 1, 0, 0, 0, 0, [])) rfl).mpr ?_
  refine (rn_step (e := (.invokevirtual 98, 5, 146, 2, 1032, 0, 11, [0])) rfl).mpr (And.intro ((rn_ks466 (M := M) hM)) ((rc_Mo_isTownNumber hM (hr1) ?_)))
  refine (rn_step (e := (.ifCond .eq 27, 8, 32, 0, 0, 0, 0, [])) rfl).mpr (And.intro (fun q => ?_) (fun q => ?_))
  · have c1 := rn_b0 q
    refine (rn_step (e := (.iconst (-1), 33, 0, 0, 0, 0, 0, [])) rfl).mpr ?_
    exact (rn_step (e := (.ireturn, 34, 0, 0, 0, 0, 0, [])) rfl).mpr (And.intro (trivial) ((k1 c1)))
  · have c1 := rn_b1 q
    refine (rn_step (e := (.iload_n 2, 9, 2, 0, 0, 0, 0, [])) rfl).mpr ?_
    refine (rn_step (e := (.invokestatic 63, 12, 134, 1, 962, 0, 11, [0])) rfl).mpr (rc_Mo_isRank  ?_)
    refine (rn_step (e := (.ifCond .eq 20, 15, 32, 0, 0, 0, 0, [])) rfl).mpr (And.intro (fun q => ?_) (fun q => ?_))
    · have c2 := rn_b0 q
      refine (rn_step (e := (.iconst (-1), 33, 0, 0, 0, 0, 0, [])) rfl).mpr ?_
      exact (rn_step (e := (.ireturn, 34, 0, 0, 0, 0, 0, [])) rfl).mpr (And.intro (trivial) ((k2 c1 c2)))
    · have c2 := rn_b1 q
      refine (rn_step (e := (.aload_n 0, 16, 0, 0, 0, 0, 0, [])) rfl).mpr ?_
      refine (rn_step (e := (.sipush 472, 19, 0, 0, 0, 0, 0, [])) rfl).mpr ?_
      refine (rn_step (e := (.iconst 5, 20, 0, 0, 0, 0, 0, [])) rfl).mpr ?_
      refine (rn_step (e := (.iload_n 1, 21, 1, 0, 0, 0, 0, [])) rfl).mpr ?_
      refine (rn_step (e := (.imul, 22, 0, 0, 0, 0, 0, [])) rfl).mpr (rn_cw (hr2 c1 c2).1 (hr2 c1 c2).2.1 ?_)
      refine (rn_step (e := (.iadd, 23, 0, 0, 0, 0, 0, [])) rfl).mpr (rn_cw (hr2 c1 c2).2.2.1 (hr2 c1 c2).2.2.2.1 ?_)
      refine (rn_step (e := (.iconst 4, 24, 0, 0, 0, 0, 0, [])) rfl).mpr ?_
      refine (rn_step (e := (.iadd, 25, 0, 0, 0, 0, 0, [])) rfl).mpr (rn_cw (hr2 c1 c2).2.2.2.2.1 (hr2 c1 c2).2.2.2.2.2 ?_)
      refine (rn_step (e := (.iload_n 2, 26, 2, 0, 0, 0, 0, [])) rfl).mpr ?_
      exact (rn_step (e := (.invokevirtual 95, 29, 143, 3, 1020, 0, 11, [0])) rfl).mpr (And.intro ((rn_ks466 (M := M) hM)) ((k3 c1 c2)))
set_option maxRecDepth 4000 in
theorem rb_Mo_setTownRank_29 {M : rn_M} {Q : rn_Q} {vl0 : rn_V} {vl1 : rn_V} {vl2 : rn_V} {xs0 : Int}   (k1 : Q (some (rn_I xs0)) M) : rn_WP 147 29 [vl0, vl1, vl2] [rn_I xs0] M Q := by
  refine (rn_step (e := (.goto 4, 32, 33, 0, 0, 0, 0, [])) rfl).mpr ?_
  exact (rn_step (e := (.ireturn, 34, 0, 0, 0, 0, 0, [])) rfl).mpr (And.intro (trivial) (k1))
theorem re_Mo_setGap {M : rn_M} {Q : rn_Q} {v0 v1 : rn_V} (h : rn_WP 148 0 [v0, v1] [] M Q) : rn_ME 148 [v0, v1] M Q := h
set_option maxRecDepth 4000 in
theorem rb_Mo_setGap_0 {M : rn_M} {Q : rn_Q} {xl1 : Int} (hM : rn_sh M)   (k1 : (¬ (0 ≤ xl1 ∧ xl1 ≤ 60)) → Q (some (rn_I (-1))) M) (k2 : (0 ≤ xl1 ∧ xl1 ≤ 60) → rn_ME 143 [rn_R 466, rn_I 3, rn_I xl1] M (fun r M1 => rn_WP 148 16 [rn_R 466, rn_I xl1] (r.toList ++ []) M1 Q)) : rn_WP 148 0 [rn_R 466, rn_I xl1] [] M Q := by
  refine (rn_step (e := (.iload_n 1, 1, 1, 0, 0, 0, 0, [])) rfl).mpr ?_
  refine (rn_step (e := (.iconst 0, 2, 0, 0, 0, 0, 0, [])) rfl).mpr ?_
  refine (rn_step (e := (.bipush 60, 4, 0, 0, 0, 0, 0, [])) rfl).mpr ?_
  refine (rn_step (e := (.invokestatic 41, 7, 124, 3, 956, 0, 11, [0])) rfl).mpr (rc_Mo_in  ?_)
  refine (rn_step (e := (.ifCond .eq 12, 10, 19, 0, 0, 0, 0, [])) rfl).mpr (And.intro (fun q => ?_) (fun q => ?_))
  · have c1 := rn_b0 q
    refine (rn_step (e := (.iconst (-1), 20, 0, 0, 0, 0, 0, [])) rfl).mpr ?_
    exact (rn_step (e := (.ireturn, 21, 0, 0, 0, 0, 0, [])) rfl).mpr (And.intro (trivial) ((k1 c1)))
  · have c1 := rn_b1 q
    refine (rn_step (e := (.aload_n 0, 11, 0, 0, 0, 0, 0, [])) rfl).mpr ?_
    refine (rn_step (e := (.iconst 3, 12, 0, 0, 0, 0, 0, [])) rfl).mpr ?_
    refine (rn_step (e := (.iload_n 1, 13, 1, 0, 0, 0, 0, [])) rfl).mpr ?_
    exact (rn_step (e := (.invokevirtual 95, 16, 143, 3, 1020, 0, 11, [0])) rfl).mpr (And.intro ((rn_ks466 (M := M) hM)) ((k2 c1)))
set_option maxRecDepth 4000 in
theorem rb_Mo_setGap_16 {M : rn_M} {Q : rn_Q} {vl0 : rn_V} {vl1 : rn_V} {xs0 : Int}   (k1 : Q (some (rn_I xs0)) M) : rn_WP 148 16 [vl0, vl1] [rn_I xs0] M Q := by
  refine (rn_step (e := (.goto 4, 19, 20, 0, 0, 0, 0, [])) rfl).mpr ?_
  exact (rn_step (e := (.ireturn, 21, 0, 0, 0, 0, 0, [])) rfl).mpr (And.intro (trivial) (k1))
