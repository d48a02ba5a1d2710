theorem re_Mo_bendOf {M : rn_M} {Q : rn_Q} {v0 v1 v2 v3 : rn_V} (h : rn_WP 150 0 [v0, v1, v2, v3, rn_J, rn_J] [] M Q) : rn_ME 150 [v0, v1, v2, v3] M Q := h
set_option maxRecDepth 4000 in
theorem rb_Mo_bendOf_0 {M : rn_M} {Q : rn_Q} {vl0 : rn_V} {vl1 : rn_V} {xl2 : Int} {vl3 : rn_V} {vl4 : rn_V} {vl5 : rn_V}   (hr1 : (-2147483648 : Int) ≤ xl2 + 1 ∧ xl2 + 1 ≤ 2147483647) (k1 : rn_WP 150 8 [vl0, vl1, rn_I xl2, vl3, rn_I 0, rn_I (xl2 + 1)] [] M Q) : rn_WP 150 0 [vl0, vl1, rn_I xl2, vl3, vl4, vl5] [] M Q := by
  refine (rn_step (e := (.iconst 0, 1, 0, 0, 0, 0, 0, [])) rfl).mpr ?_
  refine (rn_step (e := (.istore 4, 3, 4, 0, 0, 0, 0, [])) rfl).mpr ?_
  refine (rn_step (e := (.iload_n 2, 4, 2, 0, 0, 0, 0, [])) rfl).mpr ?_
  refine (rn_step (e := (.iconst 1, 5, 0, 0, 0, 0, 0, [])) rfl).mpr ?_
  refine (rn_step (e := (.iadd, 6, 0, 0, 0, 0, 0, [])) rfl).mpr (rn_cw hr1.1 hr1.2 ?_)
  refine (rn_step (e := (.istore 5, 8, 5, 0, 0, 0, 0, [])) rfl).mpr ?_
  exact k1
set_option maxRecDepth 4000 in
theorem rb_Mo_bendOf_8 {M : rn_M} {Q : rn_Q} {xl1 : Int} {xl2 : Int} {xl3 : Int} {xl4 : Int} {xl5 : Int} (hM : rn_sh M)   (hr1 : (-2147483648 : Int) ≤ xl2 + xl3 ∧ xl2 + xl3 ≤ 2147483647 ∧ (-2147483648 : Int) ≤ (xl2 + xl3) - 1 ∧ (xl2 + xl3) - 1 ≤ 2147483647) (hr2 : (xl5 < (xl2 + xl3) - 1) → (-2147483648 : Int) ≤ 18 + xl5 ∧ 18 + xl5 ≤ 2147483647 ∧ (-2147483648 : Int) ≤ (18 + xl5) - 1 ∧ (18 + xl5) - 1 ≤ 2147483647 ∧ ((0 : Int) ≤ xl1 ∧ (xl1 : Int) ≤ 5) ∧ ((0 : Int) ≤ (18 + xl5) - 1 ∧ ((18 + xl5) - 1 : Int) ≤ 77) ∧ ((0 : Int) ≤ 18 + xl5 ∧ (18 + xl5 : Int) ≤ 77) ∧ ((-100 : Int) ≤ rn_o (rn_gi M 467) xl1 ((18 + xl5) - 1) ∧ (rn_o (rn_gi M 467) xl1 ((18 + xl5) - 1) : Int) ≤ 100 ∧ (-100 : Int) ≤ rn_o (rn_gi M 467) xl1 (18 + xl5) ∧ (rn_o (rn_gi M 467) xl1 (18 + xl5) : Int) ≤ 100) ∧ (-2147483648 : Int) ≤ xl4 + (rn_tu (rn_o (rn_gi M 467) xl1 ((18 + xl5) - 1)) (rn_o (rn_gi M 467) xl1 (18 + xl5))) ∧ xl4 + (rn_tu (rn_o (rn_gi M 467) xl1 ((18 + xl5) - 1)) (rn_o (rn_gi M 467) xl1 (18 + xl5))) ≤ 2147483647 ∧ (-2147483648 : Int) ≤ xl5 + 1 ∧ xl5 + 1 ≤ 2147483647) (k1 : (xl5 < (xl2 + xl3) - 1) → rn_WP 150 8 [rn_R 466, rn_I xl1, rn_I xl2, rn_I xl3, rn_I (xl4 + (rn_tu (rn_o (rn_gi M 467) xl1 ((18 + xl5) - 1)) (rn_o (rn_gi M 467) xl1 (18 + xl5)))), rn_I (xl5 + 1)] [] M Q) (k2 : (¬ (xl5 < (xl2 + xl3) - 1)) → Q (some (rn_I xl4)) M) : rn_WP 150 8 [rn_R 466, rn_I xl1, rn_I xl2, rn_I xl3, rn_I xl4, rn_I xl5] [] M Q := by
  refine (rn_step (e := (.iload 5, 10, 5, 0, 0, 0, 0, [])) rfl).mpr ?_
  refine (rn_step (e := (.iload_n 2, 11, 2, 0, 0, 0, 0, [])) rfl).mpr ?_
  refine (rn_step (e := (.iload_n 3, 12, 3, 0, 0, 0, 0, [])) rfl).mpr ?_
  refine (rn_step (e := (.iadd, 13, 0, 0, 0, 0, 0, [])) rfl).mpr (rn_cw hr1.1 hr1.2.1 ?_)
  refine (rn_step (e := (.iconst 1, 14, 0, 0, 0, 0, 0, [])) rfl).mpr ?_
  refine (rn_step (e := (.isub, 15, 0, 0, 0, 0, 0, [])) rfl).mpr (rn_cw hr1.2.2.1 hr1.2.2.2 ?_)
  refine (rn_step (e := (.if_icmp .ge 39, 18, 54, 0, 0, 0, 0, [])) rfl).mpr (And.intro (fun c1 => ?_) (fun c1 => ?_))
  ·
    refine (rn_step (e := (.iload 4, 20, 4, 0, 0, 0, 0, [])) rfl).mpr ?_
    refine (rn_step (e := (.aload_n 0, 21, 0, 0, 0, 0, 0, [])) rfl).mpr ?_
    refine (rn_step (e := (.iload_n 1, 22, 1, 0, 0, 0, 0, [])) rfl).mpr ?_
    refine (rn_step (e := (.bipush 18, 24, 0, 0, 0, 0, 0, [])) rfl).mpr ?_
    refine (rn_step (e := (.iload 5, 26, 5, 0, 0, 0, 0, [])) rfl).mpr ?_
    refine (rn_step (e := (.iadd, 27, 0, 0, 0, 0, 0, [])) rfl).mpr (rn_cw (hr2 c1).1 (hr2 c1).2.1 ?_)
    refine (rn_step (e := (.iconst 1, 28, 0, 0, 0, 0, 0, [])) rfl).mpr ?_
    refine (rn_step (e := (.isub, 29, 0, 0, 0, 0, 0, [])) rfl).mpr (rn_cw (hr2 c1).2.2.1 (hr2 c1).2.2.2.1 ?_)
    refine (rn_step (e := (.invokevirtual 49, 32, 129, 3, 1002, 0, 11, [0])) rfl).mpr (And.intro ((rn_ks466 (M := M) hM)) ((rc_Mo_of hM ((hr2 c1).2.2.2.2.1) ((hr2 c1).2.2.2.2.2.1) ?_)))
    refine (rn_step (e := (.aload_n 0, 33, 0, 0, 0, 0, 0, [])) rfl).mpr ?_
    refine (rn_step (e := (.iload_n 1, 34, 1, 0, 0, 0, 0, [])) rfl).mpr ?_
    refine (rn_step (e := (.bipush 18, 36, 0, 0, 0, 0, 0, [])) rfl).mpr ?_
    refine (rn_step (e := (.iload 5, 38, 5, 0, 0, 0, 0, [])) rfl).mpr ?_
    refine (rn_step (e := (.iadd, 39, 0, 0, 0, 0, 0, [])) rfl).mpr (rn_cw (hr2 c1).1 (hr2 c1).2.1 ?_)
    refine (rn_step (e := (.invokevirtual 49, 42, 129, 3, 1002, 0, 11, [0])) rfl).mpr (And.intro ((rn_ks466 (M := M) hM)) ((rc_Mo_of hM ((hr2 c1).2.2.2.2.1) ((hr2 c1).2.2.2.2.2.2.1) ?_)))
    refine (rn_step (e := (.invokestatic 101, 45, 149, 2, 1103, 0, 11, [0])) rfl).mpr (rc_Mo_turn ((hr2 c1).2.2.2.2.2.2.2.1) ?_)
    refine (rn_step (e := (.iadd, 46, 0, 0, 0, 0, 0, [])) rfl).mpr (rn_cw (hr2 c1).2.2.2.2.2.2.2.2.1 (hr2 c1).2.2.2.2.2.2.2.2.2.1 ?_)
    refine (rn_step (e := (.istore 4, 48, 4, 0, 0, 0, 0, [])) rfl).mpr ?_
    refine (rn_step (e := (.iinc 5 1, 51, 5, 0, 0, 0, 0, [])) rfl).mpr (rn_ci (hr2 c1).2.2.2.2.2.2.2.2.2.2.1 (hr2 c1).2.2.2.2.2.2.2.2.2.2.2 ?_)
    refine (rn_step (e := (.goto (-43), 54, 8, 0, 0, 0, 0, [])) rfl).mpr ?_
    exact (k1 c1)
  ·
    refine (rn_step (e := (.iload 4, 56, 4, 0, 0, 0, 0, [])) rfl).mpr ?_
    exact (rn_step (e := (.ireturn, 57, 0, 0, 0, 0, 0, [])) rfl).mpr (And.intro (trivial) ((k2 c1)))
theorem re_Mo_cost {M : rn_M} {Q : rn_Q} {v0 v1 v2 : rn_V} (h : rn_WP 152 0 [v0, v1, v2, rn_J] [] M Q) : rn_ME 152 [v0, v1, v2] M Q := h
set_option maxRecDepth 4000 in
theorem rb_Mo_cost_0 {M : rn_M} {Q : rn_Q} {xl1 : Int} {xl2 : Int} {vl3 : rn_V} (hM : rn_sh M)   (hr1 : (-2147483648 : Int) ≤ 2 * xl2 ∧ 2 * xl2 ≤ 2147483647 ∧ ((0 : Int) ≤ xl1 ∧ (xl1 : Int) ≤ 5) ∧ ((0 : Int) ≤ 0 ∧ (0 : Int) ≤ 77) ∧ (-2147483648 : Int) ≤ (2 * xl2) + (rn_o (rn_gi M 467) xl1 0) ∧ (2 * xl2) + (rn_o (rn_gi M 467) xl1 0) ≤ 2147483647 ∧ (-2147483648 : Int) ≤ ((2 * xl2) + (rn_o (rn_gi M 467) xl1 0)) - 1 ∧ ((2 * xl2) + (rn_o (rn_gi M 467) xl1 0)) - 1 ≤ 2147483647 ∧ ((0 : Int) ≤ 5 ∧ (5 : Int) ≤ 77) ∧ (-2147483648 : Int) ≤ (((2 * xl2) + (rn_o (rn_gi M 467) xl1 0)) - 1) - (rn_o (rn_gi M 467) xl1 5) ∧ (((2 * xl2) + (rn_o (rn_gi M 467) xl1 0)) - 1) - (rn_o (rn_gi M 467) xl1 5) ≤ 2147483647) (k1 : rn_ME 150 [rn_R 466, rn_I xl1, rn_I xl2, rn_I (rn_o (rn_gi M 467) xl1 0)] M (fun r M1 => rn_WP 152 34 [rn_R 466, rn_I xl1, rn_I xl2, rn_I ((((2 * xl2) + (rn_o (rn_gi M 467) xl1 0)) - 1) - (rn_o (rn_gi M 467) xl1 5))] (r.toList ++ [rn_I 10]) M1 Q)) : rn_WP 152 0 [rn_R 466, rn_I xl1, rn_I xl2, vl3] [] M Q := by
  refine (rn_step (e := (.iconst 2, 1, 0, 0, 0, 0, 0, [])) rfl).mpr ?_
  refine (rn_step (e := (.iload_n 2, 2, 2, 0, 0, 0, 0, [])) rfl).mpr ?_
  refine (rn_step (e := (.imul, 3, 0, 0, 0, 0, 0, [])) rfl).mpr (rn_cw hr1.1 hr1.2.1 ?_)
  refine (rn_step (e := (.aload_n 0, 4, 0, 0, 0, 0, 0, [])) rfl).mpr ?_
  refine (rn_step (e := (.iload_n 1, 5, 1, 0, 0, 0, 0, [])) rfl).mpr ?_
  refine (rn_step (e := (.iconst 0, 6, 0, 0, 0, 0, 0, [])) rfl).mpr ?_
  refine (rn_step (e := (.invokevirtual 49, 9, 129, 3, 1002, 0, 11, [0])) rfl).mpr (And.intro ((rn_ks466 (M := M) hM)) ((rc_Mo_of hM (hr1.2.2.1) (hr1.2.2.2.1) ?_)))
  refine (rn_step (e := (.iadd, 10, 0, 0, 0, 0, 0, [])) rfl).mpr (rn_cw hr1.2.2.2.2.1 hr1.2.2.2.2.2.1 ?_)
  refine (rn_step (e := (.iconst 1, 11, 0, 0, 0, 0, 0, [])) rfl).mpr ?_
  refine (rn_step (e := (.isub, 12, 0, 0, 0, 0, 0, [])) rfl).mpr (rn_cw hr1.2.2.2.2.2.2.1 hr1.2.2.2.2.2.2.2.1 ?_)
  refine (rn_step (e := (.aload_n 0, 13, 0, 0, 0, 0, 0, [])) rfl).mpr ?_
  refine (rn_step (e := (.iload_n 1, 14, 1, 0, 0, 0, 0, [])) rfl).mpr ?_
  refine (rn_step (e := (.iconst 5, 15, 0, 0, 0, 0, 0, [])) rfl).mpr ?_
  refine (rn_step (e := (.invokevirtual 49, 18, 129, 3, 1002, 0, 11, [0])) rfl).mpr (And.intro ((rn_ks466 (M := M) hM)) ((rc_Mo_of hM (hr1.2.2.1) (hr1.2.2.2.2.2.2.2.2.1) ?_)))
  refine (rn_step (e := (.isub, 19, 0, 0, 0, 0, 0, [])) rfl).mpr (rn_cw hr1.2.2.2.2.2.2.2.2.2.1 hr1.2.2.2.2.2.2.2.2.2.2 ?_)
  refine (rn_step (e := (.istore_n 3, 20, 3, 0, 0, 0, 0, [])) rfl).mpr ?_
  refine (rn_step (e := (.bipush 10, 22, 0, 0, 0, 0, 0, [])) rfl).mpr ?_
  refine (rn_step (e := (.aload_n 0, 23, 0, 0, 0, 0, 0, [])) rfl).mpr ?_
  refine (rn_step (e := (.iload_n 1, 24, 1, 0, 0, 0, 0, [])) rfl).mpr ?_
  refine (rn_step (e := (.iload_n 2, 25, 2, 0, 0, 0, 0, [])) rfl).mpr ?_
  refine (rn_step (e := (.aload_n 0, 26, 0, 0, 0, 0, 0, [])) rfl).mpr ?_
  refine (rn_step (e := (.iload_n 1, 27, 1, 0, 0, 0, 0, [])) rfl).mpr ?_
  refine (rn_step (e := (.iconst 0, 28, 0, 0, 0, 0, 0, [])) rfl).mpr ?_
  refine (rn_step (e := (.invokevirtual 49, 31, 129, 3, 1002, 0, 11, [0])) rfl).mpr (And.intro ((rn_ks466 (M := M) hM)) ((rc_Mo_of hM (hr1.2.2.1) (hr1.2.2.2.1) ?_)))
  exact (rn_step (e := (.invokevirtual 104, 34, 150, 4, 1099, 0, 11, [0])) rfl).mpr (And.intro ((rn_ks466 (M := M) hM)) (k1))
set_option maxRecDepth 4000 in
theorem rb_Mo_cost_34 {M : rn_M} {Q : rn_Q} {vl0 : rn_V} {vl1 : rn_V} {vl2 : rn_V} {xl3 : Int} {xs0 : Int} {xs1 : Int}   (hr1 : (-2147483648 : Int) ≤ xs1 * xs0 ∧ xs1 * xs0 ≤ 2147483647) (hr2 : (0 ≤ xl3) → (-2147483648 : Int) ≤ (xs1 * xs0) + xl3 ∧ (xs1 * xs0) + xl3 ≤ 2147483647) (hr3 : (¬ (0 ≤ xl3)) → (-2147483648 : Int) ≤ -xl3 ∧ -xl3 ≤ 2147483647 ∧ (-2147483648 : Int) ≤ (xs1 * xs0) + (-xl3) ∧ (xs1 * xs0) + (-xl3) ≤ 2147483647) (k1 : (0 ≤ xl3) → Q (some (rn_I ((xs1 * xs0) + xl3))) M) (k2 : (¬ (0 ≤ xl3)) → Q (some (rn_I ((xs1 * xs0) + (-xl3)))) M) : rn_WP 152 34 [vl0, vl1, vl2, rn_I xl3] [rn_I xs0, rn_I xs1] M Q := by
  refine (rn_step (e := (.imul, 35, 0, 0, 0, 0, 0, [])) rfl).mpr (rn_cw hr1.1 hr1.2 ?_)
  refine (rn_step (e := (.iload_n 3, 36, 3, 0, 0, 0, 0, [])) rfl).mpr ?_
  refine (rn_step (e := (.ifCond .ge 8, 39, 44, 0, 0, 0, 0, [])) rfl).mpr (And.intro (fun c1 => ?_) (fun c1 => ?_))
  ·
    refine (rn_step (e := (.iload_n 3, 45, 3, 0, 0, 0, 0, [])) rfl).mpr ?_
    refine (rn_step (e := (.iadd, 46, 0, 0, 0, 0, 0, [])) rfl).mpr (rn_cw (hr2 c1).1 (hr2 c1).2 ?_)
    exact (rn_step (e := (.ireturn, 47, 0, 0, 0, 0, 0, [])) rfl).mpr (And.intro (trivial) ((k1 c1)))
  ·
    refine (rn_step (e := (.iload_n 3, 40, 3, 0, 0, 0, 0, [])) rfl).mpr ?_
    refine (rn_step (e := (.ineg, 41, 0, 0, 0, 0, 0, [])) rfl).mpr (rn_cw (hr3 c1).1 (hr3 c1).2.1 ?_)
    refine (rn_step (e := (.goto 4, 44, 45, 0, 0, 0, 0, [])) rfl).mpr ?_
    refine (rn_step (e := (.iadd, 46, 0, 0, 0, 0, 0, [])) rfl).mpr (rn_cw (hr3 c1).2.2.1 (hr3 c1).2.2.2 ?_)
    exact (rn_step (e := (.ireturn, 47, 0, 0, 0, 0, 0, [])) rfl).mpr (And.intro (trivial) ((k2 c1)))
theorem re_Mo_isTurned {M : rn_M} {Q : rn_Q} {v0 v1 v2 : rn_V} (h : rn_WP 153 0 [v0, v1, v2, rn_J] [] M Q) : rn_ME 153 [v0, v1, v2] M Q := h
set_option maxRecDepth 4000 in
theorem rb_Mo_isTurned_0 {M : rn_M} {Q : rn_Q} {xl1 : Int} {vl2 : rn_V} {vl3 : rn_V} (hM : rn_sh M)   (k1 : rn_ME 133 [rn_R 466, rn_I xl1] M (fun r M1 => rn_WP 153 5 [rn_R 466, rn_I xl1, vl2, vl3] (r.toList ++ []) M1 Q)) : rn_WP 153 0 [rn_R 466, rn_I xl1, vl2, vl3] [] M Q := by
  refine (rn_step (e := (.aload_n 0, 1, 0, 0, 0, 0, 0, [])) rfl).mpr ?_
  refine (rn_step (e := (.iload_n 1, 2, 1, 0, 0, 0, 0, [])) rfl).mpr ?_
  exact (rn_step (e := (.invokevirtual 87, 5, 133, 2, 998, 0, 11, [0])) rfl).mpr (And.intro ((rn_ks466 (M := M) hM)) (k1))
set_option maxRecDepth 4000 in
theorem rb_Mo_isTurned_5 {M : rn_M} {Q : rn_Q} {xl1 : Int} {xl2 : Int} {vl3 : rn_V} (hM : rn_sh M)   (hr1 : ((0 : Int) ≤ xl1 ∧ (xl1 : Int) ≤ 5) ∧ ((0 : Int) ≤ 0 ∧ (0 : Int) ≤ 77) ∧ (-2147483648 : Int) ≤ xl2 + (rn_o (rn_gi M 467) xl1 0) ∧ xl2 + (rn_o (rn_gi M 467) xl1 0) ≤ 2147483647 ∧ (-2147483648 : Int) ≤ (xl2 + (rn_o (rn_gi M 467) xl1 0)) - 1 ∧ (xl2 + (rn_o (rn_gi M 467) xl1 0)) - 1 ≤ 2147483647 ∧ (0 : Int) ≤ (xl2 + (rn_o (rn_gi M 467) xl1 0)) - 1 ∧ (xl2 + (rn_o (rn_gi M 467) xl1 0)) - 1 < (61 : Int) ∧ (0 : Int) ≤ xl2 ∧ xl2 < (61 : Int)) (hr2 : (¬ (rn_gi M 470 ((xl2 + (rn_o (rn_gi M 467) xl1 0)) - 1).toNat < rn_gi M 470 (xl2).toNat)) → (0 : Int) ≤ (xl2 + (rn_o (rn_gi M 467) xl1 0)) - 1 ∧ (xl2 + (rn_o (rn_gi M 467) xl1 0)) - 1 < (61 : Int) ∧ (0 : Int) ≤ xl2 ∧ xl2 < (61 : Int)) (hr3 : (¬ (rn_gi M 470 ((xl2 + (rn_o (rn_gi M 467) xl1 0)) - 1).toNat < rn_gi M 470 (xl2).toNat)) → (rn_gi M 470 ((xl2 + (rn_o (rn_gi M 467) xl1 0)) - 1).toNat = rn_gi M 470 (xl2).toNat) → (0 : Int) ≤ (xl2 + (rn_o (rn_gi M 467) xl1 0)) - 1 ∧ (xl2 + (rn_o (rn_gi M 467) xl1 0)) - 1 < (61 : Int) ∧ (0 : Int) ≤ xl2 ∧ xl2 < (61 : Int)) (k1 : (rn_gi M 470 ((xl2 + (rn_o (rn_gi M 467) xl1 0)) - 1).toNat < rn_gi M 470 (xl2).toNat) → Q (some (rn_I 1)) M) (k2 : (¬ (rn_gi M 470 ((xl2 + (rn_o (rn_gi M 467) xl1 0)) - 1).toNat < rn_gi M 470 (xl2).toNat)) → (rn_gi M 470 ((xl2 + (rn_o (rn_gi M 467) xl1 0)) - 1).toNat = rn_gi M 470 (xl2).toNat) → (rn_gi M 471 ((xl2 + (rn_o (rn_gi M 467) xl1 0)) - 1).toNat < rn_gi M 471 (xl2).toNat) → Q (some (rn_I 1)) M) (k3 : (¬ (rn_gi M 470 ((xl2 + (rn_o (rn_gi M 467) xl1 0)) - 1).toNat < rn_gi M 470 (xl2).toNat)) → (rn_gi M 470 ((xl2 + (rn_o (rn_gi M 467) xl1 0)) - 1).toNat = rn_gi M 470 (xl2).toNat) → (¬ (rn_gi M 471 ((xl2 + (rn_o (rn_gi M 467) xl1 0)) - 1).toNat < rn_gi M 471 (xl2).toNat)) → Q (some (rn_I 0)) M) (k4 : (¬ (rn_gi M 470 ((xl2 + (rn_o (rn_gi M 467) xl1 0)) - 1).toNat < rn_gi M 470 (xl2).toNat)) → (¬ (rn_gi M 470 ((xl2 + (rn_o (rn_gi M 467) xl1 0)) - 1).toNat = rn_gi M 470 (xl2).toNat)) → Q (some (rn_I 0)) M) : rn_WP 153 5 [rn_R 466, rn_I xl1, rn_I xl2, vl3] [] M Q := by
  refine (rn_step (e := (.iload_n 2, 6, 2, 0, 0, 0, 0, [])) rfl).mpr ?_
  refine (rn_step (e := (.aload_n 0, 7, 0, 0, 0, 0, 0, [])) rfl).mpr ?_
  refine (rn_step (e := (.iload_n 1, 8, 1, 0, 0, 0, 0, [])) rfl).mpr ?_
  refine (rn_step (e := (.iconst 0, 9, 0, 0, 0, 0, 0, [])) rfl).mpr ?_
  refine (rn_step (e := (.invokevirtual 49, 12, 129, 3, 1002, 0, 11, [0])) rfl).mpr (And.intro ((rn_ks466 (M := M) hM)) ((rc_Mo_of hM (hr1.1) (hr1.2.1) ?_)))
  refine (rn_step (e := (.iadd, 13, 0, 0, 0, 0, 0, [])) rfl).mpr (rn_cw hr1.2.2.1 hr1.2.2.2.1 ?_)
  refine (rn_step (e := (.iconst 1, 14, 0, 0, 0, 0, 0, [])) rfl).mpr ?_
  refine (rn_step (e := (.isub, 15, 0, 0, 0, 0, 0, [])) rfl).mpr (rn_cw hr1.2.2.2.2.1 hr1.2.2.2.2.2.1 ?_)
  refine (rn_step (e := (.istore_n 3, 16, 3, 0, 0, 0, 0, [])) rfl).mpr ?_
  refine (rn_step (e := (.aload_n 0, 17, 0, 0, 0, 0, 0, [])) rfl).mpr ?_
  refine (rn_step (e := (.getfield 19, 20, 10, 5, 907, 2, 11, [])) rfl).mpr (And.intro ((rn_ks466 (M := M) hM)) (rn_cg (rn_g466_5 (M := M) hM) ?_))
  refine (rn_step (e := (.iload_n 3, 21, 3, 0, 0, 0, 0, [])) rfl).mpr ?_
  refine (rn_step (e := (.iaload, 22, 0, 0, 0, 0, 0, [])) rfl).mpr (And.intro (Or.inl (rn_w470 (M := M) hM).1) (And.intro ((And.intro (hr1.2.2.2.2.2.2.1) (rn_lt (rn_w470 (M := M) hM).2 hr1.2.2.2.2.2.2.2.1))) (?_)))
  refine (rn_step (e := (.aload_n 0, 23, 0, 0, 0, 0, 0, [])) rfl).mpr ?_
  refine (rn_step (e := (.getfield 19, 26, 10, 5, 907, 2, 11, [])) rfl).mpr (And.intro ((rn_ks466 (M := M) hM)) (rn_cg (rn_g466_5 (M := M) hM) ?_))
  refine (rn_step (e := (.iload_n 2, 27, 2, 0, 0, 0, 0, [])) rfl).mpr ?_
  refine (rn_step (e := (.iaload, 28, 0, 0, 0, 0, 0, [])) rfl).mpr (And.intro (Or.inl (rn_w470 (M := M) hM).1) (And.intro ((And.intro (hr1.2.2.2.2.2.2.2.2.1) (rn_lt (rn_w470 (M := M) hM).2 hr1.2.2.2.2.2.2.2.2.2))) (?_)))
  refine (rn_step (e := (.if_icmp .lt 33, 31, 61, 0, 0, 0, 0, [])) rfl).mpr (And.intro (fun c1 => ?_) (fun c1 => ?_))
  ·
    refine (rn_step (e := (.iconst 1, 62, 0, 0, 0, 0, 0, [])) rfl).mpr ?_
    refine (rn_step (e := (.goto 4, 65, 66, 0, 0, 0, 0, [])) rfl).mpr ?_
    exact (rn_step (e := (.ireturn, 67, 0, 0, 0, 1, 0, [])) rfl).mpr (And.intro ((Or.inr rfl)) ((k1 c1)))
  ·
    refine (rn_step (e := (.aload_n 0, 32, 0, 0, 0, 0, 0, [])) rfl).mpr ?_
    refine (rn_step (e := (.getfield 19, 35, 10, 5, 907, 2, 11, [])) rfl).mpr (And.intro ((rn_ks466 (M := M) hM)) (rn_cg (rn_g466_5 (M := M) hM) ?_))
    refine (rn_step (e := (.iload_n 3, 36, 3, 0, 0, 0, 0, [])) rfl).mpr ?_
    refine (rn_step (e := (.iaload, 37, 0, 0, 0, 0, 0, [])) rfl).mpr (And.intro (Or.inl (rn_w470 (M := M) hM).1) (And.intro ((And.intro ((hr2 c1).1) (rn_lt (rn_w470 (M := M) hM).2 (hr2 c1).2.1))) (?_)))
    refine (rn_step (e := (.aload_n 0, 38, 0, 0, 0, 0, 0, [])) rfl).mpr ?_
    refine (rn_step (e := (.getfield 19, 41, 10, 5, 907, 2, 11, [])) rfl).mpr (And.intro ((rn_ks466 (M := M) hM)) (rn_cg (rn_g466_5 (M := M) hM) ?_))
    refine (rn_step (e := (.iload_n 2, 42, 2, 0, 0, 0, 0, [])) rfl).mpr ?_
    refine (rn_step (e := (.iaload, 43, 0, 0, 0, 0, 0, [])) rfl).mpr (And.intro (Or.inl (rn_w470 (M := M) hM).1) (And.intro ((And.intro ((hr2 c1).2.2.1) (rn_lt (rn_w470 (M := M) hM).2 (hr2 c1).2.2.2))) (?_)))
    refine (rn_step (e := (.if_icmp .ne 22, 46, 65, 0, 0, 0, 0, [])) rfl).mpr (And.intro (fun c2 => ?_) (fun c2 => ?_))
    ·
      refine (rn_step (e := (.aload_n 0, 47, 0, 0, 0, 0, 0, [])) rfl).mpr ?_
      refine (rn_step (e := (.getfield 22, 50, 10, 6, 908, 2, 11, [])) rfl).mpr (And.intro ((rn_ks466 (M := M) hM)) (rn_cg (rn_g466_6 (M := M) hM) ?_))
      refine (rn_step (e := (.iload_n 3, 51, 3, 0, 0, 0, 0, [])) rfl).mpr ?_
      refine (rn_step (e := (.iaload, 52, 0, 0, 0, 0, 0, [])) rfl).mpr (And.intro (Or.inl (rn_w471 (M := M) hM).1) (And.intro ((And.intro ((hr3 c1 c2).1) (rn_lt (rn_w471 (M := M) hM).2 (hr3 c1 c2).2.1))) (?_)))
      refine (rn_step (e := (.aload_n 0, 53, 0, 0, 0, 0, 0, [])) rfl).mpr ?_
      refine (rn_step (e := (.getfield 22, 56, 10, 6, 908, 2, 11, [])) rfl).mpr (And.intro ((rn_ks466 (M := M) hM)) (rn_cg (rn_g466_6 (M := M) hM) ?_))
      refine (rn_step (e := (.iload_n 2, 57, 2, 0, 0, 0, 0, [])) rfl).mpr ?_
      refine (rn_step (e := (.iaload, 58, 0, 0, 0, 0, 0, [])) rfl).mpr (And.intro (Or.inl (rn_w471 (M := M) hM).1) (And.intro ((And.intro ((hr3 c1 c2).2.2.1) (rn_lt (rn_w471 (M := M) hM).2 (hr3 c1 c2).2.2.2))) (?_)))
      refine (rn_step (e := (.if_icmp .ge 7, 61, 65, 0, 0, 0, 0, [])) rfl).mpr (And.intro (fun c3 => ?_) (fun c3 => ?_))
      ·
        refine (rn_step (e := (.iconst 1, 62, 0, 0, 0, 0, 0, [])) rfl).mpr ?_
        refine (rn_step (e := (.goto 4, 65, 66, 0, 0, 0, 0, [])) rfl).mpr ?_
        exact (rn_step (e := (.ireturn, 67, 0, 0, 0, 1, 0, [])) rfl).mpr (And.intro ((Or.inr rfl)) ((k2 c1 c2 c3)))
      ·
        refine (rn_step (e := (.iconst 0, 66, 0, 0, 0, 0, 0, [])) rfl).mpr ?_
        exact (rn_step (e := (.ireturn, 67, 0, 0, 0, 1, 0, [])) rfl).mpr (And.intro ((Or.inl rfl)) ((k3 c1 c2 c3)))
    ·
      refine (rn_step (e := (.iconst 0, 66, 0, 0, 0, 0, 0, [])) rfl).mpr ?_
      exact (rn_step (e := (.ireturn, 67, 0, 0, 0, 1, 0, [])) rfl).mpr (And.intro ((Or.inl rfl)) ((k4 c1 c2)))
theorem re_Mo_marks {M : rn_M} {Q : rn_Q} {v0 v1 v2 : rn_V} (h : rn_WP 154 0 [v0, v1, v2] [] M Q) : rn_ME 154 [v0, v1, v2] M Q := h
set_option maxRecDepth 4000 in
theorem rb_Mo_marks_0 {M : rn_M} {Q : rn_Q} {xl1 : Int} {xl2 : Int} (hM : rn_sh M)   (hr1 : (-2147483648 : Int) ≤ rn_gi M 466 8 + 1 ∧ rn_gi M 466 8 + 1 ≤ 2147483647) (k1 : rn_ME 155 [rn_R 466, rn_I xl1, rn_I xl2] (rn_si M 466 8 (rn_gi M 466 8 + 1)) (fun r M1 => rn_WP 154 16 [rn_R 466, rn_I xl1, rn_I xl2] (r.toList ++ []) M1 Q)) : rn_WP 154 0 [rn_R 466, rn_I xl1, rn_I xl2] [] M Q := by
  refine (rn_step (e := (.aload_n 0, 1, 0, 0, 0, 0, 0, [])) rfl).mpr ?_
  refine (rn_step (e := (.dup, 2, 0, 0, 0, 0, 0, [])) rfl).mpr ?_
  refine (rn_step (e := (.getfield 108, 5, 10, 8, 910, 0, 11, [])) rfl).mpr (And.intro ((rn_ks466 (M := M) hM)) (?_))
  refine (rn_step (e := (.iconst 1, 6, 0, 0, 0, 0, 0, [])) rfl).mpr ?_
  refine (rn_step (e := (.iadd, 7, 0, 0, 0, 0, 0, [])) rfl).mpr (rn_cw hr1.1 hr1.2 ?_)
  refine (rn_step (e := (.putfield 108, 10, 10, 8, 910, 0, 11, [])) rfl).mpr (And.intro ((rn_ks466 (M := M) hM)) (?_))
  refine (rn_step (e := (.aload_n 0, 11, 0, 0, 0, 0, 0, [])) rfl).mpr ?_
  refine (rn_step (e := (.iload_n 1, 12, 1, 0, 0, 0, 0, [])) rfl).mpr ?_
  refine (rn_step (e := (.iload_n 2, 13, 2, 0, 0, 0, 0, [])) rfl).mpr ?_
  exact (rn_step (e := (.invokevirtual 111, 16, 155, 3, 1059, 0, 11, [0])) rfl).mpr (And.intro ((rn_ks466 (M := M) hM)) (k1))
set_option maxRecDepth 4000 in
theorem rb_Mo_marks_16 {M : rn_M} {Q : rn_Q} {vl0 : rn_V} {vl1 : rn_V} {vl2 : rn_V} {xs0 : Int}   (k1 : Q (some (rn_I xs0)) M) : rn_WP 154 16 [vl0, vl1, vl2] [rn_I xs0] M Q := by
  exact (rn_step (e := (.ireturn, 17, 0, 0, 0, 0, 0, [])) rfl).mpr (And.intro (trivial) (k1))
theorem re_Mo_marksMore {M : rn_M} {Q : rn_Q} {v0 v1 v2 : rn_V} (h : rn_WP 155 0 [v0, v1, v2, rn_J, rn_J, rn_J, rn_J, rn_J] [] M Q) : rn_ME 155 [v0, v1, v2] M Q := h
set_option maxRecDepth 4000 in
theorem rb_Mo_marksMore_0 {M : rn_M} {Q : rn_Q} {xl1 : Int} {vl2 : rn_V} {vl3 : rn_V} {vl4 : rn_V} {vl5 : rn_V} {vl6 : rn_V} {vl7 : rn_V} (hM : rn_sh M)   (k1 : rn_ME 133 [rn_R 466, rn_I xl1] M (fun r M1 => rn_WP 155 5 [rn_R 466, rn_I xl1, vl2, vl3, vl4, vl5, vl6, vl7] (r.toList ++ []) M1 Q)) : rn_WP 155 0 [rn_R 466, rn_I xl1, vl2, vl3, vl4, vl5, vl6, vl7] [] M Q := by
  refine (rn_step (e := (.aload_n 0, 1, 0, 0, 0, 0, 0, [])) rfl).mpr ?_
  refine (rn_step (e := (.iload_n 1, 2, 1, 0, 0, 0, 0, [])) rfl).mpr ?_
  exact (rn_step (e := (.invokevirtual 87, 5, 133, 2, 998, 0, 11, [0])) rfl).mpr (And.intro ((rn_ks466 (M := M) hM)) (k1))
set_option maxRecDepth 4000 in
theorem rb_Mo_marksMore_5 {M : rn_M} {Q : rn_Q} {xl1 : Int} {xl2 : Int} {vl3 : rn_V} {vl4 : rn_V} {vl5 : rn_V} {vl6 : rn_V} {vl7 : rn_V} (hM : rn_sh M)   (hr1 : ((0 : Int) ≤ xl1 ∧ (xl1 : Int) ≤ 5) ∧ ((0 : Int) ≤ 2 ∧ (2 : Int) ≤ 77)) (k1 : rn_WP 155 18 [rn_R 466, rn_I xl1, rn_I xl2, rn_I (rn_o (rn_gi M 467) xl1 2), rn_I 0, rn_I xl2, vl6, vl7] [] M Q) : rn_WP 155 5 [rn_R 466, rn_I xl1, rn_I xl2, vl3, vl4, vl5, vl6, vl7] [] M Q := by
  refine (rn_step (e := (.aload_n 0, 6, 0, 0, 0, 0, 0, [])) rfl).mpr ?_
  refine (rn_step (e := (.iload_n 1, 7, 1, 0, 0, 0, 0, [])) rfl).mpr ?_
  refine (rn_step (e := (.iconst 2, 8, 0, 0, 0, 0, 0, [])) rfl).mpr ?_
  refine (rn_step (e := (.invokevirtual 49, 11, 129, 3, 1002, 0, 11, [0])) rfl).mpr (And.intro ((rn_ks466 (M := M) hM)) ((rc_Mo_of hM (hr1.1) (hr1.2) ?_)))
  refine (rn_step (e := (.istore_n 3, 12, 3, 0, 0, 0, 0, [])) rfl).mpr ?_
  refine (rn_step (e := (.iconst 0, 13, 0, 0, 0, 0, 0, [])) rfl).mpr ?_
  refine (rn_step (e := (.istore 4, 15, 4, 0, 0, 0, 0, [])) rfl).mpr ?_
  refine (rn_step (e := (.iload_n 2, 16, 2, 0, 0, 0, 0, [])) rfl).mpr ?_
  refine (rn_step (e := (.istore 5, 18, 5, 0, 0, 0, 0, [])) rfl).mpr ?_
  exact k1
set_option maxRecDepth 4000 in
theorem rb_Mo_marksMore_18 {M : rn_M} {Q : rn_Q} {xl1 : Int} {xl2 : Int} {xl3 : Int} {xl4 : Int} {xl5 : Int} {vl6 : rn_V} {vl7 : rn_V} (hM : rn_sh M)   (hr1 : ((0 : Int) ≤ xl1 ∧ (xl1 : Int) ≤ 5) ∧ ((0 : Int) ≤ 0 ∧ (0 : Int) ≤ 77) ∧ (-2147483648 : Int) ≤ xl2 + (rn_o (rn_gi M 467) xl1 0) ∧ xl2 + (rn_o (rn_gi M 467) xl1 0) ≤ 2147483647) (hr2 : (xl5 < xl2 + (rn_o (rn_gi M 467) xl1 0)) → (0 : Int) ≤ xl5 ∧ xl5 < (61 : Int) ∧ (-2147483648 : Int) ≤ (rn_gi M 470 (xl5).toNat) - xl3 ∧ (rn_gi M 470 (xl5).toNat) - xl3 ≤ 2147483647) (k1 : (xl5 < xl2 + (rn_o (rn_gi M 467) xl1 0)) → rn_WP 155 42 [rn_R 466, rn_I xl1, rn_I xl2, rn_I xl3, rn_I xl4, rn_I xl5, rn_I ((rn_gi M 470 (xl5).toNat) - xl3), vl7] [] M Q) (k2 : (¬ (xl5 < xl2 + (rn_o (rn_gi M 467) xl1 0))) → Q (some (rn_I xl4)) M) : rn_WP 155 18 [rn_R 466, rn_I xl1, rn_I xl2, rn_I xl3, rn_I xl4, rn_I xl5, vl6, vl7] [] M Q := by
  refine (rn_step (e := (.iload 5, 20, 5, 0, 0, 0, 0, [])) rfl).mpr ?_
  refine (rn_step (e := (.iload_n 2, 21, 2, 0, 0, 0, 0, [])) rfl).mpr ?_
  refine (rn_step (e := (.aload_n 0, 22, 0, 0, 0, 0, 0, [])) rfl).mpr ?_
  refine (rn_step (e := (.iload_n 1, 23, 1, 0, 0, 0, 0, [])) rfl).mpr ?_
  refine (rn_step (e := (.iconst 0, 24, 0, 0, 0, 0, 0, [])) rfl).mpr ?_
  refine (rn_step (e := (.invokevirtual 49, 27, 129, 3, 1002, 0, 11, [0])) rfl).mpr (And.intro ((rn_ks466 (M := M) hM)) ((rc_Mo_of hM (hr1.1) (hr1.2.1) ?_)))
  refine (rn_step (e := (.iadd, 28, 0, 0, 0, 0, 0, [])) rfl).mpr (rn_cw hr1.2.2.1 hr1.2.2.2 ?_)
  refine (rn_step (e := (.if_icmp .ge 121, 31, 149, 0, 0, 0, 0, [])) rfl).mpr (And.intro (fun c1 => ?_) (fun c1 => ?_))
  ·
    refine (rn_step (e := (.aload_n 0, 32, 0, 0, 0, 0, 0, [])) rfl).mpr ?_
    refine (rn_step (e := (.getfield 19, 35, 10, 5, 907, 2, 11, [])) rfl).mpr (And.intro ((rn_ks466 (M := M) hM)) (rn_cg (rn_g466_5 (M := M) hM) ?_))
    refine (rn_step (e := (.iload 5, 37, 5, 0, 0, 0, 0, [])) rfl).mpr ?_
    refine (rn_step (e := (.iaload, 38, 0, 0, 0, 0, 0, [])) rfl).mpr (And.intro (Or.inl (rn_w470 (M := M) hM).1) (And.intro ((And.intro ((hr2 c1).1) (rn_lt (rn_w470 (M := M) hM).2 (hr2 c1).2.1))) (?_)))
    refine (rn_step (e := (.iload_n 3, 39, 3, 0, 0, 0, 0, [])) rfl).mpr ?_
    refine (rn_step (e := (.isub, 40, 0, 0, 0, 0, 0, [])) rfl).mpr (rn_cw (hr2 c1).2.2.1 (hr2 c1).2.2.2 ?_)
    refine (rn_step (e := (.istore 6, 42, 6, 0, 0, 0, 0, [])) rfl).mpr ?_
    exact (k1 c1)
  ·
    refine (rn_step (e := (.iload 4, 151, 4, 0, 0, 0, 0, [])) rfl).mpr ?_
    exact (rn_step (e := (.ireturn, 152, 0, 0, 0, 0, 0, [])) rfl).mpr (And.intro (trivial) ((k2 c1)))
set_option maxRecDepth 4000 in
theorem rb_Mo_marksMore_42 {M : rn_M} {Q : rn_Q} {vl1 : rn_V} {vl2 : rn_V} {xl3 : Int} {vl4 : rn_V} {xl5 : Int} {xl6 : Int} {vl7 : rn_V} (hM : rn_sh M)   (hr1 : (0 : Int) ≤ xl5 ∧ xl5 < (61 : Int) ∧ (-2147483648 : Int) ≤ rn_gi M 470 (xl5).toNat + xl3 ∧ rn_gi M 470 (xl5).toNat + xl3 ≤ 2147483647) (hr2 : (rn_gi M 470 (xl5).toNat + xl3 < xl6) → (-2147483648 : Int) ≤ xl5 + 1 ∧ xl5 + 1 ≤ 2147483647) (hr3 : (¬ (rn_gi M 470 (xl5).toNat + xl3 < xl6)) → (0 : Int) ≤ xl5 ∧ xl5 < (61 : Int) ∧ (-2147483648 : Int) ≤ (rn_gi M 471 (xl5).toNat) - xl3 ∧ (rn_gi M 471 (xl5).toNat) - xl3 ≤ 2147483647) (k1 : (rn_gi M 470 (xl5).toNat + xl3 < xl6) → rn_WP 155 18 [rn_R 466, vl1, vl2, rn_I xl3, vl4, rn_I (xl5 + 1), rn_I xl6, vl7] [] M Q) (k2 : (¬ (rn_gi M 470 (xl5).toNat + xl3 < xl6)) → rn_WP 155 67 [rn_R 466, vl1, vl2, rn_I xl3, vl4, rn_I xl5, rn_I xl6, rn_I ((rn_gi M 471 (xl5).toNat) - xl3)] [] M Q) : rn_WP 155 42 [rn_R 466, vl1, vl2, rn_I xl3, vl4, rn_I xl5, rn_I xl6, vl7] [] M Q := by
  refine (rn_step (e := (.iload 6, 44, 6, 0, 0, 0, 0, [])) rfl).mpr ?_
  refine (rn_step (e := (.aload_n 0, 45, 0, 0, 0, 0, 0, [])) rfl).mpr ?_
  refine (rn_step (e := (.getfield 19, 48, 10, 5, 907, 2, 11, [])) rfl).mpr (And.intro ((rn_ks466 (M := M) hM)) (rn_cg (rn_g466_5 (M := M) hM) ?_))
  refine (rn_step (e := (.iload 5, 50, 5, 0, 0, 0, 0, [])) rfl).mpr ?_
  refine (rn_step (e := (.iaload, 51, 0, 0, 0, 0, 0, [])) rfl).mpr (And.intro (Or.inl (rn_w470 (M := M) hM).1) (And.intro ((And.intro (hr1.1) (rn_lt (rn_w470 (M := M) hM).2 hr1.2.1))) (?_)))
  refine (rn_step (e := (.iload_n 3, 52, 3, 0, 0, 0, 0, [])) rfl).mpr ?_
  refine (rn_step (e := (.iadd, 53, 0, 0, 0, 0, 0, [])) rfl).mpr (rn_cw hr1.2.2.1 hr1.2.2.2 ?_)
  refine (rn_step (e := (.if_icmp .gt 90, 56, 143, 0, 0, 0, 0, [])) rfl).mpr (And.intro (fun c1 => ?_) (fun c1 => ?_))
  ·
    refine (rn_step (e := (.iinc 5 1, 146, 5, 0, 0, 0, 0, [])) rfl).mpr (rn_ci (hr2 c1).1 (hr2 c1).2 ?_)
    refine (rn_step (e := (.goto (-128), 149, 18, 0, 0, 0, 0, [])) rfl).mpr ?_
    exact (k1 c1)
  ·
    refine (rn_step (e := (.aload_n 0, 57, 0, 0, 0, 0, 0, [])) rfl).mpr ?_
    refine (rn_step (e := (.getfield 22, 60, 10, 6, 908, 2, 11, [])) rfl).mpr (And.intro ((rn_ks466 (M := M) hM)) (rn_cg (rn_g466_6 (M := M) hM) ?_))
    refine (rn_step (e := (.iload 5, 62, 5, 0, 0, 0, 0, [])) rfl).mpr ?_
    refine (rn_step (e := (.iaload, 63, 0, 0, 0, 0, 0, [])) rfl).mpr (And.intro (Or.inl (rn_w471 (M := M) hM).1) (And.intro ((And.intro ((hr3 c1).1) (rn_lt (rn_w471 (M := M) hM).2 (hr3 c1).2.1))) (?_)))
    refine (rn_step (e := (.iload_n 3, 64, 3, 0, 0, 0, 0, [])) rfl).mpr ?_
    refine (rn_step (e := (.isub, 65, 0, 0, 0, 0, 0, [])) rfl).mpr (rn_cw (hr3 c1).2.2.1 (hr3 c1).2.2.2 ?_)
    refine (rn_step (e := (.istore 7, 67, 7, 0, 0, 0, 0, [])) rfl).mpr ?_
    exact (k2 c1)
set_option maxRecDepth 4000 in
theorem rb_Mo_marksMore_67 {M : rn_M} {Q : rn_Q} {vl1 : rn_V} {vl2 : rn_V} {xl3 : Int} {xl4 : Int} {xl5 : Int} {xl6 : Int} {xl7 : Int} (hM : rn_sh M)   (hr1 : (0 : Int) ≤ xl5 ∧ xl5 < (61 : Int) ∧ (-2147483648 : Int) ≤ rn_gi M 471 (xl5).toNat + xl3 ∧ rn_gi M 471 (xl5).toNat + xl3 ≤ 2147483647) (hr2 : (rn_gi M 471 (xl5).toNat + xl3 < xl7) → (-2147483648 : Int) ≤ xl6 + 1 ∧ xl6 + 1 ≤ 2147483647) (hr3 : (¬ (rn_gi M 471 (xl5).toNat + xl3 < xl7)) → (¬ ((0 ≤ xl6 ∧ xl6 < 60) ∧ 0 ≤ xl7 ∧ xl7 < 40)) → (-2147483648 : Int) ≤ xl7 + 1 ∧ xl7 + 1 ≤ 2147483647) (hr4 : (¬ (rn_gi M 471 (xl5).toNat + xl3 < xl7)) → ((0 ≤ xl6 ∧ xl6 < 60) ∧ 0 ≤ xl7 ∧ xl7 < 40) → (-2147483648 : Int) ≤ 60 * xl7 ∧ 60 * xl7 ≤ 2147483647 ∧ (-2147483648 : Int) ≤ (60 * xl7) + xl6 ∧ (60 * xl7) + xl6 ≤ 2147483647 ∧ (0 : Int) ≤ (60 * xl7) + xl6 ∧ (60 * xl7) + xl6 < (2400 : Int)) (hr5 : (¬ (rn_gi M 471 (xl5).toNat + xl3 < xl7)) → ((0 ≤ xl6 ∧ xl6 < 60) ∧ 0 ≤ xl7 ∧ xl7 < 40) → (rn_gi M 472 ((60 * xl7) + xl6).toNat = rn_gi M 466 8) → (-2147483648 : Int) ≤ xl7 + 1 ∧ xl7 + 1 ≤ 2147483647) (hr6 : (¬ (rn_gi M 471 (xl5).toNat + xl3 < xl7)) → ((0 ≤ xl6 ∧ xl6 < 60) ∧ 0 ≤ xl7 ∧ xl7 < 40) → (¬ (rn_gi M 472 ((60 * xl7) + xl6).toNat = rn_gi M 466 8)) → (-2147483648 : Int) ≤ 60 * xl7 ∧ 60 * xl7 ≤ 2147483647 ∧ (-2147483648 : Int) ≤ (60 * xl7) + xl6 ∧ (60 * xl7) + xl6 ≤ 2147483647 ∧ (0 : Int) ≤ (60 * xl7) + xl6 ∧ (60 * xl7) + xl6 < (2400 : Int) ∧ (-2147483648 : Int) ≤ xl4 + 1 ∧ xl4 + 1 ≤ 2147483647 ∧ (-2147483648 : Int) ≤ xl7 + 1 ∧ xl7 + 1 ≤ 2147483647) (k1 : (rn_gi M 471 (xl5).toNat + xl3 < xl7) → rn_WP 155 42 [rn_R 466, vl1, vl2, rn_I xl3, rn_I xl4, rn_I xl5, rn_I (xl6 + 1), rn_I xl7] [] M Q) (k2 : (¬ (rn_gi M 471 (xl5).toNat + xl3 < xl7)) → (¬ ((0 ≤ xl6 ∧ xl6 < 60) ∧ 0 ≤ xl7 ∧ xl7 < 40)) → rn_WP 155 67 [rn_R 466, vl1, vl2, rn_I xl3, rn_I xl4, rn_I xl5, rn_I xl6, rn_I (xl7 + 1)] [] M Q) (k3 : (¬ (rn_gi M 471 (xl5).toNat + xl3 < xl7)) → ((0 ≤ xl6 ∧ xl6 < 60) ∧ 0 ≤ xl7 ∧ xl7 < 40) → (rn_gi M 472 ((60 * xl7) + xl6).toNat = rn_gi M 466 8) → rn_WP 155 67 [rn_R 466, vl1, vl2, rn_I xl3, rn_I xl4, rn_I xl5, rn_I xl6, rn_I (xl7 + 1)] [] M Q) (k4 : (¬ (rn_gi M 471 (xl5).toNat + xl3 < xl7)) → ((0 ≤ xl6 ∧ xl6 < 60) ∧ 0 ≤ xl7 ∧ xl7 < 40) → (¬ (rn_gi M 472 ((60 * xl7) + xl6).toNat = rn_gi M 466 8)) → rn_WP 155 67 [rn_R 466, vl1, vl2, rn_I xl3, rn_I (xl4 + 1), rn_I xl5, rn_I xl6, rn_I (xl7 + 1)] [] (rn_si M 472 ((60 * xl7) + xl6).toNat (rn_gi M 466 8)) Q) : rn_WP 155 67 [rn_R 466, vl1, vl2, rn_I xl3, rn_I xl4, rn_I xl5, rn_I xl6, rn_I xl7] [] M Q := by
  refine (rn_step (e := (.iload 7, 69, 7, 0, 0, 0, 0, [])) rfl).mpr ?_
  refine (rn_step (e := (.aload_n 0, 70, 0, 0, 0, 0, 0, [])) rfl).mpr ?_
  refine (rn_step (e := (.getfield 22, 73, 10, 6, 908, 2, 11, [])) rfl).mpr (And.intro ((rn_ks466 (M := M) hM)) (rn_cg (rn_g466_6 (M := M) hM) ?_))
  refine (rn_step (e := (.iload 5, 75, 5, 0, 0, 0, 0, [])) rfl).mpr ?_
  refine (rn_step (e := (.iaload, 76, 0, 0, 0, 0, 0, [])) rfl).mpr (And.intro (Or.inl (rn_w471 (M := M) hM).1) (And.intro ((And.intro (hr1.1) (rn_lt (rn_w471 (M := M) hM).2 hr1.2.1))) (?_)))
  refine (rn_step (e := (.iload_n 3, 77, 3, 0, 0, 0, 0, [])) rfl).mpr ?_
  refine (rn_step (e := (.iadd, 78, 0, 0, 0, 0, 0, [])) rfl).mpr (rn_cw hr1.2.2.1 hr1.2.2.2 ?_)
  refine (rn_step (e := (.if_icmp .gt 59, 81, 137, 0, 0, 0, 0, [])) rfl).mpr (And.intro (fun c1 => ?_) (fun c1 => ?_))
  ·
    refine (rn_step (e := (.iinc 6 1, 140, 6, 0, 0, 0, 0, [])) rfl).mpr (rn_ci (hr2 c1).1 (hr2 c1).2 ?_)
    refine (rn_step (e := (.goto (-98), 143, 42, 0, 0, 0, 0, [])) rfl).mpr ?_
    exact (k1 c1)
  ·
    refine (rn_step (e := (.iload 6, 83, 6, 0, 0, 0, 0, [])) rfl).mpr ?_
    refine (rn_step (e := (.iload 7, 85, 7, 0, 0, 0, 0, [])) rfl).mpr ?_
    refine (rn_step (e := (.invokestatic 59, 88, 132, 2, 959, 0, 11, [0])) rfl).mpr (rc_Mo_isOnMap  ?_)
    refine (rn_step (e := (.ifCond .eq 43, 91, 131, 0, 0, 0, 0, [])) rfl).mpr (And.intro (fun q => ?_) (fun q => ?_))
    · have c2 := rn_b0 q
      refine (rn_step (e := (.iinc 7 1, 134, 7, 0, 0, 0, 0, [])) rfl).mpr (rn_ci (hr3 c1 c2).1 (hr3 c1 c2).2 ?_)
      refine (rn_step (e := (.goto (-67), 137, 67, 0, 0, 0, 0, [])) rfl).mpr ?_
      exact (k2 c1 c2)
    · have c2 := rn_b1 q
      refine (rn_step (e := (.aload_n 0, 92, 0, 0, 0, 0, 0, [])) rfl).mpr ?_
      refine (rn_step (e := (.getfield 25, 95, 10, 7, 909, 2, 11, [])) rfl).mpr (And.intro ((rn_ks466 (M := M) hM)) (rn_cg (rn_g466_7 (M := M) hM) ?_))
      refine (rn_step (e := (.bipush 60, 97, 0, 0, 0, 0, 0, [])) rfl).mpr ?_
      refine (rn_step (e := (.iload 7, 99, 7, 0, 0, 0, 0, [])) rfl).mpr ?_
      refine (rn_step (e := (.imul, 100, 0, 0, 0, 0, 0, [])) rfl).mpr (rn_cw (hr4 c1 c2).1 (hr4 c1 c2).2.1 ?_)
      refine (rn_step (e := (.iload 6, 102, 6, 0, 0, 0, 0, [])) rfl).mpr ?_
      refine (rn_step (e := (.iadd, 103, 0, 0, 0, 0, 0, [])) rfl).mpr (rn_cw (hr4 c1 c2).2.2.1 (hr4 c1 c2).2.2.2.1 ?_)
      refine (rn_step (e := (.iaload, 104, 0, 0, 0, 0, 0, [])) rfl).mpr (And.intro (Or.inl (rn_w472 (M := M) hM).1) (And.intro ((And.intro ((hr4 c1 c2).2.2.2.2.1) (rn_lt (rn_w472 (M := M) hM).2 (hr4 c1 c2).2.2.2.2.2))) (?_)))
      refine (rn_step (e := (.aload_n 0, 105, 0, 0, 0, 0, 0, [])) rfl).mpr ?_
      refine (rn_step (e := (.getfield 108, 108, 10, 8, 910, 0, 11, [])) rfl).mpr (And.intro ((rn_ks466 (M := M) hM)) (?_))
      refine (rn_step (e := (.if_icmp .eq 23, 111, 131, 0, 0, 0, 0, [])) rfl).mpr (And.intro (fun c3 => ?_) (fun c3 => ?_))
      ·
        refine (rn_step (e := (.iinc 7 1, 134, 7, 0, 0, 0, 0, [])) rfl).mpr (rn_ci (hr5 c1 c2 c3).1 (hr5 c1 c2 c3).2 ?_)
        refine (rn_step (e := (.goto (-67), 137, 67, 0, 0, 0, 0, [])) rfl).mpr ?_
        exact (k3 c1 c2 c3)
      ·
        refine (rn_step (e := (.aload_n 0, 112, 0, 0, 0, 0, 0, [])) rfl).mpr ?_
        refine (rn_step (e := (.getfield 25, 115, 10, 7, 909, 2, 11, [])) rfl).mpr (And.intro ((rn_ks466 (M := M) hM)) (rn_cg (rn_g466_7 (M := M) hM) ?_))
        refine (rn_step (e := (.bipush 60, 117, 0, 0, 0, 0, 0, [])) rfl).mpr ?_
        refine (rn_step (e := (.iload 7, 119, 7, 0, 0, 0, 0, [])) rfl).mpr ?_
        refine (rn_step (e := (.imul, 120, 0, 0, 0, 0, 0, [])) rfl).mpr (rn_cw (hr6 c1 c2 c3).1 (hr6 c1 c2 c3).2.1 ?_)
        refine (rn_step (e := (.iload 6, 122, 6, 0, 0, 0, 0, [])) rfl).mpr ?_
        refine (rn_step (e := (.iadd, 123, 0, 0, 0, 0, 0, [])) rfl).mpr (rn_cw (hr6 c1 c2 c3).2.2.1 (hr6 c1 c2 c3).2.2.2.1 ?_)
        refine (rn_step (e := (.aload_n 0, 124, 0, 0, 0, 0, 0, [])) rfl).mpr ?_
        refine (rn_step (e := (.getfield 108, 127, 10, 8, 910, 0, 11, [])) rfl).mpr (And.intro ((rn_ks466 (M := M) hM)) (?_))
        refine (rn_step (e := (.iastore, 128, 0, 0, 0, 0, 0, [])) rfl).mpr (And.intro ((rn_w472 (M := M) hM).1) (And.intro ((And.intro ((hr6 c1 c2 c3).2.2.2.2.1) (rn_lt (rn_w472 (M := M) hM).2 (hr6 c1 c2 c3).2.2.2.2.2.1))) (?_)))
        refine (rn_step (e := (.iinc 4 1, 131, 4, 0, 0, 0, 0, [])) rfl).mpr (rn_ci (hr6 c1 c2 c3).2.2.2.2.2.2.1 (hr6 c1 c2 c3).2.2.2.2.2.2.2.1 ?_)
        refine (rn_step (e := (.iinc 7 1, 134, 7, 0, 0, 0, 0, [])) rfl).mpr (rn_ci (hr6 c1 c2 c3).2.2.2.2.2.2.2.2.1 (hr6 c1 c2 c3).2.2.2.2.2.2.2.2.2 ?_)
        refine (rn_step (e := (.goto (-67), 137, 67, 0, 0, 0, 0, [])) rfl).mpr ?_
        exact (k4 c1 c2 c3)
theorem re_Mo_meetsLabel {M : rn_M} {Q : rn_Q} {v0 v1 : rn_V} (h : rn_WP 156 0 [v0, v1, rn_J, rn_J, rn_J, rn_J, rn_J, rn_J] [] M Q) : rn_ME 156 [v0, v1] M Q := h
set_option maxRecDepth 4000 in
theorem rb_Mo_meetsLabel_0 {M : rn_M} {Q : rn_Q} {xl1 : Int} {vl2 : rn_V} {vl3 : rn_V} {vl4 : rn_V} {vl5 : rn_V} {vl6 : rn_V} {vl7 : rn_V} (hM : rn_sh M)   (hr1 : (-2147483648 : Int) ≤ 2 * xl1 ∧ 2 * xl1 ≤ 2147483647 ∧ (-2147483648 : Int) ≤ 522 + (2 * xl1) ∧ 522 + (2 * xl1) ≤ 2147483647 ∧ (0 : Int) ≤ 522 + (2 * xl1) ∧ 522 + (2 * xl1) < (562 : Int) ∧ (-2147483648 : Int) ≤ (522 + (2 * xl1)) + 1 ∧ (522 + (2 * xl1)) + 1 ≤ 2147483647 ∧ (0 : Int) ≤ (522 + (2 * xl1)) + 1 ∧ (522 + (2 * xl1)) + 1 < (562 : Int)) (k1 : rn_ME 133 [rn_R 466, rn_I (rn_gi M 467 (522 + (2 * xl1)).toNat)] M (fun r M1 => rn_WP 156 33 [rn_R 466, rn_I xl1, rn_I (rn_gi M 467 (522 + (2 * xl1)).toNat), rn_I (rn_gi M 467 ((522 + (2 * xl1)) + 1).toNat), vl4, vl5, vl6, vl7] (r.toList ++ []) M1 Q)) : rn_WP 156 0 [rn_R 466, rn_I xl1, vl2, vl3, vl4, vl5, vl6, vl7] [] M Q := by
  refine (rn_step (e := (.aload_n 0, 1, 0, 0, 0, 0, 0, [])) rfl).mpr ?_
  refine (rn_step (e := (.getfield 7, 4, 10, 0, 902, 2, 11, [])) rfl).mpr (And.intro ((rn_ks466 (M := M) hM)) (rn_cg (rn_g466_0 (M := M) hM) ?_))
  refine (rn_step (e := (.sipush 522, 7, 0, 0, 0, 0, 0, [])) rfl).mpr ?_
  refine (rn_step (e := (.iconst 2, 8, 0, 0, 0, 0, 0, [])) rfl).mpr ?_
  refine (rn_step (e := (.iload_n 1, 9, 1, 0, 0, 0, 0, [])) rfl).mpr ?_
  refine (rn_step (e := (.imul, 10, 0, 0, 0, 0, 0, [])) rfl).mpr (rn_cw hr1.1 hr1.2.1 ?_)
  refine (rn_step (e := (.iadd, 11, 0, 0, 0, 0, 0, [])) rfl).mpr (rn_cw hr1.2.2.1 hr1.2.2.2.1 ?_)
  refine (rn_step (e := (.iaload, 12, 0, 0, 0, 0, 0, [])) rfl).mpr (And.intro (Or.inl (rn_w467 (M := M) hM).1) (And.intro ((And.intro (hr1.2.2.2.2.1) (rn_lt (rn_w467 (M := M) hM).2 hr1.2.2.2.2.2.1))) (?_)))
  refine (rn_step (e := (.istore_n 2, 13, 2, 0, 0, 0, 0, [])) rfl).mpr ?_
  refine (rn_step (e := (.aload_n 0, 14, 0, 0, 0, 0, 0, [])) rfl).mpr ?_
  refine (rn_step (e := (.getfield 7, 17, 10, 0, 902, 2, 11, [])) rfl).mpr (And.intro ((rn_ks466 (M := M) hM)) (rn_cg (rn_g466_0 (M := M) hM) ?_))
  refine (rn_step (e := (.sipush 522, 20, 0, 0, 0, 0, 0, [])) rfl).mpr ?_
  refine (rn_step (e := (.iconst 2, 21, 0, 0, 0, 0, 0, [])) rfl).mpr ?_
  refine (rn_step (e := (.iload_n 1, 22, 1, 0, 0, 0, 0, [])) rfl).mpr ?_
  refine (rn_step (e := (.imul, 23, 0, 0, 0, 0, 0, [])) rfl).mpr (rn_cw hr1.1 hr1.2.1 ?_)
  refine (rn_step (e := (.iadd, 24, 0, 0, 0, 0, 0, [])) rfl).mpr (rn_cw hr1.2.2.1 hr1.2.2.2.1 ?_)
  refine (rn_step (e := (.iconst 1, 25, 0, 0, 0, 0, 0, [])) rfl).mpr ?_
  refine (rn_step (e := (.iadd, 26, 0, 0, 0, 0, 0, [])) rfl).mpr (rn_cw hr1.2.2.2.2.2.2.1 hr1.2.2.2.2.2.2.2.1 ?_)
  refine (rn_step (e := (.iaload, 27, 0, 0, 0, 0, 0, [])) rfl).mpr (And.intro (Or.inl (rn_w467 (M := M) hM).1) (And.intro ((And.intro (hr1.2.2.2.2.2.2.2.2.1) (rn_lt (rn_w467 (M := M) hM).2 hr1.2.2.2.2.2.2.2.2.2))) (?_)))
  refine (rn_step (e := (.istore_n 3, 28, 3, 0, 0, 0, 0, [])) rfl).mpr ?_
  refine (rn_step (e := (.aload_n 0, 29, 0, 0, 0, 0, 0, [])) rfl).mpr ?_
  refine (rn_step (e := (.iload_n 2, 30, 2, 0, 0, 0, 0, [])) rfl).mpr ?_
  exact (rn_step (e := (.invokevirtual 87, 33, 133, 2, 998, 0, 11, [0])) rfl).mpr (And.intro ((rn_ks466 (M := M) hM)) (k1))
set_option maxRecDepth 4000 in
theorem rb_Mo_meetsLabel_33 {M : rn_M} {Q : rn_Q} {vl1 : rn_V} {xl2 : Int} {xl3 : Int} {vl4 : rn_V} {vl5 : rn_V} {vl6 : rn_V} {vl7 : rn_V} (hM : rn_sh M)   (hr1 : ((0 : Int) ≤ xl2 ∧ (xl2 : Int) ≤ 5) ∧ ((0 : Int) ≤ 2 ∧ (2 : Int) ≤ 77)) (k1 : rn_WP 156 44 [rn_R 466, vl1, rn_I xl2, rn_I xl3, rn_I (rn_o (rn_gi M 467) xl2 2), rn_I xl3, vl6, vl7] [] M Q) : rn_WP 156 33 [rn_R 466, vl1, rn_I xl2, rn_I xl3, vl4, vl5, vl6, vl7] [] M Q := by
  refine (rn_step (e := (.aload_n 0, 34, 0, 0, 0, 0, 0, [])) rfl).mpr ?_
  refine (rn_step (e := (.iload_n 2, 35, 2, 0, 0, 0, 0, [])) rfl).mpr ?_
  refine (rn_step (e := (.iconst 2, 36, 0, 0, 0, 0, 0, [])) rfl).mpr ?_
  refine (rn_step (e := (.invokevirtual 49, 39, 129, 3, 1002, 0, 11, [0])) rfl).mpr (And.intro ((rn_ks466 (M := M) hM)) ((rc_Mo_of hM (hr1.1) (hr1.2) ?_)))
  refine (rn_step (e := (.istore 4, 41, 4, 0, 0, 0, 0, [])) rfl).mpr ?_
  refine (rn_step (e := (.iload_n 3, 42, 3, 0, 0, 0, 0, [])) rfl).mpr ?_
  refine (rn_step (e := (.istore 5, 44, 5, 0, 0, 0, 0, [])) rfl).mpr ?_
  exact k1
set_option maxRecDepth 4000 in
theorem rb_Mo_meetsLabel_44 {M : rn_M} {Q : rn_Q} {vl1 : rn_V} {xl2 : Int} {xl3 : Int} {xl4 : Int} {xl5 : Int} {vl6 : rn_V} {vl7 : rn_V} (hM : rn_sh M)   (hr1 : ((0 : Int) ≤ xl2 ∧ (xl2 : Int) ≤ 5) ∧ ((0 : Int) ≤ 0 ∧ (0 : Int) ≤ 77) ∧ (-2147483648 : Int) ≤ xl3 + (rn_o (rn_gi M 467) xl2 0) ∧ xl3 + (rn_o (rn_gi M 467) xl2 0) ≤ 2147483647) (hr2 : (xl5 < xl3 + (rn_o (rn_gi M 467) xl2 0)) → (0 : Int) ≤ xl5 ∧ xl5 < (61 : Int) ∧ (-2147483648 : Int) ≤ (rn_gi M 470 (xl5).toNat) - xl4 ∧ (rn_gi M 470 (xl5).toNat) - xl4 ≤ 2147483647) (k1 : (xl5 < xl3 + (rn_o (rn_gi M 467) xl2 0)) → rn_WP 156 69 [rn_R 466, vl1, rn_I xl2, rn_I xl3, rn_I xl4, rn_I xl5, rn_I ((rn_gi M 470 (xl5).toNat) - xl4), vl7] [] M Q) (k2 : (¬ (xl5 < xl3 + (rn_o (rn_gi M 467) xl2 0))) → Q (some (rn_I 0)) M) : rn_WP 156 44 [rn_R 466, vl1, rn_I xl2, rn_I xl3, rn_I xl4, rn_I xl5, vl6, vl7] [] M Q := by
  refine (rn_step (e := (.iload 5, 46, 5, 0, 0, 0, 0, [])) rfl).mpr ?_
  refine (rn_step (e := (.iload_n 3, 47, 3, 0, 0, 0, 0, [])) rfl).mpr ?_
  refine (rn_step (e := (.aload_n 0, 48, 0, 0, 0, 0, 0, [])) rfl).mpr ?_
  refine (rn_step (e := (.iload_n 2, 49, 2, 0, 0, 0, 0, [])) rfl).mpr ?_
  refine (rn_step (e := (.iconst 0, 50, 0, 0, 0, 0, 0, [])) rfl).mpr ?_
  refine (rn_step (e := (.invokevirtual 49, 53, 129, 3, 1002, 0, 11, [0])) rfl).mpr (And.intro ((rn_ks466 (M := M) hM)) ((rc_Mo_of hM (hr1.1) (hr1.2.1) ?_)))
  refine (rn_step (e := (.iadd, 54, 0, 0, 0, 0, 0, [])) rfl).mpr (rn_cw hr1.2.2.1 hr1.2.2.2 ?_)
  refine (rn_step (e := (.if_icmp .ge 107, 57, 161, 0, 0, 0, 0, [])) rfl).mpr (And.intro (fun c1 => ?_) (fun c1 => ?_))
  ·
    refine (rn_step (e := (.aload_n 0, 58, 0, 0, 0, 0, 0, [])) rfl).mpr ?_
    refine (rn_step (e := (.getfield 19, 61, 10, 5, 907, 2, 11, [])) rfl).mpr (And.intro ((rn_ks466 (M := M) hM)) (rn_cg (rn_g466_5 (M := M) hM) ?_))
    refine (rn_step (e := (.iload 5, 63, 5, 0, 0, 0, 0, [])) rfl).mpr ?_
    refine (rn_step (e := (.iaload, 64, 0, 0, 0, 0, 0, [])) rfl).mpr (And.intro (Or.inl (rn_w470 (M := M) hM).1) (And.intro ((And.intro ((hr2 c1).1) (rn_lt (rn_w470 (M := M) hM).2 (hr2 c1).2.1))) (?_)))
    refine (rn_step (e := (.iload 4, 66, 4, 0, 0, 0, 0, [])) rfl).mpr ?_
    refine (rn_step (e := (.isub, 67, 0, 0, 0, 0, 0, [])) rfl).mpr (rn_cw (hr2 c1).2.2.1 (hr2 c1).2.2.2 ?_)
    refine (rn_step (e := (.istore 6, 69, 6, 0, 0, 0, 0, [])) rfl).mpr ?_
    exact (k1 c1)
  ·
    refine (rn_step (e := (.iconst 0, 162, 0, 0, 0, 0, 0, [])) rfl).mpr ?_
    exact (rn_step (e := (.ireturn, 163, 0, 0, 0, 1, 0, [])) rfl).mpr (And.intro ((Or.inl rfl)) ((k2 c1)))
set_option maxRecDepth 4000 in
theorem rb_Mo_meetsLabel_69 {M : rn_M} {Q : rn_Q} {vl1 : rn_V} {vl2 : rn_V} {vl3 : rn_V} {xl4 : Int} {xl5 : Int} {xl6 : Int} {vl7 : rn_V} (hM : rn_sh M)   (hr1 : (0 : Int) ≤ xl5 ∧ xl5 < (61 : Int) ∧ (-2147483648 : Int) ≤ rn_gi M 470 (xl5).toNat + xl4 ∧ rn_gi M 470 (xl5).toNat + xl4 ≤ 2147483647) (hr2 : (rn_gi M 470 (xl5).toNat + xl4 < xl6) → (-2147483648 : Int) ≤ xl5 + 1 ∧ xl5 + 1 ≤ 2147483647) (hr3 : (¬ (rn_gi M 470 (xl5).toNat + xl4 < xl6)) → (0 : Int) ≤ xl5 ∧ xl5 < (61 : Int) ∧ (-2147483648 : Int) ≤ (rn_gi M 471 (xl5).toNat) - xl4 ∧ (rn_gi M 471 (xl5).toNat) - xl4 ≤ 2147483647) (k1 : (rn_gi M 470 (xl5).toNat + xl4 < xl6) → rn_WP 156 44 [rn_R 466, vl1, vl2, vl3, rn_I xl4, rn_I (xl5 + 1), rn_I xl6, vl7] [] M Q) (k2 : (¬ (rn_gi M 470 (xl5).toNat + xl4 < xl6)) → rn_WP 156 96 [rn_R 466, vl1, vl2, vl3, rn_I xl4, rn_I xl5, rn_I xl6, rn_I ((rn_gi M 471 (xl5).toNat) - xl4)] [] M Q) : rn_WP 156 69 [rn_R 466, vl1, vl2, vl3, rn_I xl4, rn_I xl5, rn_I xl6, vl7] [] M Q := by
  refine (rn_step (e := (.iload 6, 71, 6, 0, 0, 0, 0, [])) rfl).mpr ?_
  refine (rn_step (e := (.aload_n 0, 72, 0, 0, 0, 0, 0, [])) rfl).mpr ?_
  refine (rn_step (e := (.getfield 19, 75, 10, 5, 907, 2, 11, [])) rfl).mpr (And.intro ((rn_ks466 (M := M) hM)) (rn_cg (rn_g466_5 (M := M) hM) ?_))
  refine (rn_step (e := (.iload 5, 77, 5, 0, 0, 0, 0, [])) rfl).mpr ?_
  refine (rn_step (e := (.iaload, 78, 0, 0, 0, 0, 0, [])) rfl).mpr (And.intro (Or.inl (rn_w470 (M := M) hM).1) (And.intro ((And.intro (hr1.1) (rn_lt (rn_w470 (M := M) hM).2 hr1.2.1))) (?_)))
  refine (rn_step (e := (.iload 4, 80, 4, 0, 0, 0, 0, [])) rfl).mpr ?_
  refine (rn_step (e := (.iadd, 81, 0, 0, 0, 0, 0, [])) rfl).mpr (rn_cw hr1.2.2.1 hr1.2.2.2 ?_)
  refine (rn_step (e := (.if_icmp .gt 74, 84, 155, 0, 0, 0, 0, [])) rfl).mpr (And.intro (fun c1 => ?_) (fun c1 => ?_))
  ·
    refine (rn_step (e := (.iinc 5 1, 158, 5, 0, 0, 0, 0, [])) rfl).mpr (rn_ci (hr2 c1).1 (hr2 c1).2 ?_)
    refine (rn_step (e := (.goto (-114), 161, 44, 0, 0, 0, 0, [])) rfl).mpr ?_
    exact (k1 c1)
  ·
    refine (rn_step (e := (.aload_n 0, 85, 0, 0, 0, 0, 0, [])) rfl).mpr ?_
    refine (rn_step (e := (.getfield 22, 88, 10, 6, 908, 2, 11, [])) rfl).mpr (And.intro ((rn_ks466 (M := M) hM)) (rn_cg (rn_g466_6 (M := M) hM) ?_))
    refine (rn_step (e := (.iload 5, 90, 5, 0, 0, 0, 0, [])) rfl).mpr ?_
    refine (rn_step (e := (.iaload, 91, 0, 0, 0, 0, 0, [])) rfl).mpr (And.intro (Or.inl (rn_w471 (M := M) hM).1) (And.intro ((And.intro ((hr3 c1).1) (rn_lt (rn_w471 (M := M) hM).2 (hr3 c1).2.1))) (?_)))
    refine (rn_step (e := (.iload 4, 93, 4, 0, 0, 0, 0, [])) rfl).mpr ?_
    refine (rn_step (e := (.isub, 94, 0, 0, 0, 0, 0, [])) rfl).mpr (rn_cw (hr3 c1).2.2.1 (hr3 c1).2.2.2 ?_)
    refine (rn_step (e := (.istore 7, 96, 7, 0, 0, 0, 0, [])) rfl).mpr ?_
    exact (k2 c1)
set_option maxRecDepth 4000 in
theorem rb_Mo_meetsLabel_96 {M : rn_M} {Q : rn_Q} {vl1 : rn_V} {vl2 : rn_V} {vl3 : rn_V} {xl4 : Int} {xl5 : Int} {xl6 : Int} {xl7 : Int} (hM : rn_sh M)   (hr1 : (0 : Int) ≤ xl5 ∧ xl5 < (61 : Int) ∧ (-2147483648 : Int) ≤ rn_gi M 471 (xl5).toNat + xl4 ∧ rn_gi M 471 (xl5).toNat + xl4 ≤ 2147483647) (hr2 : (rn_gi M 471 (xl5).toNat + xl4 < xl7) → (-2147483648 : Int) ≤ xl6 + 1 ∧ xl6 + 1 ≤ 2147483647) (hr3 : (¬ (rn_gi M 471 (xl5).toNat + xl4 < xl7)) → (¬ ((0 ≤ xl6 ∧ xl6 < 60) ∧ 0 ≤ xl7 ∧ xl7 < 40)) → (-2147483648 : Int) ≤ xl7 + 1 ∧ xl7 + 1 ≤ 2147483647) (hr4 : (¬ (rn_gi M 471 (xl5).toNat + xl4 < xl7)) → ((0 ≤ xl6 ∧ xl6 < 60) ∧ 0 ≤ xl7 ∧ xl7 < 40) → (-2147483648 : Int) ≤ 60 * xl7 ∧ 60 * xl7 ≤ 2147483647 ∧ (-2147483648 : Int) ≤ (60 * xl7) + xl6 ∧ (60 * xl7) + xl6 ≤ 2147483647 ∧ (0 : Int) ≤ (60 * xl7) + xl6 ∧ (60 * xl7) + xl6 < (2400 : Int)) (hr5 : (¬ (rn_gi M 471 (xl5).toNat + xl4 < xl7)) → ((0 ≤ xl6 ∧ xl6 < 60) ∧ 0 ≤ xl7 ∧ xl7 < 40) → (¬ (rn_gi M 472 ((60 * xl7) + xl6).toNat = rn_gi M 466 8)) → (-2147483648 : Int) ≤ xl7 + 1 ∧ xl7 + 1 ≤ 2147483647) (k1 : (rn_gi M 471 (xl5).toNat + xl4 < xl7) → rn_WP 156 69 [rn_R 466, vl1, vl2, vl3, rn_I xl4, rn_I xl5, rn_I (xl6 + 1), rn_I xl7] [] M Q) (k2 : (¬ (rn_gi M 471 (xl5).toNat + xl4 < xl7)) → (¬ ((0 ≤ xl6 ∧ xl6 < 60) ∧ 0 ≤ xl7 ∧ xl7 < 40)) → rn_WP 156 96 [rn_R 466, vl1, vl2, vl3, rn_I xl4, rn_I xl5, rn_I xl6, rn_I (xl7 + 1)] [] M Q) (k3 : (¬ (rn_gi M 471 (xl5).toNat + xl4 < xl7)) → ((0 ≤ xl6 ∧ xl6 < 60) ∧ 0 ≤ xl7 ∧ xl7 < 40) → (rn_gi M 472 ((60 * xl7) + xl6).toNat = rn_gi M 466 8) → Q (some (rn_I 1)) M) (k4 : (¬ (rn_gi M 471 (xl5).toNat + xl4 < xl7)) → ((0 ≤ xl6 ∧ xl6 < 60) ∧ 0 ≤ xl7 ∧ xl7 < 40) → (¬ (rn_gi M 472 ((60 * xl7) + xl6).toNat = rn_gi M 466 8)) → rn_WP 156 96 [rn_R 466, vl1, vl2, vl3, rn_I xl4, rn_I xl5, rn_I xl6, rn_I (xl7 + 1)] [] M Q) : rn_WP 156 96 [rn_R 466, vl1, vl2, vl3, rn_I xl4, rn_I xl5, rn_I xl6, rn_I xl7] [] M Q := by
  refine (rn_step (e := (.iload 7, 98, 7, 0, 0, 0, 0, [])) rfl).mpr ?_
  refine (rn_step (e := (.aload_n 0, 99, 0, 0, 0, 0, 0, [])) rfl).mpr ?_
  refine (rn_step (e := (.getfield 22, 102, 10, 6, 908, 2, 11, [])) rfl).mpr (And.intro ((rn_ks466 (M := M) hM)) (rn_cg (rn_g466_6 (M := M) hM) ?_))
  refine (rn_step (e := (.iload 5, 104, 5, 0, 0, 0, 0, [])) rfl).mpr ?_
  refine (rn_step (e := (.iaload, 105, 0, 0, 0, 0, 0, [])) rfl).mpr (And.intro (Or.inl (rn_w471 (M := M) hM).1) (And.intro ((And.intro (hr1.1) (rn_lt (rn_w471 (M := M) hM).2 hr1.2.1))) (?_)))
  refine (rn_step (e := (.iload 4, 107, 4, 0, 0, 0, 0, [])) rfl).mpr ?_
  refine (rn_step (e := (.iadd, 108, 0, 0, 0, 0, 0, [])) rfl).mpr (rn_cw hr1.2.2.1 hr1.2.2.2 ?_)
  refine (rn_step (e := (.if_icmp .gt 41, 111, 149, 0, 0, 0, 0, [])) rfl).mpr (And.intro (fun c1 => ?_) (fun c1 => ?_))
  ·
    refine (rn_step (e := (.iinc 6 1, 152, 6, 0, 0, 0, 0, [])) rfl).mpr (rn_ci (hr2 c1).1 (hr2 c1).2 ?_)
    refine (rn_step (e := (.goto (-83), 155, 69, 0, 0, 0, 0, [])) rfl).mpr ?_
    exact (k1 c1)
  ·
    refine (rn_step (e := (.iload 6, 113, 6, 0, 0, 0, 0, [])) rfl).mpr ?_
    refine (rn_step (e := (.iload 7, 115, 7, 0, 0, 0, 0, [])) rfl).mpr ?_
    refine (rn_step (e := (.invokestatic 59, 118, 132, 2, 959, 0, 11, [0])) rfl).mpr (rc_Mo_isOnMap  ?_)
    refine (rn_step (e := (.ifCond .eq 25, 121, 143, 0, 0, 0, 0, [])) rfl).mpr (And.intro (fun q => ?_) (fun q => ?_))
    · have c2 := rn_b0 q
      refine (rn_step (e := (.iinc 7 1, 146, 7, 0, 0, 0, 0, [])) rfl).mpr (rn_ci (hr3 c1 c2).1 (hr3 c1 c2).2 ?_)
      refine (rn_step (e := (.goto (-50), 149, 96, 0, 0, 0, 0, [])) rfl).mpr ?_
      exact (k2 c1 c2)
    · have c2 := rn_b1 q
      refine (rn_step (e := (.aload_n 0, 122, 0, 0, 0, 0, 0, [])) rfl).mpr ?_
      refine (rn_step (e := (.getfield 25, 125, 10, 7, 909, 2, 11, [])) rfl).mpr (And.intro ((rn_ks466 (M := M) hM)) (rn_cg (rn_g466_7 (M := M) hM) ?_))
      refine (rn_step (e := (.bipush 60, 127, 0, 0, 0, 0, 0, [])) rfl).mpr ?_
      refine (rn_step (e := (.iload 7, 129, 7, 0, 0, 0, 0, [])) rfl).mpr ?_
      refine (rn_step (e := (.imul, 130, 0, 0, 0, 0, 0, [])) rfl).mpr (rn_cw (hr4 c1 c2).1 (hr4 c1 c2).2.1 ?_)
      refine (rn_step (e := (.iload 6, 132, 6, 0, 0, 0, 0, [])) rfl).mpr ?_
      refine (rn_step (e := (.iadd, 133, 0, 0, 0, 0, 0, [])) rfl).mpr (rn_cw (hr4 c1 c2).2.2.1 (hr4 c1 c2).2.2.2.1 ?_)
      refine (rn_step (e := (.iaload, 134, 0, 0, 0, 0, 0, [])) rfl).mpr (And.intro (Or.inl (rn_w472 (M := M) hM).1) (And.intro ((And.intro ((hr4 c1 c2).2.2.2.2.1) (rn_lt (rn_w472 (M := M) hM).2 (hr4 c1 c2).2.2.2.2.2))) (?_)))
      refine (rn_step (e := (.aload_n 0, 135, 0, 0, 0, 0, 0, [])) rfl).mpr ?_
      refine (rn_step (e := (.getfield 108, 138, 10, 8, 910, 0, 11, [])) rfl).mpr (And.intro ((rn_ks466 (M := M) hM)) (?_))
      refine (rn_step (e := (.if_icmp .ne 5, 141, 143, 0, 0, 0, 0, [])) rfl).mpr (And.intro (fun c3 => ?_) (fun c3 => ?_))
      ·
        refine (rn_step (e := (.iconst 1, 142, 0, 0, 0, 0, 0, [])) rfl).mpr ?_
        exact (rn_step (e := (.ireturn, 143, 0, 0, 0, 1, 0, [])) rfl).mpr (And.intro ((Or.inr rfl)) ((k3 c1 c2 c3)))
      ·
        refine (rn_step (e := (.iinc 7 1, 146, 7, 0, 0, 0, 0, [])) rfl).mpr (rn_ci (hr5 c1 c2 c3).1 (hr5 c1 c2 c3).2 ?_)
        refine (rn_step (e := (.goto (-50), 149, 96, 0, 0, 0, 0, [])) rfl).mpr ?_
        exact (k4 c1 c2 c3)
theorem re_Mo_meetsTown {M : rn_M} {Q : rn_Q} {v0 v1 : rn_V} (h : rn_WP 157 0 [v0, v1, rn_J, rn_J, rn_J] [] M Q) : rn_ME 157 [v0, v1] M Q := h
set_option maxRecDepth 4000 in
theorem rb_Mo_meetsTown_0 {M : rn_M} {Q : rn_Q} {xl1 : Int} {vl2 : rn_V} {vl3 : rn_V} {vl4 : rn_V} (hM : rn_sh M)   (hr1 : (-2147483648 : Int) ≤ 5 * xl1 ∧ 5 * xl1 ≤ 2147483647 ∧ (-2147483648 : Int) ≤ 472 + (5 * xl1) ∧ 472 + (5 * xl1) ≤ 2147483647 ∧ (0 : Int) ≤ 472 + (5 * xl1) ∧ 472 + (5 * xl1) < (562 : Int)) (k1 : rn_WP 157 15 [rn_R 466, rn_I xl1, rn_I (472 + (5 * xl1)), rn_I (rn_gi M 467 (472 + (5 * xl1)).toNat), vl4] [] M Q) : rn_WP 157 0 [rn_R 466, rn_I xl1, vl2, vl3, vl4] [] M Q := by
  refine (rn_step (e := (.sipush 472, 3, 0, 0, 0, 0, 0, [])) rfl).mpr ?_
  refine (rn_step (e := (.iconst 5, 4, 0, 0, 0, 0, 0, [])) rfl).mpr ?_
  refine (rn_step (e := (.iload_n 1, 5, 1, 0, 0, 0, 0, [])) rfl).mpr ?_
  refine (rn_step (e := (.imul, 6, 0, 0, 0, 0, 0, [])) rfl).mpr (rn_cw hr1.1 hr1.2.1 ?_)
  refine (rn_step (e := (.iadd, 7, 0, 0, 0, 0, 0, [])) rfl).mpr (rn_cw hr1.2.2.1 hr1.2.2.2.1 ?_)
  refine (rn_step (e := (.istore_n 2, 8, 2, 0, 0, 0, 0, [])) rfl).mpr ?_
  refine (rn_step (e := (.aload_n 0, 9, 0, 0, 0, 0, 0, [])) rfl).mpr ?_
  refine (rn_step (e := (.getfield 7, 12, 10, 0, 902, 2, 11, [])) rfl).mpr (And.intro ((rn_ks466 (M := M) hM)) (rn_cg (rn_g466_0 (M := M) hM) ?_))
  refine (rn_step (e := (.iload_n 2, 13, 2, 0, 0, 0, 0, [])) rfl).mpr ?_
  refine (rn_step (e := (.iaload, 14, 0, 0, 0, 0, 0, [])) rfl).mpr (And.intro (Or.inl (rn_w467 (M := M) hM).1) (And.intro ((And.intro (hr1.2.2.2.2.1) (rn_lt (rn_w467 (M := M) hM).2 hr1.2.2.2.2.2))) (?_)))
  refine (rn_step (e := (.istore_n 3, 15, 3, 0, 0, 0, 0, [])) rfl).mpr ?_
  exact k1
set_option maxRecDepth 4000 in
theorem rb_Mo_meetsTown_15 {M : rn_M} {Q : rn_Q} {vl1 : rn_V} {xl2 : Int} {xl3 : Int} {vl4 : rn_V} (hM : rn_sh M)   (hr1 : (0 : Int) ≤ xl2 ∧ xl2 < (562 : Int) ∧ (-2147483648 : Int) ≤ xl2 + 2 ∧ xl2 + 2 ≤ 2147483647 ∧ (0 : Int) ≤ xl2 + 2 ∧ xl2 + 2 < (562 : Int) ∧ (-2147483648 : Int) ≤ rn_gi M 467 (xl2).toNat + (rn_gi M 467 (xl2 + 2).toNat) ∧ rn_gi M 467 (xl2).toNat + (rn_gi M 467 (xl2 + 2).toNat) ≤ 2147483647) (hr2 : (xl3 < rn_gi M 467 (xl2).toNat + (rn_gi M 467 (xl2 + 2).toNat)) → (-2147483648 : Int) ≤ xl2 + 1 ∧ xl2 + 1 ≤ 2147483647 ∧ (0 : Int) ≤ xl2 + 1 ∧ xl2 + 1 < (562 : Int)) (k1 : (xl3 < rn_gi M 467 (xl2).toNat + (rn_gi M 467 (xl2 + 2).toNat)) → rn_WP 157 44 [rn_R 466, vl1, rn_I xl2, rn_I xl3, rn_I (rn_gi M 467 (xl2 + 1).toNat)] [] M Q) (k2 : (¬ (xl3 < rn_gi M 467 (xl2).toNat + (rn_gi M 467 (xl2 + 2).toNat))) → Q (some (rn_I 0)) M) : rn_WP 157 15 [rn_R 466, vl1, rn_I xl2, rn_I xl3, vl4] [] M Q := by
  refine (rn_step (e := (.iload_n 3, 16, 3, 0, 0, 0, 0, [])) rfl).mpr ?_
  refine (rn_step (e := (.aload_n 0, 17, 0, 0, 0, 0, 0, [])) rfl).mpr ?_
  refine (rn_step (e := (.getfield 7, 20, 10, 0, 902, 2, 11, [])) rfl).mpr (And.intro ((rn_ks466 (M := M) hM)) (rn_cg (rn_g466_0 (M := M) hM) ?_))
  refine (rn_step (e := (.iload_n 2, 21, 2, 0, 0, 0, 0, [])) rfl).mpr ?_
  refine (rn_step (e := (.iaload, 22, 0, 0, 0, 0, 0, [])) rfl).mpr (And.intro (Or.inl (rn_w467 (M := M) hM).1) (And.intro ((And.intro (hr1.1) (rn_lt (rn_w467 (M := M) hM).2 hr1.2.1))) (?_)))
  refine (rn_step (e := (.aload_n 0, 23, 0, 0, 0, 0, 0, [])) rfl).mpr ?_
  refine (rn_step (e := (.getfield 7, 26, 10, 0, 902, 2, 11, [])) rfl).mpr (And.intro ((rn_ks466 (M := M) hM)) (rn_cg (rn_g466_0 (M := M) hM) ?_))
  refine (rn_step (e := (.iload_n 2, 27, 2, 0, 0, 0, 0, [])) rfl).mpr ?_
  refine (rn_step (e := (.iconst 2, 28, 0, 0, 0, 0, 0, [])) rfl).mpr ?_
  refine (rn_step (e := (.iadd, 29, 0, 0, 0, 0, 0, [])) rfl).mpr (rn_cw hr1.2.2.1 hr1.2.2.2.1 ?_)
  refine (rn_step (e := (.iaload, 30, 0, 0, 0, 0, 0, [])) rfl).mpr (And.intro (Or.inl (rn_w467 (M := M) hM).1) (And.intro ((And.intro (hr1.2.2.2.2.1) (rn_lt (rn_w467 (M := M) hM).2 hr1.2.2.2.2.2.1))) (?_)))
  refine (rn_step (e := (.iadd, 31, 0, 0, 0, 0, 0, [])) rfl).mpr (rn_cw hr1.2.2.2.2.2.2.1 hr1.2.2.2.2.2.2.2 ?_)
  refine (rn_step (e := (.if_icmp .ge 68, 34, 99, 0, 0, 0, 0, [])) rfl).mpr (And.intro (fun c1 => ?_) (fun c1 => ?_))
  ·
    refine (rn_step (e := (.aload_n 0, 35, 0, 0, 0, 0, 0, [])) rfl).mpr ?_
    refine (rn_step (e := (.getfield 7, 38, 10, 0, 902, 2, 11, [])) rfl).mpr (And.intro ((rn_ks466 (M := M) hM)) (rn_cg (rn_g466_0 (M := M) hM) ?_))
    refine (rn_step (e := (.iload_n 2, 39, 2, 0, 0, 0, 0, [])) rfl).mpr ?_
    refine (rn_step (e := (.iconst 1, 40, 0, 0, 0, 0, 0, [])) rfl).mpr ?_
    refine (rn_step (e := (.iadd, 41, 0, 0, 0, 0, 0, [])) rfl).mpr (rn_cw (hr2 c1).1 (hr2 c1).2.1 ?_)
    refine (rn_step (e := (.iaload, 42, 0, 0, 0, 0, 0, [])) rfl).mpr (And.intro (Or.inl (rn_w467 (M := M) hM).1) (And.intro ((And.intro ((hr2 c1).2.2.1) (rn_lt (rn_w467 (M := M) hM).2 (hr2 c1).2.2.2))) (?_)))
    refine (rn_step (e := (.istore 4, 44, 4, 0, 0, 0, 0, [])) rfl).mpr ?_
    exact (k1 c1)
  ·
    refine (rn_step (e := (.iconst 0, 100, 0, 0, 0, 0, 0, [])) rfl).mpr ?_
    exact (rn_step (e := (.ireturn, 101, 0, 0, 0, 1, 0, [])) rfl).mpr (And.intro ((Or.inl rfl)) ((k2 c1)))
set_option maxRecDepth 4000 in
theorem rb_Mo_meetsTown_44 {M : rn_M} {Q : rn_Q} {vl1 : rn_V} {xl2 : Int} {xl3 : Int} {xl4 : Int} (hM : rn_sh M)   (hr1 : (-2147483648 : Int) ≤ xl2 + 1 ∧ xl2 + 1 ≤ 2147483647 ∧ (0 : Int) ≤ xl2 + 1 ∧ xl2 + 1 < (562 : Int) ∧ (-2147483648 : Int) ≤ xl2 + 3 ∧ xl2 + 3 ≤ 2147483647 ∧ (0 : Int) ≤ xl2 + 3 ∧ xl2 + 3 < (562 : Int) ∧ (-2147483648 : Int) ≤ rn_gi M 467 (xl2 + 1).toNat + (rn_gi M 467 (xl2 + 3).toNat) ∧ rn_gi M 467 (xl2 + 1).toNat + (rn_gi M 467 (xl2 + 3).toNat) ≤ 2147483647) (hr2 : (xl4 < rn_gi M 467 (xl2 + 1).toNat + (rn_gi M 467 (xl2 + 3).toNat)) → (-2147483648 : Int) ≤ 60 * xl4 ∧ 60 * xl4 ≤ 2147483647 ∧ (-2147483648 : Int) ≤ (60 * xl4) + xl3 ∧ (60 * xl4) + xl3 ≤ 2147483647 ∧ (0 : Int) ≤ (60 * xl4) + xl3 ∧ (60 * xl4) + xl3 < (2400 : Int)) (hr3 : (xl4 < rn_gi M 467 (xl2 + 1).toNat + (rn_gi M 467 (xl2 + 3).toNat)) → (¬ (rn_gi M 472 ((60 * xl4) + xl3).toNat = rn_gi M 466 8)) → (-2147483648 : Int) ≤ xl4 + 1 ∧ xl4 + 1 ≤ 2147483647) (hr4 : (¬ (xl4 < rn_gi M 467 (xl2 + 1).toNat + (rn_gi M 467 (xl2 + 3).toNat))) → (-2147483648 : Int) ≤ xl3 + 1 ∧ xl3 + 1 ≤ 2147483647) (k1 : (xl4 < rn_gi M 467 (xl2 + 1).toNat + (rn_gi M 467 (xl2 + 3).toNat)) → (rn_gi M 472 ((60 * xl4) + xl3).toNat = rn_gi M 466 8) → Q (some (rn_I 1)) M) (k2 : (xl4 < rn_gi M 467 (xl2 + 1).toNat + (rn_gi M 467 (xl2 + 3).toNat)) → (¬ (rn_gi M 472 ((60 * xl4) + xl3).toNat = rn_gi M 466 8)) → rn_WP 157 44 [rn_R 466, vl1, rn_I xl2, rn_I xl3, rn_I (xl4 + 1)] [] M Q) (k3 : (¬ (xl4 < rn_gi M 467 (xl2 + 1).toNat + (rn_gi M 467 (xl2 + 3).toNat))) → rn_WP 157 15 [rn_R 466, vl1, rn_I xl2, rn_I (xl3 + 1), rn_I xl4] [] M Q) : rn_WP 157 44 [rn_R 466, vl1, rn_I xl2, rn_I xl3, rn_I xl4] [] M Q := by
  refine (rn_step (e := (.iload 4, 46, 4, 0, 0, 0, 0, [])) rfl).mpr ?_
  refine (rn_step (e := (.aload_n 0, 47, 0, 0, 0, 0, 0, [])) rfl).mpr ?_
  refine (rn_step (e := (.getfield 7, 50, 10, 0, 902, 2, 11, [])) rfl).mpr (And.intro ((rn_ks466 (M := M) hM)) (rn_cg (rn_g466_0 (M := M) hM) ?_))
  refine (rn_step (e := (.iload_n 2, 51, 2, 0, 0, 0, 0, [])) rfl).mpr ?_
  refine (rn_step (e := (.iconst 1, 52, 0, 0, 0, 0, 0, [])) rfl).mpr ?_
  refine (rn_step (e := (.iadd, 53, 0, 0, 0, 0, 0, [])) rfl).mpr (rn_cw hr1.1 hr1.2.1 ?_)
  refine (rn_step (e := (.iaload, 54, 0, 0, 0, 0, 0, [])) rfl).mpr (And.intro (Or.inl (rn_w467 (M := M) hM).1) (And.intro ((And.intro (hr1.2.2.1) (rn_lt (rn_w467 (M := M) hM).2 hr1.2.2.2.1))) (?_)))
  refine (rn_step (e := (.aload_n 0, 55, 0, 0, 0, 0, 0, [])) rfl).mpr ?_
  refine (rn_step (e := (.getfield 7, 58, 10, 0, 902, 2, 11, [])) rfl).mpr (And.intro ((rn_ks466 (M := M) hM)) (rn_cg (rn_g466_0 (M := M) hM) ?_))
  refine (rn_step (e := (.iload_n 2, 59, 2, 0, 0, 0, 0, [])) rfl).mpr ?_
  refine (rn_step (e := (.iconst 3, 60, 0, 0, 0, 0, 0, [])) rfl).mpr ?_
  refine (rn_step (e := (.iadd, 61, 0, 0, 0, 0, 0, [])) rfl).mpr (rn_cw hr1.2.2.2.2.1 hr1.2.2.2.2.2.1 ?_)
  refine (rn_step (e := (.iaload, 62, 0, 0, 0, 0, 0, [])) rfl).mpr (And.intro (Or.inl (rn_w467 (M := M) hM).1) (And.intro ((And.intro (hr1.2.2.2.2.2.2.1) (rn_lt (rn_w467 (M := M) hM).2 hr1.2.2.2.2.2.2.2.1))) (?_)))
  refine (rn_step (e := (.iadd, 63, 0, 0, 0, 0, 0, [])) rfl).mpr (rn_cw hr1.2.2.2.2.2.2.2.2.1 hr1.2.2.2.2.2.2.2.2.2 ?_)
  refine (rn_step (e := (.if_icmp .ge 30, 66, 93, 0, 0, 0, 0, [])) rfl).mpr (And.intro (fun c1 => ?_) (fun c1 => ?_))
  ·
    refine (rn_step (e := (.aload_n 0, 67, 0, 0, 0, 0, 0, [])) rfl).mpr ?_
    refine (rn_step (e := (.getfield 25, 70, 10, 7, 909, 2, 11, [])) rfl).mpr (And.intro ((rn_ks466 (M := M) hM)) (rn_cg (rn_g466_7 (M := M) hM) ?_))
    refine (rn_step (e := (.bipush 60, 72, 0, 0, 0, 0, 0, [])) rfl).mpr ?_
    refine (rn_step (e := (.iload 4, 74, 4, 0, 0, 0, 0, [])) rfl).mpr ?_
    refine (rn_step (e := (.imul, 75, 0, 0, 0, 0, 0, [])) rfl).mpr (rn_cw (hr2 c1).1 (hr2 c1).2.1 ?_)
    refine (rn_step (e := (.iload_n 3, 76, 3, 0, 0, 0, 0, [])) rfl).mpr ?_
    refine (rn_step (e := (.iadd, 77, 0, 0, 0, 0, 0, [])) rfl).mpr (rn_cw (hr2 c1).2.2.1 (hr2 c1).2.2.2.1 ?_)
    refine (rn_step (e := (.iaload, 78, 0, 0, 0, 0, 0, [])) rfl).mpr (And.intro (Or.inl (rn_w472 (M := M) hM).1) (And.intro ((And.intro ((hr2 c1).2.2.2.2.1) (rn_lt (rn_w472 (M := M) hM).2 (hr2 c1).2.2.2.2.2))) (?_)))
    refine (rn_step (e := (.aload_n 0, 79, 0, 0, 0, 0, 0, [])) rfl).mpr ?_
    refine (rn_step (e := (.getfield 108, 82, 10, 8, 910, 0, 11, [])) rfl).mpr (And.intro ((rn_ks466 (M := M) hM)) (?_))
    refine (rn_step (e := (.if_icmp .ne 5, 85, 87, 0, 0, 0, 0, [])) rfl).mpr (And.intro (fun c2 => ?_) (fun c2 => ?_))
    ·
      refine (rn_step (e := (.iconst 1, 86, 0, 0, 0, 0, 0, [])) rfl).mpr ?_
      exact (rn_step (e := (.ireturn, 87, 0, 0, 0, 1, 0, [])) rfl).mpr (And.intro ((Or.inr rfl)) ((k1 c1 c2)))
    ·
      refine (rn_step (e := (.iinc 4 1, 90, 4, 0, 0, 0, 0, [])) rfl).mpr (rn_ci (hr3 c1 c2).1 (hr3 c1 c2).2 ?_)
      refine (rn_step (e := (.goto (-46), 93, 44, 0, 0, 0, 0, [])) rfl).mpr ?_
      exact (k2 c1 c2)
  ·
    refine (rn_step (e := (.iinc 3 1, 96, 3, 0, 0, 0, 0, [])) rfl).mpr (rn_ci (hr4 c1).1 (hr4 c1).2 ?_)
    refine (rn_step (e := (.goto (-81), 99, 15, 0, 0, 0, 0, [])) rfl).mpr ?_
    exact (k3 c1)
theorem re_Mo_why {M : rn_M} {Q : rn_Q} {v0 v1 v2 v3 v4 : rn_V} (h : rn_WP 158 0 [v0, v1, v2, v3, v4, rn_J, rn_J, rn_J, rn_J] [] M Q) : rn_ME 158 [v0, v1, v2, v3, v4] M Q := h
set_option maxRecDepth 4000 in
theorem rb_Mo_why_0 {M : rn_M} {Q : rn_Q} {xl1 : Int} {xl2 : Int} {vl3 : rn_V} {vl4 : rn_V} {vl5 : rn_V} {vl6 : rn_V} {vl7 : rn_V} {vl8 : rn_V} (hM : rn_sh M)   (hr1 : ((0 : Int) ≤ xl1 ∧ (xl1 : Int) ≤ 5) ∧ ((0 : Int) ≤ 0 ∧ (0 : Int) ≤ 77) ∧ ((-1000 : Int) ≤ xl2 + rn_o (rn_gi M 467) xl1 0 ∧ (xl2 + rn_o (rn_gi M 467) xl1 0 : Int) ≤ 1000) ∧ (-1000 ≤ rn_o (rn_gi M 467) xl1 5 ∧ rn_o (rn_gi M 467) xl1 5 ≤ 1000)) (k1 : (¬ (xl2 + rn_o (rn_gi M 467) xl1 0 ≤ rn_o (rn_gi M 467) xl1 5 + 1)) → Q (some (rn_I 1)) M) (k2 : (xl2 + rn_o (rn_gi M 467) xl1 0 ≤ rn_o (rn_gi M 467) xl1 5 + 1) → rn_WP 158 24 [rn_R 466, rn_I xl1, rn_I xl2, vl3, vl4, rn_I (rn_o (rn_gi M 467) xl1 0), rn_I 0, vl7, vl8] [] M Q) : rn_WP 158 0 [rn_R 466, rn_I xl1, rn_I xl2, vl3, vl4, vl5, vl6, vl7, vl8] [] M Q := by
  refine (rn_step (e := (.aload_n 0, 1, 0, 0, 0, 0, 0, [])) rfl).mpr ?_
  refine (rn_step (e := (.iload_n 1, 2, 1, 0, 0, 0, 0, [])) rfl).mpr ?_
  refine (rn_step (e := (.iconst 0, 3, 0, 0, 0, 0, 0, [])) rfl).mpr ?_
  refine (rn_step (e := (.invokevirtual 49, 6, 129, 3, 1002, 0, 11, [0])) rfl).mpr (And.intro ((rn_ks466 (M := M) hM)) ((rc_Mo_of hM (hr1.1) (hr1.2.1) ?_)))
  refine (rn_step (e := (.istore 5, 8, 5, 0, 0, 0, 0, [])) rfl).mpr ?_
  refine (rn_step (e := (.aload_n 0, 9, 0, 0, 0, 0, 0, [])) rfl).mpr ?_
  refine (rn_step (e := (.iload_n 1, 10, 1, 0, 0, 0, 0, [])) rfl).mpr ?_
  refine (rn_step (e := (.iload_n 2, 11, 2, 0, 0, 0, 0, [])) rfl).mpr ?_
  refine (rn_step (e := (.iload 5, 13, 5, 0, 0, 0, 0, [])) rfl).mpr ?_
  refine (rn_step (e := (.invokevirtual 114, 16, 151, 4, 1051, 0, 11, [0])) rfl).mpr (And.intro ((rn_ks466 (M := M) hM)) ((rc_Mo_hasPlaces hM (hr1.1) (hr1.2.2.1) (hr1.2.2.2) ?_)))
  refine (rn_step (e := (.ifCond .ne 5, 19, 21, 0, 0, 0, 0, [])) rfl).mpr (And.intro (fun q => ?_) (fun q => ?_))
  · have c1 := rn_b0 q
    refine (rn_step (e := (.iconst 1, 20, 0, 0, 0, 0, 0, [])) rfl).mpr ?_
    exact (rn_step (e := (.ireturn, 21, 0, 0, 0, 0, 0, [])) rfl).mpr (And.intro (trivial) ((k1 c1)))
  · have c1 := rn_b1 q
    refine (rn_step (e := (.iconst 0, 22, 0, 0, 0, 0, 0, [])) rfl).mpr ?_
    refine (rn_step (e := (.istore 6, 24, 6, 0, 0, 0, 0, [])) rfl).mpr ?_
    exact (k2 c1)
set_option maxRecDepth 4000 in
theorem rb_Mo_why_24 {M : rn_M} {Q : rn_Q} {xl1 : Int} {xl2 : Int} {vl3 : rn_V} {xl4 : Int} {xl5 : Int} {xl6 : Int} {vl7 : rn_V} {vl8 : rn_V} (hM : rn_sh M)   (hr1 : (xl6 < rn_gi M 467 2) → (-2147483648 : Int) ≤ 2 * xl6 ∧ 2 * xl6 ≤ 2147483647 ∧ (-2147483648 : Int) ≤ 522 + (2 * xl6) ∧ 522 + (2 * xl6) ≤ 2147483647 ∧ (-2147483648 : Int) ≤ (522 + (2 * xl6)) + 1 ∧ (522 + (2 * xl6)) + 1 ≤ 2147483647 ∧ (0 : Int) ≤ (522 + (2 * xl6)) + 1 ∧ (522 + (2 * xl6)) + 1 < (562 : Int) ∧ (-2147483648 : Int) ≤ xl2 - (rn_gi M 467 ((522 + (2 * xl6)) + 1).toNat) ∧ xl2 - (rn_gi M 467 ((522 + (2 * xl6)) + 1).toNat) ≤ 2147483647) (hr2 : (xl6 < rn_gi M 467 2) → (xl6 = xl4) → (-2147483648 : Int) ≤ xl6 + 1 ∧ xl6 + 1 ≤ 2147483647) (hr3 : (xl6 < rn_gi M 467 2) → (¬ (xl6 = xl4)) → (-2147483648 : Int) ≤ 2 * xl6 ∧ 2 * xl6 ≤ 2147483647 ∧ (-2147483648 : Int) ≤ 522 + (2 * xl6) ∧ 522 + (2 * xl6) ≤ 2147483647 ∧ (0 : Int) ≤ 522 + (2 * xl6) ∧ 522 + (2 * xl6) < (562 : Int)) (hr4 : (xl6 < rn_gi M 467 2) → (¬ (xl6 = xl4)) → (rn_gi M 467 (522 + (2 * xl6)).toNat = xl1) → (0 ≤ xl2 - (rn_gi M 467 ((522 + (2 * xl6)) + 1).toNat)) → (-2147483648 : Int) ≤ xl5 + (rn_gi M 467 3) ∧ xl5 + (rn_gi M 467 3) ≤ 2147483647) (hr5 : (xl6 < rn_gi M 467 2) → (¬ (xl6 = xl4)) → (rn_gi M 467 (522 + (2 * xl6)).toNat = xl1) → (0 ≤ xl2 - (rn_gi M 467 ((522 + (2 * xl6)) + 1).toNat)) → (¬ (xl2 - (rn_gi M 467 ((522 + (2 * xl6)) + 1).toNat) < xl5 + (rn_gi M 467 3))) → (-2147483648 : Int) ≤ xl6 + 1 ∧ xl6 + 1 ≤ 2147483647) (hr6 : (xl6 < rn_gi M 467 2) → (¬ (xl6 = xl4)) → (rn_gi M 467 (522 + (2 * xl6)).toNat = xl1) → (¬ (0 ≤ xl2 - (rn_gi M 467 ((522 + (2 * xl6)) + 1).toNat))) → (-2147483648 : Int) ≤ -(xl2 - (rn_gi M 467 ((522 + (2 * xl6)) + 1).toNat)) ∧ -(xl2 - (rn_gi M 467 ((522 + (2 * xl6)) + 1).toNat)) ≤ 2147483647 ∧ (-2147483648 : Int) ≤ xl5 + (rn_gi M 467 3) ∧ xl5 + (rn_gi M 467 3) ≤ 2147483647) (hr7 : (xl6 < rn_gi M 467 2) → (¬ (xl6 = xl4)) → (rn_gi M 467 (522 + (2 * xl6)).toNat = xl1) → (¬ (0 ≤ xl2 - (rn_gi M 467 ((522 + (2 * xl6)) + 1).toNat))) → (¬ (-(xl2 - (rn_gi M 467 ((522 + (2 * xl6)) + 1).toNat)) < xl5 + (rn_gi M 467 3))) → (-2147483648 : Int) ≤ xl6 + 1 ∧ xl6 + 1 ≤ 2147483647) (hr8 : (xl6 < rn_gi M 467 2) → (¬ (xl6 = xl4)) → (¬ (rn_gi M 467 (522 + (2 * xl6)).toNat = xl1)) → (-2147483648 : Int) ≤ xl6 + 1 ∧ xl6 + 1 ≤ 2147483647) (k1 : (xl6 < rn_gi M 467 2) → (xl6 = xl4) → rn_WP 158 24 [rn_R 466, rn_I xl1, rn_I xl2, vl3, rn_I xl4, rn_I xl5, rn_I (xl6 + 1), rn_I (xl2 - (rn_gi M 467 ((522 + (2 * xl6)) + 1).toNat)), vl8] [] M Q) (k2 : (xl6 < rn_gi M 467 2) → (¬ (xl6 = xl4)) → (rn_gi M 467 (522 + (2 * xl6)).toNat = xl1) → (0 ≤ xl2 - (rn_gi M 467 ((522 + (2 * xl6)) + 1).toNat)) → (xl2 - (rn_gi M 467 ((522 + (2 * xl6)) + 1).toNat) < xl5 + (rn_gi M 467 3)) → Q (some (rn_I 2)) M) (k3 : (xl6 < rn_gi M 467 2) → (¬ (xl6 = xl4)) → (rn_gi M 467 (522 + (2 * xl6)).toNat = xl1) → (0 ≤ xl2 - (rn_gi M 467 ((522 + (2 * xl6)) + 1).toNat)) → (¬ (xl2 - (rn_gi M 467 ((522 + (2 * xl6)) + 1).toNat) < xl5 + (rn_gi M 467 3))) → rn_WP 158 24 [rn_R 466, rn_I xl1, rn_I xl2, vl3, rn_I xl4, rn_I xl5, rn_I (xl6 + 1), rn_I (xl2 - (rn_gi M 467 ((522 + (2 * xl6)) + 1).toNat)), vl8] [] M Q) (k4 : (xl6 < rn_gi M 467 2) → (¬ (xl6 = xl4)) → (rn_gi M 467 (522 + (2 * xl6)).toNat = xl1) → (¬ (0 ≤ xl2 - (rn_gi M 467 ((522 + (2 * xl6)) + 1).toNat))) → (-(xl2 - (rn_gi M 467 ((522 + (2 * xl6)) + 1).toNat)) < xl5 + (rn_gi M 467 3)) → Q (some (rn_I 2)) M) (k5 : (xl6 < rn_gi M 467 2) → (¬ (xl6 = xl4)) → (rn_gi M 467 (522 + (2 * xl6)).toNat = xl1) → (¬ (0 ≤ xl2 - (rn_gi M 467 ((522 + (2 * xl6)) + 1).toNat))) → (¬ (-(xl2 - (rn_gi M 467 ((522 + (2 * xl6)) + 1).toNat)) < xl5 + (rn_gi M 467 3))) → rn_WP 158 24 [rn_R 466, rn_I xl1, rn_I xl2, vl3, rn_I xl4, rn_I xl5, rn_I (xl6 + 1), rn_I (xl2 - (rn_gi M 467 ((522 + (2 * xl6)) + 1).toNat)), vl8] [] M Q) (k6 : (xl6 < rn_gi M 467 2) → (¬ (xl6 = xl4)) → (¬ (rn_gi M 467 (522 + (2 * xl6)).toNat = xl1)) → rn_WP 158 24 [rn_R 466, rn_I xl1, rn_I xl2, vl3, rn_I xl4, rn_I xl5, rn_I (xl6 + 1), rn_I (xl2 - (rn_gi M 467 ((522 + (2 * xl6)) + 1).toNat)), vl8] [] M Q) (k7 : (¬ (xl6 < rn_gi M 467 2)) → rn_ME 154 [rn_R 466, rn_I xl1, rn_I xl2] M (fun r M1 => rn_WP 158 117 [rn_R 466, rn_I xl1, rn_I xl2, vl3, rn_I xl4, rn_I xl5, rn_I xl6, vl7, vl8] (r.toList ++ []) M1 Q)) : rn_WP 158 24 [rn_R 466, rn_I xl1, rn_I xl2, vl3, rn_I xl4, rn_I xl5, rn_I xl6, vl7, vl8] [] M Q := by
  refine (rn_step (e := (.iload 6, 26, 6, 0, 0, 0, 0, [])) rfl).mpr ?_
  refine (rn_step (e := (.aload_n 0, 27, 0, 0, 0, 0, 0, [])) rfl).mpr ?_
  refine (rn_step (e := (.getfield 7, 30, 10, 0, 902, 2, 11, [])) rfl).mpr (And.intro ((rn_ks466 (M := M) hM)) (rn_cg (rn_g466_0 (M := M) hM) ?_))
  refine (rn_step (e := (.iconst 2, 31, 0, 0, 0, 0, 0, [])) rfl).mpr ?_
  refine (rn_step (e := (.iaload, 32, 0, 0, 0, 0, 0, [])) rfl).mpr (And.intro (Or.inl (rn_w467 (M := M) hM).1) (And.intro ((And.intro ((by decide)) (rn_lt (rn_w467 (M := M) hM).2 (by decide)))) (?_)))
  refine (rn_step (e := (.if_icmp .ge 79, 35, 111, 0, 0, 0, 0, [])) rfl).mpr (And.intro (fun c1 => ?_) (fun c1 => ?_))
  ·
    refine (rn_step (e := (.iload_n 2, 36, 2, 0, 0, 0, 0, [])) rfl).mpr ?_
    refine (rn_step (e := (.aload_n 0, 37, 0, 0, 0, 0, 0, [])) rfl).mpr ?_
    refine (rn_step (e := (.getfield 7, 40, 10, 0, 902, 2, 11, [])) rfl).mpr (And.intro ((rn_ks466 (M := M) hM)) (rn_cg (rn_g466_0 (M := M) hM) ?_))
    refine (rn_step (e := (.sipush 522, 43, 0, 0, 0, 0, 0, [])) rfl).mpr ?_
    refine (rn_step (e := (.iconst 2, 44, 0, 0, 0, 0, 0, [])) rfl).mpr ?_
    refine (rn_step (e := (.iload 6, 46, 6, 0, 0, 0, 0, [])) rfl).mpr ?_
    refine (rn_step (e := (.imul, 47, 0, 0, 0, 0, 0, [])) rfl).mpr (rn_cw (hr1 c1).1 (hr1 c1).2.1 ?_)
    refine (rn_step (e := (.iadd, 48, 0, 0, 0, 0, 0, [])) rfl).mpr (rn_cw (hr1 c1).2.2.1 (hr1 c1).2.2.2.1 ?_)
    refine (rn_step (e := (.iconst 1, 49, 0, 0, 0, 0, 0, [])) rfl).mpr ?_
    refine (rn_step (e := (.iadd, 50, 0, 0, 0, 0, 0, [])) rfl).mpr (rn_cw (hr1 c1).2.2.2.2.1 (hr1 c1).2.2.2.2.2.1 ?_)
    refine (rn_step (e := (.iaload, 51, 0, 0, 0, 0, 0, [])) rfl).mpr (And.intro (Or.inl (rn_w467 (M := M) hM).1) (And.intro ((And.intro ((hr1 c1).2.2.2.2.2.2.1) (rn_lt (rn_w467 (M := M) hM).2 (hr1 c1).2.2.2.2.2.2.2.1))) (?_)))
    refine (rn_step (e := (.isub, 52, 0, 0, 0, 0, 0, [])) rfl).mpr (rn_cw (hr1 c1).2.2.2.2.2.2.2.2.1 (hr1 c1).2.2.2.2.2.2.2.2.2 ?_)
    refine (rn_step (e := (.istore 7, 54, 7, 0, 0, 0, 0, [])) rfl).mpr ?_
    refine (rn_step (e := (.iload 6, 56, 6, 0, 0, 0, 0, [])) rfl).mpr ?_
    refine (rn_step (e := (.iload 4, 58, 4, 0, 0, 0, 0, [])) rfl).mpr ?_
    refine (rn_step (e := (.if_icmp .eq 47, 61, 105, 0, 0, 0, 0, [])) rfl).mpr (And.intro (fun c2 => ?_) (fun c2 => ?_))
    ·
      refine (rn_step (e := (.iinc 6 1, 108, 6, 0, 0, 0, 0, [])) rfl).mpr (rn_ci (hr2 c1 c2).1 (hr2 c1 c2).2 ?_)
      refine (rn_step (e := (.goto (-84), 111, 24, 0, 0, 0, 0, [])) rfl).mpr ?_
      exact (k1 c1 c2)
    ·
      refine (rn_step (e := (.aload_n 0, 62, 0, 0, 0, 0, 0, [])) rfl).mpr ?_
      refine (rn_step (e := (.getfield 7, 65, 10, 0, 902, 2, 11, [])) rfl).mpr (And.intro ((rn_ks466 (M := M) hM)) (rn_cg (rn_g466_0 (M := M) hM) ?_))
      refine (rn_step (e := (.sipush 522, 68, 0, 0, 0, 0, 0, [])) rfl).mpr ?_
      refine (rn_step (e := (.iconst 2, 69, 0, 0, 0, 0, 0, [])) rfl).mpr ?_
      refine (rn_step (e := (.iload 6, 71, 6, 0, 0, 0, 0, [])) rfl).mpr ?_
      refine (rn_step (e := (.imul, 72, 0, 0, 0, 0, 0, [])) rfl).mpr (rn_cw (hr3 c1 c2).1 (hr3 c1 c2).2.1 ?_)
      refine (rn_step (e := (.iadd, 73, 0, 0, 0, 0, 0, [])) rfl).mpr (rn_cw (hr3 c1 c2).2.2.1 (hr3 c1 c2).2.2.2.1 ?_)
      refine (rn_step (e := (.iaload, 74, 0, 0, 0, 0, 0, [])) rfl).mpr (And.intro (Or.inl (rn_w467 (M := M) hM).1) (And.intro ((And.intro ((hr3 c1 c2).2.2.2.2.1) (rn_lt (rn_w467 (M := M) hM).2 (hr3 c1 c2).2.2.2.2.2))) (?_)))
      refine (rn_step (e := (.iload_n 1, 75, 1, 0, 0, 0, 0, [])) rfl).mpr ?_
      refine (rn_step (e := (.if_icmp .ne 30, 78, 105, 0, 0, 0, 0, [])) rfl).mpr (And.intro (fun c3 => ?_) (fun c3 => ?_))
      ·
        refine (rn_step (e := (.iload 7, 80, 7, 0, 0, 0, 0, [])) rfl).mpr ?_
        refine (rn_step (e := (.ifCond .ge 9, 83, 89, 0, 0, 0, 0, [])) rfl).mpr (And.intro (fun c4 => ?_) (fun c4 => ?_))
        ·
          refine (rn_step (e := (.iload 7, 91, 7, 0, 0, 0, 0, [])) rfl).mpr ?_
          refine (rn_step (e := (.iload 5, 93, 5, 0, 0, 0, 0, [])) rfl).mpr ?_
          refine (rn_step (e := (.aload_n 0, 94, 0, 0, 0, 0, 0, [])) rfl).mpr ?_
          refine (rn_step (e := (.getfield 7, 97, 10, 0, 902, 2, 11, [])) rfl).mpr (And.intro ((rn_ks466 (M := M) hM)) (rn_cg (rn_g466_0 (M := M) hM) ?_))
          refine (rn_step (e := (.iconst 3, 98, 0, 0, 0, 0, 0, [])) rfl).mpr ?_
          refine (rn_step (e := (.iaload, 99, 0, 0, 0, 0, 0, [])) rfl).mpr (And.intro (Or.inl (rn_w467 (M := M) hM).1) (And.intro ((And.intro ((by decide)) (rn_lt (rn_w467 (M := M) hM).2 (by decide)))) (?_)))
          refine (rn_step (e := (.iadd, 100, 0, 0, 0, 0, 0, [])) rfl).mpr (rn_cw (hr4 c1 c2 c3 c4).1 (hr4 c1 c2 c3 c4).2 ?_)
          refine (rn_step (e := (.if_icmp .ge 5, 103, 105, 0, 0, 0, 0, [])) rfl).mpr (And.intro (fun c5 => ?_) (fun c5 => ?_))
          ·
            refine (rn_step (e := (.iconst 2, 104, 0, 0, 0, 0, 0, [])) rfl).mpr ?_
            exact (rn_step (e := (.ireturn, 105, 0, 0, 0, 0, 0, [])) rfl).mpr (And.intro (trivial) ((k2 c1 c2 c3 c4 c5)))
          ·
            refine (rn_step (e := (.iinc 6 1, 108, 6, 0, 0, 0, 0, [])) rfl).mpr (rn_ci (hr5 c1 c2 c3 c4 c5).1 (hr5 c1 c2 c3 c4 c5).2 ?_)
            refine (rn_step (e := (.goto (-84), 111, 24, 0, 0, 0, 0, [])) rfl).mpr ?_
            exact (k3 c1 c2 c3 c4 c5)
        ·
          refine (rn_step (e := (.iload 7, 85, 7, 0, 0, 0, 0, [])) rfl).mpr ?_
          refine (rn_step (e := (.ineg, 86, 0, 0, 0, 0, 0, [])) rfl).mpr (rn_cw (hr6 c1 c2 c3 c4).1 (hr6 c1 c2 c3 c4).2.1 ?_)
          refine (rn_step (e := (.goto 5, 89, 91, 0, 0, 0, 0, [])) rfl).mpr ?_
          refine (rn_step (e := (.iload 5, 93, 5, 0, 0, 0, 0, [])) rfl).mpr ?_
          refine (rn_step (e := (.aload_n 0, 94, 0, 0, 0, 0, 0, [])) rfl).mpr ?_
          refine (rn_step (e := (.getfield 7, 97, 10, 0, 902, 2, 11, [])) rfl).mpr (And.intro ((rn_ks466 (M := M) hM)) (rn_cg (rn_g466_0 (M := M) hM) ?_))
          refine (rn_step (e := (.iconst 3, 98, 0, 0, 0, 0, 0, [])) rfl).mpr ?_
          refine (rn_step (e := (.iaload, 99, 0, 0, 0, 0, 0, [])) rfl).mpr (And.intro (Or.inl (rn_w467 (M := M) hM).1) (And.intro ((And.intro ((by decide)) (rn_lt (rn_w467 (M := M) hM).2 (by decide)))) (?_)))
          refine (rn_step (e := (.iadd, 100, 0, 0, 0, 0, 0, [])) rfl).mpr (rn_cw (hr6 c1 c2 c3 c4).2.2.1 (hr6 c1 c2 c3 c4).2.2.2 ?_)
          refine (rn_step (e := (.if_icmp .ge 5, 103, 105, 0, 0, 0, 0, [])) rfl).mpr (And.intro (fun c5 => ?_) (fun c5 => ?_))
          ·
            refine (rn_step (e := (.iconst 2, 104, 0, 0, 0, 0, 0, [])) rfl).mpr ?_
            exact (rn_step (e := (.ireturn, 105, 0, 0, 0, 0, 0, [])) rfl).mpr (And.intro (trivial) ((k4 c1 c2 c3 c4 c5)))
          ·
            refine (rn_step (e := (.iinc 6 1, 108, 6, 0, 0, 0, 0, [])) rfl).mpr (rn_ci (hr7 c1 c2 c3 c4 c5).1 (hr7 c1 c2 c3 c4 c5).2 ?_)
            refine (rn_step (e := (.goto (-84), 111, 24, 0, 0, 0, 0, [])) rfl).mpr ?_
            exact (k5 c1 c2 c3 c4 c5)
      ·
        refine (rn_step (e := (.iinc 6 1, 108, 6, 0, 0, 0, 0, [])) rfl).mpr (rn_ci (hr8 c1 c2 c3).1 (hr8 c1 c2 c3).2 ?_)
        refine (rn_step (e := (.goto (-84), 111, 24, 0, 0, 0, 0, [])) rfl).mpr ?_
        exact (k6 c1 c2 c3)
  ·
    refine (rn_step (e := (.aload_n 0, 112, 0, 0, 0, 0, 0, [])) rfl).mpr ?_
    refine (rn_step (e := (.iload_n 1, 113, 1, 0, 0, 0, 0, [])) rfl).mpr ?_
    refine (rn_step (e := (.iload_n 2, 114, 2, 0, 0, 0, 0, [])) rfl).mpr ?_
    exact (rn_step (e := (.invokevirtual 117, 117, 154, 3, 1055, 0, 11, [0])) rfl).mpr (And.intro ((rn_ks466 (M := M) hM)) ((k7 c1)))
set_option maxRecDepth 4000 in
theorem rb_Mo_why_117 {M : rn_M} {Q : rn_Q} {vl0 : rn_V} {vl1 : rn_V} {vl2 : rn_V} {vl3 : rn_V} {vl4 : rn_V} {vl5 : rn_V} {vl6 : rn_V} {vl7 : rn_V} {vl8 : rn_V} {xs0 : Int}   (k1 : rn_WP 158 122 [vl0, vl1, vl2, vl3, vl4, vl5, rn_I xs0, rn_I 0, vl8] [] M Q) : rn_WP 158 117 [vl0, vl1, vl2, vl3, vl4, vl5, vl6, vl7, vl8] [rn_I xs0] M Q := by
  refine (rn_step (e := (.istore 6, 119, 6, 0, 0, 0, 0, [])) rfl).mpr ?_
  refine (rn_step (e := (.iconst 0, 120, 0, 0, 0, 0, 0, [])) rfl).mpr ?_
  refine (rn_step (e := (.istore 7, 122, 7, 0, 0, 0, 0, [])) rfl).mpr ?_
  exact k1
set_option maxRecDepth 4000 in
theorem rb_Mo_why_122 {M : rn_M} {Q : rn_Q} {vl1 : rn_V} {vl2 : rn_V} {xl3 : Int} {vl4 : rn_V} {vl5 : rn_V} {vl6 : rn_V} {xl7 : Int} {vl8 : rn_V} (hM : rn_sh M)   (hr1 : (xl7 < rn_gi M 467 1) → (-2147483648 : Int) ≤ 5 * xl7 ∧ 5 * xl7 ≤ 2147483647 ∧ (-2147483648 : Int) ≤ 472 + (5 * xl7) ∧ 472 + (5 * xl7) ≤ 2147483647 ∧ (-2147483648 : Int) ≤ (472 + (5 * xl7)) + 4 ∧ (472 + (5 * xl7)) + 4 ≤ 2147483647 ∧ (0 : Int) ≤ (472 + (5 * xl7)) + 4 ∧ (472 + (5 * xl7)) + 4 < (562 : Int)) (hr2 : (xl7 < rn_gi M 467 1) → (rn_gi M 467 ((472 + (5 * xl7)) + 4).toNat < xl3) → (-2147483648 : Int) ≤ xl7 + 1 ∧ xl7 + 1 ≤ 2147483647) (k1 : (xl7 < rn_gi M 467 1) → (rn_gi M 467 ((472 + (5 * xl7)) + 4).toNat < xl3) → rn_WP 158 122 [rn_R 466, vl1, vl2, rn_I xl3, vl4, vl5, vl6, rn_I (xl7 + 1), vl8] [] M Q) (k2 : (xl7 < rn_gi M 467 1) → (¬ (rn_gi M 467 ((472 + (5 * xl7)) + 4).toNat < xl3)) → rn_ME 157 [rn_R 466, rn_I xl7] M (fun r M1 => rn_WP 158 158 [rn_R 466, vl1, vl2, rn_I xl3, vl4, vl5, vl6, rn_I xl7, vl8] (r.toList ++ []) M1 Q)) (k3 : (¬ (xl7 < rn_gi M 467 1)) → rn_WP 158 172 [rn_R 466, vl1, vl2, rn_I xl3, vl4, vl5, vl6, rn_I 0, vl8] [] M Q) : rn_WP 158 122 [rn_R 466, vl1, vl2, rn_I xl3, vl4, vl5, vl6, rn_I xl7, vl8] [] M Q := by
  refine (rn_step (e := (.iload 7, 124, 7, 0, 0, 0, 0, [])) rfl).mpr ?_
  refine (rn_step (e := (.aload_n 0, 125, 0, 0, 0, 0, 0, [])) rfl).mpr ?_
  refine (rn_step (e := (.getfield 7, 128, 10, 0, 902, 2, 11, [])) rfl).mpr (And.intro ((rn_ks466 (M := M) hM)) (rn_cg (rn_g466_0 (M := M) hM) ?_))
  refine (rn_step (e := (.iconst 1, 129, 0, 0, 0, 0, 0, [])) rfl).mpr ?_
  refine (rn_step (e := (.iaload, 130, 0, 0, 0, 0, 0, [])) rfl).mpr (And.intro (Or.inl (rn_w467 (M := M) hM).1) (And.intro ((And.intro ((by decide)) (rn_lt (rn_w467 (M := M) hM).2 (by decide)))) (?_)))
  refine (rn_step (e := (.if_icmp .ge 39, 133, 169, 0, 0, 0, 0, [])) rfl).mpr (And.intro (fun c1 => ?_) (fun c1 => ?_))
  ·
    refine (rn_step (e := (.aload_n 0, 134, 0, 0, 0, 0, 0, [])) rfl).mpr ?_
    refine (rn_step (e := (.getfield 7, 137, 10, 0, 902, 2, 11, [])) rfl).mpr (And.intro ((rn_ks466 (M := M) hM)) (rn_cg (rn_g466_0 (M := M) hM) ?_))
    refine (rn_step (e := (.sipush 472, 140, 0, 0, 0, 0, 0, [])) rfl).mpr ?_
    refine (rn_step (e := (.iconst 5, 141, 0, 0, 0, 0, 0, [])) rfl).mpr ?_
    refine (rn_step (e := (.iload 7, 143, 7, 0, 0, 0, 0, [])) rfl).mpr ?_
    refine (rn_step (e := (.imul, 144, 0, 0, 0, 0, 0, [])) rfl).mpr (rn_cw (hr1 c1).1 (hr1 c1).2.1 ?_)
    refine (rn_step (e := (.iadd, 145, 0, 0, 0, 0, 0, [])) rfl).mpr (rn_cw (hr1 c1).2.2.1 (hr1 c1).2.2.2.1 ?_)
    refine (rn_step (e := (.iconst 4, 146, 0, 0, 0, 0, 0, [])) rfl).mpr ?_
    refine (rn_step (e := (.iadd, 147, 0, 0, 0, 0, 0, [])) rfl).mpr (rn_cw (hr1 c1).2.2.2.2.1 (hr1 c1).2.2.2.2.2.1 ?_)
    refine (rn_step (e := (.iaload, 148, 0, 0, 0, 0, 0, [])) rfl).mpr (And.intro (Or.inl (rn_w467 (M := M) hM).1) (And.intro ((And.intro ((hr1 c1).2.2.2.2.2.2.1) (rn_lt (rn_w467 (M := M) hM).2 (hr1 c1).2.2.2.2.2.2.2))) (?_)))
    refine (rn_step (e := (.iload_n 3, 149, 3, 0, 0, 0, 0, [])) rfl).mpr ?_
    refine (rn_step (e := (.if_icmp .lt 14, 152, 163, 0, 0, 0, 0, [])) rfl).mpr (And.intro (fun c2 => ?_) (fun c2 => ?_))
    ·
      refine (rn_step (e := (.iinc 7 1, 166, 7, 0, 0, 0, 0, [])) rfl).mpr (rn_ci (hr2 c1 c2).1 (hr2 c1 c2).2 ?_)
      refine (rn_step (e := (.goto (-44), 169, 122, 0, 0, 0, 0, [])) rfl).mpr ?_
      exact (k1 c1 c2)
    ·
      refine (rn_step (e := (.aload_n 0, 153, 0, 0, 0, 0, 0, [])) rfl).mpr ?_
      refine (rn_step (e := (.iload 7, 155, 7, 0, 0, 0, 0, [])) rfl).mpr ?_
      exact (rn_step (e := (.invokevirtual 120, 158, 157, 2, 1063, 0, 11, [0])) rfl).mpr (And.intro ((rn_ks466 (M := M) hM)) ((k2 c1 c2)))
  ·
    refine (rn_step (e := (.iconst 0, 170, 0, 0, 0, 0, 0, [])) rfl).mpr ?_
    refine (rn_step (e := (.istore 7, 172, 7, 0, 0, 0, 0, [])) rfl).mpr ?_
    exact (k3 c1)
set_option maxRecDepth 4000 in
theorem rb_Mo_why_158 {M : rn_M} {Q : rn_Q} {vl0 : rn_V} {vl1 : rn_V} {vl2 : rn_V} {vl3 : rn_V} {vl4 : rn_V} {vl5 : rn_V} {vl6 : rn_V} {xl7 : Int} {vl8 : rn_V} {xs0 : Int}   (hr1 : (xs0 = 0) → (-2147483648 : Int) ≤ xl7 + 1 ∧ xl7 + 1 ≤ 2147483647) (k1 : (xs0 = 0) → rn_WP 158 122 [vl0, vl1, vl2, vl3, vl4, vl5, vl6, rn_I (xl7 + 1), vl8] [] M Q) (k2 : (¬ (xs0 = 0)) → Q (some (rn_I 3)) M) : rn_WP 158 158 [vl0, vl1, vl2, vl3, vl4, vl5, vl6, rn_I xl7, vl8] [rn_I xs0] M Q := by
  refine (rn_step (e := (.ifCond .eq 5, 161, 163, 0, 0, 0, 0, [])) rfl).mpr (And.intro (fun c1 => ?_) (fun c1 => ?_))
  ·
    refine (rn_step (e := (.iinc 7 1, 166, 7, 0, 0, 0, 0, [])) rfl).mpr (rn_ci (hr1 c1).1 (hr1 c1).2 ?_)
    refine (rn_step (e := (.goto (-44), 169, 122, 0, 0, 0, 0, [])) rfl).mpr ?_
    exact (k1 c1)
  ·
    refine (rn_step (e := (.iconst 3, 162, 0, 0, 0, 0, 0, [])) rfl).mpr ?_
    exact (rn_step (e := (.ireturn, 163, 0, 0, 0, 0, 0, [])) rfl).mpr (And.intro (trivial) ((k2 c1)))
set_option maxRecDepth 4000 in
theorem rb_Mo_why_172 {M : rn_M} {Q : rn_Q} {xl1 : Int} {vl2 : rn_V} {xl3 : Int} {xl4 : Int} {vl5 : rn_V} {vl6 : rn_V} {xl7 : Int} {vl8 : rn_V} (hM : rn_sh M)   (hr1 : (xl7 < rn_gi M 467 2) → (-2147483648 : Int) ≤ 2 * xl7 ∧ 2 * xl7 ≤ 2147483647 ∧ (-2147483648 : Int) ≤ 522 + (2 * xl7) ∧ 522 + (2 * xl7) ≤ 2147483647 ∧ (0 : Int) ≤ 522 + (2 * xl7) ∧ 522 + (2 * xl7) < (562 : Int)) (hr2 : (xl7 < rn_gi M 467 2) → (xl7 = xl4) → (-2147483648 : Int) ≤ xl7 + 1 ∧ xl7 + 1 ≤ 2147483647) (hr3 : (xl7 < rn_gi M 467 2) → (¬ (xl7 = xl4)) → (rn_gi M 467 (522 + (2 * xl7)).toNat = xl1) → (-2147483648 : Int) ≤ xl7 + 1 ∧ xl7 + 1 ≤ 2147483647) (hr4 : (xl7 < rn_gi M 467 2) → (¬ (xl7 = xl4)) → (¬ (rn_gi M 467 (522 + (2 * xl7)).toNat = xl1)) → ((0 : Int) ≤ rn_gi M 467 (522 + (2 * xl7)).toNat ∧ (rn_gi M 467 (522 + (2 * xl7)).toNat : Int) ≤ 5) ∧ ((0 : Int) ≤ 1 ∧ (1 : Int) ≤ 77)) (hr5 : (xl7 < rn_gi M 467 2) → (¬ (xl7 = xl4)) → (¬ (rn_gi M 467 (522 + (2 * xl7)).toNat = xl1)) → (rn_o (rn_gi M 467) (rn_gi M 467 (522 + (2 * xl7)).toNat) 1 < xl3) → (-2147483648 : Int) ≤ xl7 + 1 ∧ xl7 + 1 ≤ 2147483647) (k1 : (xl7 < rn_gi M 467 2) → (xl7 = xl4) → rn_WP 158 172 [rn_R 466, rn_I xl1, vl2, rn_I xl3, rn_I xl4, vl5, vl6, rn_I (xl7 + 1), rn_I (rn_gi M 467 (522 + (2 * xl7)).toNat)] [] M Q) (k2 : (xl7 < rn_gi M 467 2) → (¬ (xl7 = xl4)) → (rn_gi M 467 (522 + (2 * xl7)).toNat = xl1) → rn_WP 158 172 [rn_R 466, rn_I xl1, vl2, rn_I xl3, rn_I xl4, vl5, vl6, rn_I (xl7 + 1), rn_I (rn_gi M 467 (522 + (2 * xl7)).toNat)] [] M Q) (k3 : (xl7 < rn_gi M 467 2) → (¬ (xl7 = xl4)) → (¬ (rn_gi M 467 (522 + (2 * xl7)).toNat = xl1)) → (rn_o (rn_gi M 467) (rn_gi M 467 (522 + (2 * xl7)).toNat) 1 < xl3) → rn_WP 158 172 [rn_R 466, rn_I xl1, vl2, rn_I xl3, rn_I xl4, vl5, vl6, rn_I (xl7 + 1), rn_I (rn_gi M 467 (522 + (2 * xl7)).toNat)] [] M Q) (k4 : (xl7 < rn_gi M 467 2) → (¬ (xl7 = xl4)) → (¬ (rn_gi M 467 (522 + (2 * xl7)).toNat = xl1)) → (¬ (rn_o (rn_gi M 467) (rn_gi M 467 (522 + (2 * xl7)).toNat) 1 < xl3)) → rn_ME 156 [rn_R 466, rn_I xl7] M (fun r M1 => rn_WP 158 228 [rn_R 466, rn_I xl1, vl2, rn_I xl3, rn_I xl4, vl5, vl6, rn_I xl7, rn_I (rn_gi M 467 (522 + (2 * xl7)).toNat)] (r.toList ++ []) M1 Q)) (k5 : (¬ (xl7 < rn_gi M 467 2)) → Q (some (rn_I 0)) M) : rn_WP 158 172 [rn_R 466, rn_I xl1, vl2, rn_I xl3, rn_I xl4, vl5, vl6, rn_I xl7, vl8] [] M Q := by
  refine (rn_step (e := (.iload 7, 174, 7, 0, 0, 0, 0, [])) rfl).mpr ?_
  refine (rn_step (e := (.aload_n 0, 175, 0, 0, 0, 0, 0, [])) rfl).mpr ?_
  refine (rn_step (e := (.getfield 7, 178, 10, 0, 902, 2, 11, [])) rfl).mpr (And.intro ((rn_ks466 (M := M) hM)) (rn_cg (rn_g466_0 (M := M) hM) ?_))
  refine (rn_step (e := (.iconst 2, 179, 0, 0, 0, 0, 0, [])) rfl).mpr ?_
  refine (rn_step (e := (.iaload, 180, 0, 0, 0, 0, 0, [])) rfl).mpr (And.intro (Or.inl (rn_w467 (M := M) hM).1) (And.intro ((And.intro ((by decide)) (rn_lt (rn_w467 (M := M) hM).2 (by decide)))) (?_)))
  refine (rn_step (e := (.if_icmp .ge 59, 183, 239, 0, 0, 0, 0, [])) rfl).mpr (And.intro (fun c1 => ?_) (fun c1 => ?_))
  ·
    refine (rn_step (e := (.aload_n 0, 184, 0, 0, 0, 0, 0, [])) rfl).mpr ?_
    refine (rn_step (e := (.getfield 7, 187, 10, 0, 902, 2, 11, [])) rfl).mpr (And.intro ((rn_ks466 (M := M) hM)) (rn_cg (rn_g466_0 (M := M) hM) ?_))
    refine (rn_step (e := (.sipush 522, 190, 0, 0, 0, 0, 0, [])) rfl).mpr ?_
    refine (rn_step (e := (.iconst 2, 191, 0, 0, 0, 0, 0, [])) rfl).mpr ?_
    refine (rn_step (e := (.iload 7, 193, 7, 0, 0, 0, 0, [])) rfl).mpr ?_
    refine (rn_step (e := (.imul, 194, 0, 0, 0, 0, 0, [])) rfl).mpr (rn_cw (hr1 c1).1 (hr1 c1).2.1 ?_)
    refine (rn_step (e := (.iadd, 195, 0, 0, 0, 0, 0, [])) rfl).mpr (rn_cw (hr1 c1).2.2.1 (hr1 c1).2.2.2.1 ?_)
    refine (rn_step (e := (.iaload, 196, 0, 0, 0, 0, 0, [])) rfl).mpr (And.intro (Or.inl (rn_w467 (M := M) hM).1) (And.intro ((And.intro ((hr1 c1).2.2.2.2.1) (rn_lt (rn_w467 (M := M) hM).2 (hr1 c1).2.2.2.2.2))) (?_)))
    refine (rn_step (e := (.istore 8, 198, 8, 0, 0, 0, 0, [])) rfl).mpr ?_
    refine (rn_step (e := (.iload 7, 200, 7, 0, 0, 0, 0, [])) rfl).mpr ?_
    refine (rn_step (e := (.iload 4, 202, 4, 0, 0, 0, 0, [])) rfl).mpr ?_
    refine (rn_step (e := (.if_icmp .eq 31, 205, 233, 0, 0, 0, 0, [])) rfl).mpr (And.intro (fun c2 => ?_) (fun c2 => ?_))
    ·
      refine (rn_step (e := (.iinc 7 1, 236, 7, 0, 0, 0, 0, [])) rfl).mpr (rn_ci (hr2 c1 c2).1 (hr2 c1 c2).2 ?_)
      refine (rn_step (e := (.goto (-64), 239, 172, 0, 0, 0, 0, [])) rfl).mpr ?_
      exact (k1 c1 c2)
    ·
      refine (rn_step (e := (.iload 8, 207, 8, 0, 0, 0, 0, [])) rfl).mpr ?_
      refine (rn_step (e := (.iload_n 1, 208, 1, 0, 0, 0, 0, [])) rfl).mpr ?_
      refine (rn_step (e := (.if_icmp .eq 25, 211, 233, 0, 0, 0, 0, [])) rfl).mpr (And.intro (fun c3 => ?_) (fun c3 => ?_))
      ·
        refine (rn_step (e := (.iinc 7 1, 236, 7, 0, 0, 0, 0, [])) rfl).mpr (rn_ci (hr3 c1 c2 c3).1 (hr3 c1 c2 c3).2 ?_)
        refine (rn_step (e := (.goto (-64), 239, 172, 0, 0, 0, 0, [])) rfl).mpr ?_
        exact (k2 c1 c2 c3)
      ·
        refine (rn_step (e := (.aload_n 0, 212, 0, 0, 0, 0, 0, [])) rfl).mpr ?_
        refine (rn_step (e := (.iload 8, 214, 8, 0, 0, 0, 0, [])) rfl).mpr ?_
        refine (rn_step (e := (.iconst 1, 215, 0, 0, 0, 0, 0, [])) rfl).mpr ?_
        refine (rn_step (e := (.invokevirtual 49, 218, 129, 3, 1002, 0, 11, [0])) rfl).mpr (And.intro ((rn_ks466 (M := M) hM)) ((rc_Mo_of hM ((hr4 c1 c2 c3).1) ((hr4 c1 c2 c3).2) ?_)))
        refine (rn_step (e := (.iload_n 3, 219, 3, 0, 0, 0, 0, [])) rfl).mpr ?_
        refine (rn_step (e := (.if_icmp .lt 14, 222, 233, 0, 0, 0, 0, [])) rfl).mpr (And.intro (fun c4 => ?_) (fun c4 => ?_))
        ·
          refine (rn_step (e := (.iinc 7 1, 236, 7, 0, 0, 0, 0, [])) rfl).mpr (rn_ci (hr5 c1 c2 c3 c4).1 (hr5 c1 c2 c3 c4).2 ?_)
          refine (rn_step (e := (.goto (-64), 239, 172, 0, 0, 0, 0, [])) rfl).mpr ?_
          exact (k3 c1 c2 c3 c4)
        ·
          refine (rn_step (e := (.aload_n 0, 223, 0, 0, 0, 0, 0, [])) rfl).mpr ?_
          refine (rn_step (e := (.iload 7, 225, 7, 0, 0, 0, 0, [])) rfl).mpr ?_
          exact (rn_step (e := (.invokevirtual 123, 228, 156, 2, 1067, 0, 11, [0])) rfl).mpr (And.intro ((rn_ks466 (M := M) hM)) ((k4 c1 c2 c3 c4)))
  ·
    refine (rn_step (e := (.iconst 0, 240, 0, 0, 0, 0, 0, [])) rfl).mpr ?_
    exact (rn_step (e := (.ireturn, 241, 0, 0, 0, 0, 0, [])) rfl).mpr (And.intro (trivial) ((k5 c1)))
set_option maxRecDepth 4000 in
theorem rb_Mo_why_228 {M : rn_M} {Q : rn_Q} {vl0 : rn_V} {vl1 : rn_V} {vl2 : rn_V} {vl3 : rn_V} {vl4 : rn_V} {vl5 : rn_V} {vl6 : rn_V} {xl7 : Int} {vl8 : rn_V} {xs0 : Int}   (hr1 : (xs0 = 0) → (-2147483648 : Int) ≤ xl7 + 1 ∧ xl7 + 1 ≤ 2147483647) (k1 : (xs0 = 0) → rn_WP 158 172 [vl0, vl1, vl2, vl3, vl4, vl5, vl6, rn_I (xl7 + 1), vl8] [] M Q) (k2 : (¬ (xs0 = 0)) → Q (some (rn_I 4)) M) : rn_WP 158 228 [vl0, vl1, vl2, vl3, vl4, vl5, vl6, rn_I xl7, vl8] [rn_I xs0] M Q := by
  refine (rn_step (e := (.ifCond .eq 5, 231, 233, 0, 0, 0, 0, [])) rfl).mpr (And.intro (fun c1 => ?_) (fun c1 => ?_))
  ·
    refine (rn_step (e := (.iinc 7 1, 236, 7, 0, 0, 0, 0, [])) rfl).mpr (rn_ci (hr1 c1).1 (hr1 c1).2 ?_)
    refine (rn_step (e := (.goto (-64), 239, 172, 0, 0, 0, 0, [])) rfl).mpr ?_
    exact (k1 c1)
  ·
    refine (rn_step (e := (.iconst 4, 232, 0, 0, 0, 0, 0, [])) rfl).mpr ?_
    exact (rn_step (e := (.ireturn, 233, 0, 0, 0, 0, 0, [])) rfl).mpr (And.intro (trivial) ((k2 c1)))
theorem re_Mo_whyLabel {M : rn_M} {Q : rn_Q} {v0 v1 : rn_V} (h : rn_WP 159 0 [v0, v1, rn_J] [] M Q) : rn_ME 159 [v0, v1] M Q := h
set_option maxRecDepth 4000 in
theorem rb_Mo_whyLabel_0 {M : rn_M} {Q : rn_Q} {xl1 : Int} {vl2 : rn_V} (hM : rn_sh M)   (hr1 : (-2147483648 : Int) ≤ 2 * xl1 ∧ 2 * xl1 ≤ 2147483647 ∧ (-2147483648 : Int) ≤ 522 + (2 * xl1) ∧ 522 + (2 * xl1) ≤ 2147483647 ∧ (0 : Int) ≤ 522 + (2 * xl1) ∧ 522 + (2 * xl1) < (562 : Int) ∧ (-2147483648 : Int) ≤ (522 + (2 * xl1)) + 1 ∧ (522 + (2 * xl1)) + 1 ≤ 2147483647 ∧ (0 : Int) ≤ (522 + (2 * xl1)) + 1 ∧ (522 + (2 * xl1)) + 1 < (562 : Int) ∧ ((0 : Int) ≤ rn_gi M 467 (522 + (2 * xl1)).toNat ∧ (rn_gi M 467 (522 + (2 * xl1)).toNat : Int) ≤ 5) ∧ ((0 : Int) ≤ 1 ∧ (1 : Int) ≤ 77)) (k1 : rn_ME 158 [rn_R 466, rn_I (rn_gi M 467 (522 + (2 * xl1)).toNat), rn_I (rn_gi M 467 ((522 + (2 * xl1)) + 1).toNat), rn_I (rn_o (rn_gi M 467) (rn_gi M 467 (522 + (2 * xl1)).toNat) 1), rn_I xl1] M (fun r M1 => rn_WP 159 39 [rn_R 466, rn_I xl1, rn_I (rn_gi M 467 (522 + (2 * xl1)).toNat)] (r.toList ++ []) M1 Q)) : rn_WP 159 0 [rn_R 466, rn_I xl1, vl2] [] M Q := by
  refine (rn_step (e := (.aload_n 0, 1, 0, 0, 0, 0, 0, [])) rfl).mpr ?_
  refine (rn_step (e := (.getfield 7, 4, 10, 0, 902, 2, 11, [])) rfl).mpr (And.intro ((rn_ks466 (M := M) hM)) (rn_cg (rn_g466_0 (M := M) hM) ?_))
  refine (rn_step (e := (.sipush 522, 7, 0, 0, 0, 0, 0, [])) rfl).mpr ?_
  refine (rn_step (e := (.iconst 2, 8, 0, 0, 0, 0, 0, [])) rfl).mpr ?_
  refine (rn_step (e := (.iload_n 1, 9, 1, 0, 0, 0, 0, [])) rfl).mpr ?_
  refine (rn_step (e := (.imul, 10, 0, 0, 0, 0, 0, [])) rfl).mpr (rn_cw hr1.1 hr1.2.1 ?_)
  refine (rn_step (e := (.iadd, 11, 0, 0, 0, 0, 0, [])) rfl).mpr (rn_cw hr1.2.2.1 hr1.2.2.2.1 ?_)
  refine (rn_step (e := (.iaload, 12, 0, 0, 0, 0, 0, [])) rfl).mpr (And.intro (Or.inl (rn_w467 (M := M) hM).1) (And.intro ((And.intro (hr1.2.2.2.2.1) (rn_lt (rn_w467 (M := M) hM).2 hr1.2.2.2.2.2.1))) (?_)))
  refine (rn_step (e := (.istore_n 2, 13, 2, 0, 0, 0, 0, [])) rfl).mpr ?_
  refine (rn_step (e := (.aload_n 0, 14, 0, 0, 0, 0, 0, [])) rfl).mpr ?_
  refine (rn_step (e := (.iload_n 2, 15, 2, 0, 0, 0, 0, [])) rfl).mpr ?_
  refine (rn_step (e := (.aload_n 0, 16, 0, 0, 0, 0, 0, [])) rfl).mpr ?_
  refine (rn_step (e := (.getfield 7, 19, 10, 0, 902, 2, 11, [])) rfl).mpr (And.intro ((rn_ks466 (M := M) hM)) (rn_cg (rn_g466_0 (M := M) hM) ?_))
  refine (rn_step (e := (.sipush 522, 22, 0, 0, 0, 0, 0, [])) rfl).mpr ?_
  refine (rn_step (e := (.iconst 2, 23, 0, 0, 0, 0, 0, [])) rfl).mpr ?_
  refine (rn_step (e := (.iload_n 1, 24, 1, 0, 0, 0, 0, [])) rfl).mpr ?_
  refine (rn_step (e := (.imul, 25, 0, 0, 0, 0, 0, [])) rfl).mpr (rn_cw hr1.1 hr1.2.1 ?_)
  refine (rn_step (e := (.iadd, 26, 0, 0, 0, 0, 0, [])) rfl).mpr (rn_cw hr1.2.2.1 hr1.2.2.2.1 ?_)
  refine (rn_step (e := (.iconst 1, 27, 0, 0, 0, 0, 0, [])) rfl).mpr ?_
  refine (rn_step (e := (.iadd, 28, 0, 0, 0, 0, 0, [])) rfl).mpr (rn_cw hr1.2.2.2.2.2.2.1 hr1.2.2.2.2.2.2.2.1 ?_)
  refine (rn_step (e := (.iaload, 29, 0, 0, 0, 0, 0, [])) rfl).mpr (And.intro (Or.inl (rn_w467 (M := M) hM).1) (And.intro ((And.intro (hr1.2.2.2.2.2.2.2.2.1) (rn_lt (rn_w467 (M := M) hM).2 hr1.2.2.2.2.2.2.2.2.2.1))) (?_)))
  refine (rn_step (e := (.aload_n 0, 30, 0, 0, 0, 0, 0, [])) rfl).mpr ?_
  refine (rn_step (e := (.iload_n 2, 31, 2, 0, 0, 0, 0, [])) rfl).mpr ?_
  refine (rn_step (e := (.iconst 1, 32, 0, 0, 0, 0, 0, [])) rfl).mpr ?_
  refine (rn_step (e := (.invokevirtual 49, 35, 129, 3, 1002, 0, 11, [0])) rfl).mpr (And.intro ((rn_ks466 (M := M) hM)) ((rc_Mo_of hM (hr1.2.2.2.2.2.2.2.2.2.2.1) (hr1.2.2.2.2.2.2.2.2.2.2.2) ?_)))
  refine (rn_step (e := (.iload_n 1, 36, 1, 0, 0, 0, 0, [])) rfl).mpr ?_
  exact (rn_step (e := (.invokevirtual 126, 39, 158, 5, 1047, 0, 11, [0])) rfl).mpr (And.intro ((rn_ks466 (M := M) hM)) (k1))
set_option maxRecDepth 4000 in
theorem rb_Mo_whyLabel_39 {M : rn_M} {Q : rn_Q} {vl0 : rn_V} {vl1 : rn_V} {vl2 : rn_V} {xs0 : Int}   (k1 : Q (some (rn_I xs0)) M) : rn_WP 159 39 [vl0, vl1, vl2] [rn_I xs0] M Q := by
  exact (rn_step (e := (.ireturn, 40, 0, 0, 0, 0, 0, [])) rfl).mpr (And.intro (trivial) (k1))
theorem re_Mo_bestStart {M : rn_M} {Q : rn_Q} {v0 v1 : rn_V} (h : rn_WP 160 0 [v0, v1, rn_J, rn_J, rn_J] [] M Q) : rn_ME 160 [v0, v1] M Q := h
set_option maxRecDepth 4000 in
theorem rb_Mo_bestStart_0 {M : rn_M} {Q : rn_Q} {vl0 : rn_V} {vl1 : rn_V} {vl2 : rn_V} {vl3 : rn_V} {vl4 : rn_V}   (k1 : rn_WP 160 5 [vl0, vl1, rn_I (-9), rn_I 0, vl4] [] M Q) : rn_WP 160 0 [vl0, vl1, vl2, vl3, vl4] [] M Q := by
  refine (rn_step (e := (.bipush (-9), 2, 0, 0, 0, 0, 0, [])) rfl).mpr ?_
  refine (rn_step (e := (.istore_n 2, 3, 2, 0, 0, 0, 0, [])) rfl).mpr ?_
  refine (rn_step (e := (.iconst 0, 4, 0, 0, 0, 0, 0, [])) rfl).mpr ?_
  refine (rn_step (e := (.istore_n 3, 5, 3, 0, 0, 0, 0, [])) rfl).mpr ?_
  exact k1
set_option maxRecDepth 4000 in
theorem rb_Mo_bestStart_5 {M : rn_M} {Q : rn_Q} {xl1 : Int} {xl2 : Int} {xl3 : Int} {vl4 : rn_V} (hM : rn_sh M)   (hr1 : ((0 : Int) ≤ xl1 ∧ (xl1 : Int) ≤ 5) ∧ ((0 : Int) ≤ 5 ∧ (5 : Int) ≤ 77)) (hr2 : (¬ (rn_o (rn_gi M 467) xl1 5 < xl3)) → ((0 : Int) ≤ xl1 ∧ (xl1 : Int) ≤ 5) ∧ ((0 : Int) ≤ 1 ∧ (1 : Int) ≤ 77)) (k1 : (rn_o (rn_gi M 467) xl1 5 < xl3) → Q (some (rn_I xl2)) M) (k2 : (¬ (rn_o (rn_gi M 467) xl1 5 < xl3)) → rn_ME 158 [rn_R 466, rn_I xl1, rn_I xl3, rn_I (rn_o (rn_gi M 467) xl1 1), rn_I (-9)] M (fun r M1 => rn_WP 160 29 [rn_R 466, rn_I xl1, rn_I xl2, rn_I xl3, vl4] (r.toList ++ []) M1 Q)) : rn_WP 160 5 [rn_R 466, rn_I xl1, rn_I xl2, rn_I xl3, vl4] [] M Q := by
  refine (rn_step (e := (.iload_n 3, 6, 3, 0, 0, 0, 0, [])) rfl).mpr ?_
  refine (rn_step (e := (.aload_n 0, 7, 0, 0, 0, 0, 0, [])) rfl).mpr ?_
  refine (rn_step (e := (.iload_n 1, 8, 1, 0, 0, 0, 0, [])) rfl).mpr ?_
  refine (rn_step (e := (.iconst 5, 9, 0, 0, 0, 0, 0, [])) rfl).mpr ?_
  refine (rn_step (e := (.invokevirtual 49, 12, 129, 3, 1002, 0, 11, [0])) rfl).mpr (And.intro ((rn_ks466 (M := M) hM)) ((rc_Mo_of hM (hr1.1) (hr1.2) ?_)))
  refine (rn_step (e := (.if_icmp .gt 65, 15, 77, 0, 0, 0, 0, [])) rfl).mpr (And.intro (fun c1 => ?_) (fun c1 => ?_))
  ·
    refine (rn_step (e := (.iload_n 2, 78, 2, 0, 0, 0, 0, [])) rfl).mpr ?_
    exact (rn_step (e := (.ireturn, 79, 0, 0, 0, 0, 0, [])) rfl).mpr (And.intro (trivial) ((k1 c1)))
  ·
    refine (rn_step (e := (.aload_n 0, 16, 0, 0, 0, 0, 0, [])) rfl).mpr ?_
    refine (rn_step (e := (.iload_n 1, 17, 1, 0, 0, 0, 0, [])) rfl).mpr ?_
    refine (rn_step (e := (.iload_n 3, 18, 3, 0, 0, 0, 0, [])) rfl).mpr ?_
    refine (rn_step (e := (.aload_n 0, 19, 0, 0, 0, 0, 0, [])) rfl).mpr ?_
    refine (rn_step (e := (.iload_n 1, 20, 1, 0, 0, 0, 0, [])) rfl).mpr ?_
    refine (rn_step (e := (.iconst 1, 21, 0, 0, 0, 0, 0, [])) rfl).mpr ?_
    refine (rn_step (e := (.invokevirtual 49, 24, 129, 3, 1002, 0, 11, [0])) rfl).mpr (And.intro ((rn_ks466 (M := M) hM)) ((rc_Mo_of hM ((hr2 c1).1) ((hr2 c1).2) ?_)))
    refine (rn_step (e := (.bipush (-9), 26, 0, 0, 0, 0, 0, [])) rfl).mpr ?_
    exact (rn_step (e := (.invokevirtual 126, 29, 158, 5, 1047, 0, 11, [0])) rfl).mpr (And.intro ((rn_ks466 (M := M) hM)) ((k2 c1)))
set_option maxRecDepth 4000 in
theorem rb_Mo_bestStart_29 {M : rn_M} {Q : rn_Q} {xl1 : Int} {xl2 : Int} {xl3 : Int} {vl4 : rn_V} {xs0 : Int} (hM : rn_sh M)   (hr1 : (xs0 = 0) → (xl2 = (-9)) → (-2147483648 : Int) ≤ xl3 + 1 ∧ xl3 + 1 ≤ 2147483647) (hr2 : (¬ (xs0 = 0)) → (-2147483648 : Int) ≤ xl3 + 1 ∧ xl3 + 1 ≤ 2147483647) (k1 : (xs0 = 0) → (xl2 = (-9)) → rn_WP 160 5 [rn_R 466, rn_I xl1, rn_I xl3, rn_I (xl3 + 1), rn_I 1] [] M Q) (k2 : (xs0 = 0) → (¬ (xl2 = (-9))) → rn_ME 152 [rn_R 466, rn_I xl1, rn_I xl3] M (fun r M1 => rn_WP 160 44 [rn_R 466, rn_I xl1, rn_I xl2, rn_I xl3, vl4] (r.toList ++ []) M1 Q)) (k3 : (¬ (xs0 = 0)) → rn_WP 160 5 [rn_R 466, rn_I xl1, rn_I xl2, rn_I (xl3 + 1), rn_I 0] [] M Q) : rn_WP 160 29 [rn_R 466, rn_I xl1, rn_I xl2, rn_I xl3, vl4] [rn_I xs0] M Q := by
  refine (rn_step (e := (.ifCond .ne 28, 32, 57, 0, 0, 0, 0, [])) rfl).mpr (And.intro (fun c1 => ?_) (fun c1 => ?_))
  ·
    refine (rn_step (e := (.iload_n 2, 33, 2, 0, 0, 0, 0, [])) rfl).mpr ?_
    refine (rn_step (e := (.bipush (-9), 35, 0, 0, 0, 0, 0, [])) rfl).mpr ?_
    refine (rn_step (e := (.if_icmp .eq 18, 38, 53, 0, 0, 0, 0, [])) rfl).mpr (And.intro (fun c2 => ?_) (fun c2 => ?_))
    ·
      refine (rn_step (e := (.iconst 1, 54, 0, 0, 0, 0, 0, [])) rfl).mpr ?_
      refine (rn_step (e := (.goto 4, 57, 58, 0, 0, 0, 0, [])) rfl).mpr ?_
      refine (rn_step (e := (.istore 4, 60, 4, 0, 0, 0, 0, [])) rfl).mpr ?_
      refine (rn_step (e := (.iload 4, 62, 4, 0, 0, 0, 0, [])) rfl).mpr ?_
      refine (rn_step (e := (.ifCond .eq 7, 65, 69, 0, 0, 0, 0, [])) rfl).mpr (And.intro (fun q => absurd q (by decide)) (fun q => ?_))
      refine (rn_step (e := (.iload_n 3, 66, 3, 0, 0, 0, 0, [])) rfl).mpr ?_
      refine (rn_step (e := (.goto 4, 69, 70, 0, 0, 0, 0, [])) rfl).mpr ?_
      refine (rn_step (e := (.istore_n 2, 71, 2, 0, 0, 0, 0, [])) rfl).mpr ?_
      refine (rn_step (e := (.iinc 3 1, 74, 3, 0, 0, 0, 0, [])) rfl).mpr (rn_ci (hr1 c1 c2).1 (hr1 c1 c2).2 ?_)
      refine (rn_step (e := (.goto (-69), 77, 5, 0, 0, 0, 0, [])) rfl).mpr ?_
      exact (k1 c1 c2)
    ·
      refine (rn_step (e := (.aload_n 0, 39, 0, 0, 0, 0, 0, [])) rfl).mpr ?_
      refine (rn_step (e := (.iload_n 1, 40, 1, 0, 0, 0, 0, [])) rfl).mpr ?_
      refine (rn_step (e := (.iload_n 3, 41, 3, 0, 0, 0, 0, [])) rfl).mpr ?_
      exact (rn_step (e := (.invokevirtual 130, 44, 152, 3, 1095, 0, 11, [0])) rfl).mpr (And.intro ((rn_ks466 (M := M) hM)) ((k2 c1 c2)))
  ·
    refine (rn_step (e := (.iconst 0, 58, 0, 0, 0, 0, 0, [])) rfl).mpr ?_
    refine (rn_step (e := (.istore 4, 60, 4, 0, 0, 0, 0, [])) rfl).mpr ?_
    refine (rn_step (e := (.iload 4, 62, 4, 0, 0, 0, 0, [])) rfl).mpr ?_
    refine (rn_step (e := (.ifCond .eq 7, 65, 69, 0, 0, 0, 0, [])) rfl).mpr (And.intro (fun q => ?_) (fun q => absurd (by decide) q))
    refine (rn_step (e := (.iload_n 2, 70, 2, 0, 0, 0, 0, [])) rfl).mpr ?_
    refine (rn_step (e := (.istore_n 2, 71, 2, 0, 0, 0, 0, [])) rfl).mpr ?_
    refine (rn_step (e := (.iinc 3 1, 74, 3, 0, 0, 0, 0, [])) rfl).mpr (rn_ci (hr2 c1).1 (hr2 c1).2 ?_)
    refine (rn_step (e := (.goto (-69), 77, 5, 0, 0, 0, 0, [])) rfl).mpr ?_
    exact (k3 c1)
set_option maxRecDepth 4000 in
theorem rb_Mo_bestStart_44 {M : rn_M} {Q : rn_Q} {xl1 : Int} {xl2 : Int} {vl3 : rn_V} {vl4 : rn_V} {vs0 : rn_V} (hM : rn_sh M)   (k1 : rn_ME 152 [rn_R 466, rn_I xl1, rn_I xl2] M (fun r M1 => rn_WP 160 50 [rn_R 466, rn_I xl1, rn_I xl2, vl3, vl4] (r.toList ++ [vs0]) M1 Q)) : rn_WP 160 44 [rn_R 466, rn_I xl1, rn_I xl2, vl3, vl4] [vs0] M Q := by
  refine (rn_step (e := (.aload_n 0, 45, 0, 0, 0, 0, 0, [])) rfl).mpr ?_
  refine (rn_step (e := (.iload_n 1, 46, 1, 0, 0, 0, 0, [])) rfl).mpr ?_
  refine (rn_step (e := (.iload_n 2, 47, 2, 0, 0, 0, 0, [])) rfl).mpr ?_
  exact (rn_step (e := (.invokevirtual 130, 50, 152, 3, 1095, 0, 11, [0])) rfl).mpr (And.intro ((rn_ks466 (M := M) hM)) (k1))
set_option maxRecDepth 4000 in
theorem rb_Mo_bestStart_50 {M : rn_M} {Q : rn_Q} {vl0 : rn_V} {vl1 : rn_V} {xl2 : Int} {xl3 : Int} {vl4 : rn_V} {xs0 : Int} {xs1 : Int}   (hr1 : (xs1 < xs0) → (-2147483648 : Int) ≤ xl3 + 1 ∧ xl3 + 1 ≤ 2147483647) (hr2 : (¬ (xs1 < xs0)) → (-2147483648 : Int) ≤ xl3 + 1 ∧ xl3 + 1 ≤ 2147483647) (k1 : (xs1 < xs0) → rn_WP 160 5 [vl0, vl1, rn_I xl3, rn_I (xl3 + 1), rn_I 1] [] M Q) (k2 : (¬ (xs1 < xs0)) → rn_WP 160 5 [vl0, vl1, rn_I xl2, rn_I (xl3 + 1), rn_I 0] [] M Q) : rn_WP 160 50 [vl0, vl1, rn_I xl2, rn_I xl3, vl4] [rn_I xs0, rn_I xs1] M Q := by
  refine (rn_step (e := (.if_icmp .ge 7, 53, 57, 0, 0, 0, 0, [])) rfl).mpr (And.intro (fun c1 => ?_) (fun c1 => ?_))
  ·
    refine (rn_step (e := (.iconst 1, 54, 0, 0, 0, 0, 0, [])) rfl).mpr ?_
    refine (rn_step (e := (.goto 4, 57, 58, 0, 0, 0, 0, [])) rfl).mpr ?_
    refine (rn_step (e := (.istore 4, 60, 4, 0, 0, 0, 0, [])) rfl).mpr ?_
    refine (rn_step (e := (.iload 4, 62, 4, 0, 0, 0, 0, [])) rfl).mpr ?_
    refine (rn_step (e := (.ifCond .eq 7, 65, 69, 0, 0, 0, 0, [])) rfl).mpr (And.intro (fun q => absurd q (by decide)) (fun q => ?_))
    refine (rn_step (e := (.iload_n 3, 66, 3, 0, 0, 0, 0, [])) rfl).mpr ?_
    refine (rn_step (e := (.goto 4, 69, 70, 0, 0, 0, 0, [])) rfl).mpr ?_
    refine (rn_step (e := (.istore_n 2, 71, 2, 0, 0, 0, 0, [])) rfl).mpr ?_
    refine (rn_step (e := (.iinc 3 1, 74, 3, 0, 0, 0, 0, [])) rfl).mpr (rn_ci (hr1 c1).1 (hr1 c1).2 ?_)
    refine (rn_step (e := (.goto (-69), 77, 5, 0, 0, 0, 0, [])) rfl).mpr ?_
    exact (k1 c1)
  ·
    refine (rn_step (e := (.iconst 0, 58, 0, 0, 0, 0, 0, [])) rfl).mpr ?_
    refine (rn_step (e := (.istore 4, 60, 4, 0, 0, 0, 0, [])) rfl).mpr ?_
    refine (rn_step (e := (.iload 4, 62, 4, 0, 0, 0, 0, [])) rfl).mpr ?_
    refine (rn_step (e := (.ifCond .eq 7, 65, 69, 0, 0, 0, 0, [])) rfl).mpr (And.intro (fun q => ?_) (fun q => absurd (by decide) q))
    refine (rn_step (e := (.iload_n 2, 70, 2, 0, 0, 0, 0, [])) rfl).mpr ?_
    refine (rn_step (e := (.istore_n 2, 71, 2, 0, 0, 0, 0, [])) rfl).mpr ?_
    refine (rn_step (e := (.iinc 3 1, 74, 3, 0, 0, 0, 0, [])) rfl).mpr (rn_ci (hr2 c1).1 (hr2 c1).2 ?_)
    refine (rn_step (e := (.goto (-69), 77, 5, 0, 0, 0, 0, [])) rfl).mpr ?_
    exact (k2 c1)
theorem re_Mo_comesLabel {M : rn_M} {Q : rn_Q} {v0 v1 v2 : rn_V} (h : rn_WP 162 0 [v0, v1, v2] [] M Q) : rn_ME 162 [v0, v1, v2] M Q := h
set_option maxRecDepth 4000 in
theorem rb_Mo_comesLabel_0 {M : rn_M} {Q : rn_Q} {xl1 : Int} {xl2 : Int} (hM : rn_sh M)   (hr1 : (-2147483648 : Int) ≤ 2 * (rn_gi M 467 2) ∧ 2 * (rn_gi M 467 2) ≤ 2147483647 ∧ (-2147483648 : Int) ≤ 522 + (2 * (rn_gi M 467 2)) ∧ 522 + (2 * (rn_gi M 467 2)) ≤ 2147483647 ∧ (0 : Int) ≤ 522 + (2 * (rn_gi M 467 2)) ∧ 522 + (2 * (rn_gi M 467 2)) < (562 : Int) ∧ (-2147483648 : Int) ≤ 2 * (rn_gi (rn_si M 467 (522 + (2 * (rn_gi M 467 2))).toNat xl1) 467 2) ∧ 2 * (rn_gi (rn_si M 467 (522 + (2 * (rn_gi M 467 2))).toNat xl1) 467 2) ≤ 2147483647 ∧ (-2147483648 : Int) ≤ 522 + (2 * (rn_gi (rn_si M 467 (522 + (2 * (rn_gi M 467 2))).toNat xl1) 467 2)) ∧ 522 + (2 * (rn_gi (rn_si M 467 (522 + (2 * (rn_gi M 467 2))).toNat xl1) 467 2)) ≤ 2147483647 ∧ (-2147483648 : Int) ≤ (522 + (2 * (rn_gi (rn_si M 467 (522 + (2 * (rn_gi M 467 2))).toNat xl1) 467 2))) + 1 ∧ (522 + (2 * (rn_gi (rn_si M 467 (522 + (2 * (rn_gi M 467 2))).toNat xl1) 467 2))) + 1 ≤ 2147483647 ∧ (0 : Int) ≤ (522 + (2 * (rn_gi (rn_si M 467 (522 + (2 * (rn_gi M 467 2))).toNat xl1) 467 2))) + 1 ∧ (522 + (2 * (rn_gi (rn_si M 467 (522 + (2 * (rn_gi M 467 2))).toNat xl1) 467 2))) + 1 < (562 : Int) ∧ (-2147483648 : Int) ≤ (rn_gi (rn_si (rn_si M 467 (522 + (2 * (rn_gi M 467 2))).toNat xl1) 467 ((522 + (2 * (rn_gi (rn_si M 467 (522 + (2 * (rn_gi M 467 2))).toNat xl1) 467 2))) + 1).toNat xl2) 467 2) + 1 ∧ (rn_gi (rn_si (rn_si M 467 (522 + (2 * (rn_gi M 467 2))).toNat xl1) 467 ((522 + (2 * (rn_gi (rn_si M 467 (522 + (2 * (rn_gi M 467 2))).toNat xl1) 467 2))) + 1).toNat xl2) 467 2) + 1 ≤ 2147483647 ∧ (-2147483648 : Int) ≤ ((rn_gi (rn_si (rn_si M 467 (522 + (2 * (rn_gi M 467 2))).toNat xl1) 467 ((522 + (2 * (rn_gi (rn_si M 467 (522 + (2 * (rn_gi M 467 2))).toNat xl1) 467 2))) + 1).toNat xl2) 467 2) + 1) - 1 ∧ ((rn_gi (rn_si (rn_si M 467 (522 + (2 * (rn_gi M 467 2))).toNat xl1) 467 ((522 + (2 * (rn_gi (rn_si M 467 (522 + (2 * (rn_gi M 467 2))).toNat xl1) 467 2))) + 1).toNat xl2) 467 2) + 1) - 1 ≤ 2147483647) (k1 : Q (some (rn_I (((rn_gi (rn_si (rn_si M 467 (522 + (2 * (rn_gi M 467 2))).toNat xl1) 467 ((522 + (2 * (rn_gi (rn_si M 467 (522 + (2 * (rn_gi M 467 2))).toNat xl1) 467 2))) + 1).toNat xl2) 467 2) + 1) - 1))) (rn_si (rn_si (rn_si M 467 (522 + (2 * (rn_gi M 467 2))).toNat xl1) 467 ((522 + (2 * (rn_gi (rn_si M 467 (522 + (2 * (rn_gi M 467 2))).toNat xl1) 467 2))) + 1).toNat xl2) 467 2 ((rn_gi (rn_si (rn_si M 467 (522 + (2 * (rn_gi M 467 2))).toNat xl1) 467 ((522 + (2 * (rn_gi (rn_si M 467 (522 + (2 * (rn_gi M 467 2))).toNat xl1) 467 2))) + 1).toNat xl2) 467 2) + 1))) : rn_WP 162 0 [rn_R 466, rn_I xl1, rn_I xl2] [] M Q := by
  refine (rn_step (e := (.aload_n 0, 1, 0, 0, 0, 0, 0, [])) rfl).mpr ?_
  refine (rn_step (e := (.getfield 7, 4, 10, 0, 902, 2, 11, [])) rfl).mpr (And.intro ((rn_ks466 (M := M) hM)) (rn_cg (rn_g466_0 (M := M) hM) ?_))
  refine (rn_step (e := (.sipush 522, 7, 0, 0, 0, 0, 0, [])) rfl).mpr ?_
  refine (rn_step (e := (.iconst 2, 8, 0, 0, 0, 0, 0, [])) rfl).mpr ?_
  refine (rn_step (e := (.aload_n 0, 9, 0, 0, 0, 0, 0, [])) rfl).mpr ?_
  refine (rn_step (e := (.getfield 7, 12, 10, 0, 902, 2, 11, [])) rfl).mpr (And.intro ((rn_ks466 (M := M) hM)) (rn_cg (rn_g466_0 (M := M) hM) ?_))
  refine (rn_step (e := (.iconst 2, 13, 0, 0, 0, 0, 0, [])) rfl).mpr ?_
  refine (rn_step (e := (.iaload, 14, 0, 0, 0, 0, 0, [])) rfl).mpr (And.intro (Or.inl (rn_w467 (M := M) hM).1) (And.intro ((And.intro ((by decide)) (rn_lt (rn_w467 (M := M) hM).2 (by decide)))) (?_)))
  refine (rn_step (e := (.imul, 15, 0, 0, 0, 0, 0, [])) rfl).mpr (rn_cw hr1.1 hr1.2.1 ?_)
  refine (rn_step (e := (.iadd, 16, 0, 0, 0, 0, 0, [])) rfl).mpr (rn_cw hr1.2.2.1 hr1.2.2.2.1 ?_)
  refine (rn_step (e := (.iload_n 1, 17, 1, 0, 0, 0, 0, [])) rfl).mpr ?_
  refine (rn_step (e := (.iastore, 18, 0, 0, 0, 0, 0, [])) rfl).mpr (And.intro ((rn_w467 (M := M) hM).1) (And.intro ((And.intro (hr1.2.2.2.2.1) (rn_lt (rn_w467 (M := M) hM).2 hr1.2.2.2.2.2.1))) (?_)))
  refine (rn_step (e := (.aload_n 0, 19, 0, 0, 0, 0, 0, [])) rfl).mpr ?_
  refine (rn_step (e := (.getfield 7, 22, 10, 0, 902, 2, 11, [])) rfl).mpr (And.intro ((rn_ks466 (M := M) hM)) (rn_cg (rn_g466_0 (M := M) hM) ?_))
  refine (rn_step (e := (.sipush 522, 25, 0, 0, 0, 0, 0, [])) rfl).mpr ?_
  refine (rn_step (e := (.iconst 2, 26, 0, 0, 0, 0, 0, [])) rfl).mpr ?_
  refine (rn_step (e := (.aload_n 0, 27, 0, 0, 0, 0, 0, [])) rfl).mpr ?_
  refine (rn_step (e := (.getfield 7, 30, 10, 0, 902, 2, 11, [])) rfl).mpr (And.intro ((rn_ks466 (M := M) hM)) (rn_cg (rn_g466_0 (M := M) hM) ?_))
  refine (rn_step (e := (.iconst 2, 31, 0, 0, 0, 0, 0, [])) rfl).mpr ?_
  refine (rn_step (e := (.iaload, 32, 0, 0, 0, 0, 0, [])) rfl).mpr (And.intro (Or.inl (rn_w467 (M := M) hM).1) (And.intro ((And.intro ((by decide)) (rn_lt (rn_w467 (M := M) hM).2 (by decide)))) (?_)))
  refine (rn_step (e := (.imul, 33, 0, 0, 0, 0, 0, [])) rfl).mpr (rn_cw hr1.2.2.2.2.2.2.1 hr1.2.2.2.2.2.2.2.1 ?_)
  refine (rn_step (e := (.iadd, 34, 0, 0, 0, 0, 0, [])) rfl).mpr (rn_cw hr1.2.2.2.2.2.2.2.2.1 hr1.2.2.2.2.2.2.2.2.2.1 ?_)
  refine (rn_step (e := (.iconst 1, 35, 0, 0, 0, 0, 0, [])) rfl).mpr ?_
  refine (rn_step (e := (.iadd, 36, 0, 0, 0, 0, 0, [])) rfl).mpr (rn_cw hr1.2.2.2.2.2.2.2.2.2.2.1 hr1.2.2.2.2.2.2.2.2.2.2.2.1 ?_)
  refine (rn_step (e := (.iload_n 2, 37, 2, 0, 0, 0, 0, [])) rfl).mpr ?_
  refine (rn_step (e := (.iastore, 38, 0, 0, 0, 0, 0, [])) rfl).mpr (And.intro ((rn_w467 (M := M) hM).1) (And.intro ((And.intro (hr1.2.2.2.2.2.2.2.2.2.2.2.2.1) (rn_lt (rn_w467 (M := M) hM).2 hr1.2.2.2.2.2.2.2.2.2.2.2.2.2.1))) (?_)))
  refine (rn_step (e := (.aload_n 0, 39, 0, 0, 0, 0, 0, [])) rfl).mpr ?_
  refine (rn_step (e := (.getfield 7, 42, 10, 0, 902, 2, 11, [])) rfl).mpr (And.intro ((rn_ks466 (M := M) hM)) (rn_cg (rn_g466_0 (M := M) hM) ?_))
  refine (rn_step (e := (.iconst 2, 43, 0, 0, 0, 0, 0, [])) rfl).mpr ?_
  refine (rn_step (e := (.dup2, 44, 0, 0, 0, 0, 0, [])) rfl).mpr ?_
  refine (rn_step (e := (.iaload, 45, 0, 0, 0, 0, 0, [])) rfl).mpr (And.intro (Or.inl (rn_w467 (M := M) hM).1) (And.intro ((And.intro ((by decide)) (rn_lt (rn_w467 (M := M) hM).2 (by decide)))) (?_)))
  refine (rn_step (e := (.iconst 1, 46, 0, 0, 0, 0, 0, [])) rfl).mpr ?_
  refine (rn_step (e := (.iadd, 47, 0, 0, 0, 0, 0, [])) rfl).mpr (rn_cw hr1.2.2.2.2.2.2.2.2.2.2.2.2.2.2.1 hr1.2.2.2.2.2.2.2.2.2.2.2.2.2.2.2.1 ?_)
  refine (rn_step (e := (.iastore, 48, 0, 0, 0, 0, 0, [])) rfl).mpr (And.intro ((rn_w467 (M := M) hM).1) (And.intro ((And.intro ((by decide)) (rn_lt (rn_w467 (M := M) hM).2 (by decide)))) (?_)))
  refine (rn_step (e := (.aload_n 0, 49, 0, 0, 0, 0, 0, [])) rfl).mpr ?_
  refine (rn_step (e := (.getfield 7, 52, 10, 0, 902, 2, 11, [])) rfl).mpr (And.intro ((rn_ks466 (M := M) hM)) (rn_cg (rn_g466_0 (M := M) hM) ?_))
  refine (rn_step (e := (.iconst 2, 53, 0, 0, 0, 0, 0, [])) rfl).mpr ?_
  refine (rn_step (e := (.iaload, 54, 0, 0, 0, 0, 0, [])) rfl).mpr (And.intro (Or.inl (rn_w467 (M := M) hM).1) (And.intro ((And.intro ((by decide)) (rn_lt (rn_w467 (M := M) hM).2 (by decide)))) (rn_cv (by rw [rn_si_eq]) ?_)))
  refine (rn_step (e := (.iconst 1, 55, 0, 0, 0, 0, 0, [])) rfl).mpr ?_
  refine (rn_step (e := (.isub, 56, 0, 0, 0, 0, 0, [])) rfl).mpr (rn_cw hr1.2.2.2.2.2.2.2.2.2.2.2.2.2.2.2.2.1 hr1.2.2.2.2.2.2.2.2.2.2.2.2.2.2.2.2.2 ?_)
  exact (rn_step (e := (.ireturn, 57, 0, 0, 0, 0, 0, [])) rfl).mpr (And.intro (trivial) (k1))
theorem re_Mo_set {M : rn_M} {Q : rn_Q} {v0 v1 v2 : rn_V} (h : rn_WP 164 0 [v0, v1, v2] [] M Q) : rn_ME 164 [v0, v1, v2] M Q := h
set_option maxRecDepth 4000 in
theorem rb_Mo_set_0 {M : rn_M} {Q : rn_Q} {xl1 : Int} {xl2 : Int} (hM : rn_sh M)   (hr1 : (0 ≤ rn_gi M 467 0 ∧ rn_gi M 467 0 ≤ 100)) (hr2 : (0 ≤ xl1 ∧ xl1 ≤ rn_gi M 467 0 - 1) → (0 ≤ xl2 ∧ xl2 ≤ 60) → ((0 : Int) ≤ xl1 ∧ (xl1 : Int) ≤ 5) ∧ ((0 : Int) ≤ 1 ∧ (1 : Int) ≤ 77)) (k1 : (¬ (0 ≤ xl1 ∧ xl1 ≤ rn_gi M 467 0 - 1)) → Q (some (rn_I (-1))) M) (k2 : (0 ≤ xl1 ∧ xl1 ≤ rn_gi M 467 0 - 1) → (¬ (0 ≤ xl2 ∧ xl2 ≤ 60)) → Q (some (rn_I (-1))) M) (k3 : (0 ≤ xl1 ∧ xl1 ≤ rn_gi M 467 0 - 1) → (0 ≤ xl2 ∧ xl2 ≤ 60) → rn_ME 158 [rn_R 466, rn_I xl1, rn_I xl2, rn_I (rn_o (rn_gi M 467) xl1 1), rn_I (-9)] M (fun r M1 => rn_WP 164 31 [rn_R 466, rn_I xl1, rn_I xl2] (r.toList ++ []) M1 Q)) : rn_WP 164 0 [rn_R 466, rn_I xl1, rn_I xl2] [] M Q := by
  refine (rn_step (e := (.aload_n 0, 1, 0, 0, 0, 0, 0, [])) rfl).mpr ?_
  refine (rn_step (e := (.iload_n 1, 2, 1, 0, 0, 0, 0, [])) rfl).mpr ?_
  refine (rn_step (e := (.invokevirtual 84, 5, 127, 2, 994, 0, 11, [0])) rfl).mpr (And.intro ((rn_ks466 (M := M) hM)) ((rc_Mo_isRiver hM (hr1) ?_)))
  refine (rn_step (e := (.ifCond .eq 10, 8, 15, 0, 0, 0, 0, [])) rfl).mpr (And.intro (fun q => ?_) (fun q => ?_))
  · have c1 := rn_b0 q
    refine (rn_step (e := (.iconst (-1), 16, 0, 0, 0, 0, 0, [])) rfl).mpr ?_
    exact (rn_step (e := (.ireturn, 17, 0, 0, 0, 0, 0, [])) rfl).mpr (And.intro (trivial) ((k1 c1)))
  · have c1 := rn_b1 q
    refine (rn_step (e := (.iload_n 2, 9, 2, 0, 0, 0, 0, [])) rfl).mpr ?_
    refine (rn_step (e := (.invokestatic 133, 12, 163, 1, 1044, 0, 11, [0])) rfl).mpr (rc_Mo_isStart  ?_)
    refine (rn_step (e := (.ifCond .ne 5, 15, 17, 0, 0, 0, 0, [])) rfl).mpr (And.intro (fun q => ?_) (fun q => ?_))
    · have c2 := rn_b0 q
      refine (rn_step (e := (.iconst (-1), 16, 0, 0, 0, 0, 0, [])) rfl).mpr ?_
      exact (rn_step (e := (.ireturn, 17, 0, 0, 0, 0, 0, [])) rfl).mpr (And.intro (trivial) ((k2 c1 c2)))
    · have c2 := rn_b1 q
      refine (rn_step (e := (.aload_n 0, 18, 0, 0, 0, 0, 0, [])) rfl).mpr ?_
      refine (rn_step (e := (.iload_n 1, 19, 1, 0, 0, 0, 0, [])) rfl).mpr ?_
      refine (rn_step (e := (.iload_n 2, 20, 2, 0, 0, 0, 0, [])) rfl).mpr ?_
      refine (rn_step (e := (.aload_n 0, 21, 0, 0, 0, 0, 0, [])) rfl).mpr ?_
      refine (rn_step (e := (.iload_n 1, 22, 1, 0, 0, 0, 0, [])) rfl).mpr ?_
      refine (rn_step (e := (.iconst 1, 23, 0, 0, 0, 0, 0, [])) rfl).mpr ?_
      refine (rn_step (e := (.invokevirtual 49, 26, 129, 3, 1002, 0, 11, [0])) rfl).mpr (And.intro ((rn_ks466 (M := M) hM)) ((rc_Mo_of hM ((hr2 c1 c2).1) ((hr2 c1 c2).2) ?_)))
      refine (rn_step (e := (.bipush (-9), 28, 0, 0, 0, 0, 0, [])) rfl).mpr ?_
      exact (rn_step (e := (.invokevirtual 126, 31, 158, 5, 1047, 0, 11, [0])) rfl).mpr (And.intro ((rn_ks466 (M := M) hM)) ((k3 c1 c2)))
set_option maxRecDepth 4000 in
theorem rb_Mo_set_31 {M : rn_M} {Q : rn_Q} {vl1 : rn_V} {vl2 : rn_V} {xs0 : Int} (hM : rn_sh M)   (k1 : (xs0 = 0) → (rn_gi M 467 2 = 20) → Q (some (rn_I (-3))) M) (k2 : (xs0 = 0) → (¬ (rn_gi M 467 2 = 20)) → rn_ME 125 [rn_R 466] M (fun r M1 => rn_WP 164 55 [rn_R 466, vl1, vl2] (r.toList ++ []) M1 Q)) (k3 : (¬ (xs0 = 0)) → Q (some (rn_I (-2))) M) : rn_WP 164 31 [rn_R 466, vl1, vl2] [rn_I xs0] M Q := by
  refine (rn_step (e := (.ifCond .eq 6, 34, 37, 0, 0, 0, 0, [])) rfl).mpr (And.intro (fun c1 => ?_) (fun c1 => ?_))
  ·
    refine (rn_step (e := (.aload_n 0, 38, 0, 0, 0, 0, 0, [])) rfl).mpr ?_
    refine (rn_step (e := (.getfield 7, 41, 10, 0, 902, 2, 11, [])) rfl).mpr (And.intro ((rn_ks466 (M := M) hM)) (rn_cg (rn_g466_0 (M := M) hM) ?_))
    refine (rn_step (e := (.iconst 2, 42, 0, 0, 0, 0, 0, [])) rfl).mpr ?_
    refine (rn_step (e := (.iaload, 43, 0, 0, 0, 0, 0, [])) rfl).mpr (And.intro (Or.inl (rn_w467 (M := M) hM).1) (And.intro ((And.intro ((by decide)) (rn_lt (rn_w467 (M := M) hM).2 (by decide)))) (?_)))
    refine (rn_step (e := (.bipush 20, 45, 0, 0, 0, 0, 0, [])) rfl).mpr ?_
    refine (rn_step (e := (.if_icmp .ne 6, 48, 51, 0, 0, 0, 0, [])) rfl).mpr (And.intro (fun c2 => ?_) (fun c2 => ?_))
    ·
      refine (rn_step (e := (.bipush (-3), 50, 0, 0, 0, 0, 0, [])) rfl).mpr ?_
      exact (rn_step (e := (.ireturn, 51, 0, 0, 0, 0, 0, [])) rfl).mpr (And.intro (trivial) ((k1 c1 c2)))
    ·
      refine (rn_step (e := (.aload_n 0, 52, 0, 0, 0, 0, 0, [])) rfl).mpr ?_
      exact (rn_step (e := (.invokevirtual 70, 55, 125, 1, 968, 0, 11, [0])) rfl).mpr (And.intro ((rn_ks466 (M := M) hM)) ((k2 c1 c2)))
  ·
    refine (rn_step (e := (.bipush (-2), 36, 0, 0, 0, 0, 0, [])) rfl).mpr ?_
    exact (rn_step (e := (.ireturn, 37, 0, 0, 0, 0, 0, [])) rfl).mpr (And.intro (trivial) ((k3 c1)))
set_option maxRecDepth 4000 in
theorem rb_Mo_set_55 {M : rn_M} {Q : rn_Q} {xl1 : Int} {xl2 : Int} (hM : rn_sh M)   (k1 : rn_ME 162 [rn_R 466, rn_I xl1, rn_I xl2] M (fun r M1 => rn_WP 164 61 [rn_R 466, rn_I xl1, rn_I xl2] (r.toList ++ []) M1 Q)) : rn_WP 164 55 [rn_R 466, rn_I xl1, rn_I xl2] [] M Q := by
  refine (rn_step (e := (.aload_n 0, 56, 0, 0, 0, 0, 0, [])) rfl).mpr ?_
  refine (rn_step (e := (.iload_n 1, 57, 1, 0, 0, 0, 0, [])) rfl).mpr ?_
  refine (rn_step (e := (.iload_n 2, 58, 2, 0, 0, 0, 0, [])) rfl).mpr ?_
  exact (rn_step (e := (.invokevirtual 136, 61, 162, 3, 1071, 0, 11, [0])) rfl).mpr (And.intro ((rn_ks466 (M := M) hM)) (k1))
set_option maxRecDepth 4000 in
theorem rb_Mo_set_61 {M : rn_M} {Q : rn_Q} {vl0 : rn_V} {vl1 : rn_V} {vl2 : rn_V} {xs0 : Int}   (k1 : Q (some (rn_I xs0)) M) : rn_WP 164 61 [vl0, vl1, vl2] [rn_I xs0] M Q := by
  exact (rn_step (e := (.ireturn, 62, 0, 0, 0, 0, 0, [])) rfl).mpr (And.intro (trivial) (k1))
theorem re_Mo_goesLabel {M : rn_M} {Q : rn_Q} {v0 v1 : rn_V} (h : rn_WP 165 0 [v0, v1, rn_J] [] M Q) : rn_ME 165 [v0, v1] M Q := h
set_option maxRecDepth 4000 in
theorem rb_Mo_goesLabel_0 {M : rn_M} {Q : rn_Q} {xl1 : Int} {vl2 : rn_V} (hM : rn_sh M)   (hr1 : (-2147483648 : Int) ≤ (rn_gi M 467 2) - 1 ∧ (rn_gi M 467 2) - 1 ≤ 2147483647 ∧ (-2147483648 : Int) ≤ 2 * xl1 ∧ 2 * xl1 ≤ 2147483647 ∧ (-2147483648 : Int) ≤ 522 + (2 * xl1) ∧ 522 + (2 * xl1) ≤ 2147483647) (k1 : rn_WP 165 18 [rn_R 466, rn_I xl1, rn_I (522 + (2 * xl1))] [] (rn_si M 467 2 ((rn_gi M 467 2) - 1)) Q) : rn_WP 165 0 [rn_R 466, rn_I xl1, vl2] [] M Q := by
  refine (rn_step (e := (.aload_n 0, 1, 0, 0, 0, 0, 0, [])) rfl).mpr ?_
  refine (rn_step (e := (.getfield 7, 4, 10, 0, 902, 2, 11, [])) rfl).mpr (And.intro ((rn_ks466 (M := M) hM)) (rn_cg (rn_g466_0 (M := M) hM) ?_))
  refine (rn_step (e := (.iconst 2, 5, 0, 0, 0, 0, 0, [])) rfl).mpr ?_
  refine (rn_step (e := (.dup2, 6, 0, 0, 0, 0, 0, [])) rfl).mpr ?_
  refine (rn_step (e := (.iaload, 7, 0, 0, 0, 0, 0, [])) rfl).mpr (And.intro (Or.inl (rn_w467 (M := M) hM).1) (And.intro ((And.intro ((by decide)) (rn_lt (rn_w467 (M := M) hM).2 (by decide)))) (?_)))
  refine (rn_step (e := (.iconst 1, 8, 0, 0, 0, 0, 0, [])) rfl).mpr ?_
  refine (rn_step (e := (.isub, 9, 0, 0, 0, 0, 0, [])) rfl).mpr (rn_cw hr1.1 hr1.2.1 ?_)
  refine (rn_step (e := (.iastore, 10, 0, 0, 0, 0, 0, [])) rfl).mpr (And.intro ((rn_w467 (M := M) hM).1) (And.intro ((And.intro ((by decide)) (rn_lt (rn_w467 (M := M) hM).2 (by decide)))) (?_)))
  refine (rn_step (e := (.sipush 522, 13, 0, 0, 0, 0, 0, [])) rfl).mpr ?_
  refine (rn_step (e := (.iconst 2, 14, 0, 0, 0, 0, 0, [])) rfl).mpr ?_
  refine (rn_step (e := (.iload_n 1, 15, 1, 0, 0, 0, 0, [])) rfl).mpr ?_
  refine (rn_step (e := (.imul, 16, 0, 0, 0, 0, 0, [])) rfl).mpr (rn_cw hr1.2.2.1 hr1.2.2.2.1 ?_)
  refine (rn_step (e := (.iadd, 17, 0, 0, 0, 0, 0, [])) rfl).mpr (rn_cw hr1.2.2.2.2.1 hr1.2.2.2.2.2 ?_)
  refine (rn_step (e := (.istore_n 2, 18, 2, 0, 0, 0, 0, [])) rfl).mpr ?_
  exact k1
set_option maxRecDepth 4000 in
theorem rb_Mo_goesLabel_18 {M : rn_M} {Q : rn_Q} {vl1 : rn_V} {xl2 : Int} (hM : rn_sh M)   (hr1 : (-2147483648 : Int) ≤ 2 * (rn_gi M 467 2) ∧ 2 * (rn_gi M 467 2) ≤ 2147483647 ∧ (-2147483648 : Int) ≤ 522 + (2 * (rn_gi M 467 2)) ∧ 522 + (2 * (rn_gi M 467 2)) ≤ 2147483647) (hr2 : (xl2 < 522 + (2 * (rn_gi M 467 2))) → (-2147483648 : Int) ≤ xl2 + 2 ∧ xl2 + 2 ≤ 2147483647 ∧ (0 : Int) ≤ xl2 + 2 ∧ xl2 + 2 < (562 : Int) ∧ (0 : Int) ≤ xl2 ∧ xl2 < (562 : Int) ∧ (-2147483648 : Int) ≤ xl2 + 1 ∧ xl2 + 1 ≤ 2147483647) (k1 : (xl2 < 522 + (2 * (rn_gi M 467 2))) → rn_WP 165 18 [rn_R 466, vl1, rn_I (xl2 + 1)] [] (rn_si M 467 (xl2).toNat (rn_gi M 467 (xl2 + 2).toNat)) Q) (k2 : (¬ (xl2 < 522 + (2 * (rn_gi M 467 2)))) → Q none M) : rn_WP 165 18 [rn_R 466, vl1, rn_I xl2] [] M Q := by
  refine (rn_step (e := (.iload_n 2, 19, 2, 0, 0, 0, 0, [])) rfl).mpr ?_
  refine (rn_step (e := (.sipush 522, 22, 0, 0, 0, 0, 0, [])) rfl).mpr ?_
  refine (rn_step (e := (.iconst 2, 23, 0, 0, 0, 0, 0, [])) rfl).mpr ?_
  refine (rn_step (e := (.aload_n 0, 24, 0, 0, 0, 0, 0, [])) rfl).mpr ?_
  refine (rn_step (e := (.getfield 7, 27, 10, 0, 902, 2, 11, [])) rfl).mpr (And.intro ((rn_ks466 (M := M) hM)) (rn_cg (rn_g466_0 (M := M) hM) ?_))
  refine (rn_step (e := (.iconst 2, 28, 0, 0, 0, 0, 0, [])) rfl).mpr ?_
  refine (rn_step (e := (.iaload, 29, 0, 0, 0, 0, 0, [])) rfl).mpr (And.intro (Or.inl (rn_w467 (M := M) hM).1) (And.intro ((And.intro ((by decide)) (rn_lt (rn_w467 (M := M) hM).2 (by decide)))) (?_)))
  refine (rn_step (e := (.imul, 30, 0, 0, 0, 0, 0, [])) rfl).mpr (rn_cw hr1.1 hr1.2.1 ?_)
  refine (rn_step (e := (.iadd, 31, 0, 0, 0, 0, 0, [])) rfl).mpr (rn_cw hr1.2.2.1 hr1.2.2.2 ?_)
  refine (rn_step (e := (.if_icmp .ge 23, 34, 54, 0, 0, 0, 0, [])) rfl).mpr (And.intro (fun c1 => ?_) (fun c1 => ?_))
  ·
    refine (rn_step (e := (.aload_n 0, 35, 0, 0, 0, 0, 0, [])) rfl).mpr ?_
    refine (rn_step (e := (.getfield 7, 38, 10, 0, 902, 2, 11, [])) rfl).mpr (And.intro ((rn_ks466 (M := M) hM)) (rn_cg (rn_g466_0 (M := M) hM) ?_))
    refine (rn_step (e := (.iload_n 2, 39, 2, 0, 0, 0, 0, [])) rfl).mpr ?_
    refine (rn_step (e := (.aload_n 0, 40, 0, 0, 0, 0, 0, [])) rfl).mpr ?_
    refine (rn_step (e := (.getfield 7, 43, 10, 0, 902, 2, 11, [])) rfl).mpr (And.intro ((rn_ks466 (M := M) hM)) (rn_cg (rn_g466_0 (M := M) hM) ?_))
    refine (rn_step (e := (.iload_n 2, 44, 2, 0, 0, 0, 0, [])) rfl).mpr ?_
    refine (rn_step (e := (.iconst 2, 45, 0, 0, 0, 0, 0, [])) rfl).mpr ?_
    refine (rn_step (e := (.iadd, 46, 0, 0, 0, 0, 0, [])) rfl).mpr (rn_cw (hr2 c1).1 (hr2 c1).2.1 ?_)
    refine (rn_step (e := (.iaload, 47, 0, 0, 0, 0, 0, [])) rfl).mpr (And.intro (Or.inl (rn_w467 (M := M) hM).1) (And.intro ((And.intro ((hr2 c1).2.2.1) (rn_lt (rn_w467 (M := M) hM).2 (hr2 c1).2.2.2.1))) (?_)))
    refine (rn_step (e := (.iastore, 48, 0, 0, 0, 0, 0, [])) rfl).mpr (And.intro ((rn_w467 (M := M) hM).1) (And.intro ((And.intro ((hr2 c1).2.2.2.2.1) (rn_lt (rn_w467 (M := M) hM).2 (hr2 c1).2.2.2.2.2.1))) (?_)))
    refine (rn_step (e := (.iinc 2 1, 51, 2, 0, 0, 0, 0, [])) rfl).mpr (rn_ci (hr2 c1).2.2.2.2.2.2.1 (hr2 c1).2.2.2.2.2.2.2 ?_)
    refine (rn_step (e := (.goto (-33), 54, 18, 0, 0, 0, 0, [])) rfl).mpr ?_
    exact (k1 c1)
  ·
    exact (rn_step (e := (.return_, 55, 0, 0, 0, 0, 0, [])) rfl).mpr (k2 c1)
theorem re_Mo_remove {M : rn_M} {Q : rn_Q} {v0 v1 : rn_V} (h : rn_WP 166 0 [v0, v1] [] M Q) : rn_ME 166 [v0, v1] M Q := h
set_option maxRecDepth 4000 in
theorem rb_Mo_remove_0 {M : rn_M} {Q : rn_Q} {xl1 : Int} (hM : rn_sh M)   (hr1 : (0 ≤ rn_gi M 467 2 ∧ rn_gi M 467 2 ≤ 100)) (k1 : (¬ (0 ≤ xl1 ∧ xl1 ≤ rn_gi M 467 2 - 1)) → Q (some (rn_I (-1))) M) (k2 : (0 ≤ xl1 ∧ xl1 ≤ rn_gi M 467 2 - 1) → rn_ME 125 [rn_R 466] M (fun r M1 => rn_WP 166 14 [rn_R 466, rn_I xl1] (r.toList ++ []) M1 Q)) : rn_WP 166 0 [rn_R 466, rn_I xl1] [] M Q := by
  refine (rn_step (e := (.aload_n 0, 1, 0, 0, 0, 0, 0, [])) rfl).mpr ?_
  refine (rn_step (e := (.iload_n 1, 2, 1, 0, 0, 0, 0, [])) rfl).mpr ?_
  refine (rn_step (e := (.invokevirtual 139, 5, 161, 2, 1079, 0, 11, [0])) rfl).mpr (And.intro ((rn_ks466 (M := M) hM)) ((rc_Mo_isLabel hM (hr1) ?_)))
  refine (rn_step (e := (.ifCond .ne 5, 8, 10, 0, 0, 0, 0, [])) rfl).mpr (And.intro (fun q => ?_) (fun q => ?_))
  · have c1 := rn_b0 q
    refine (rn_step (e := (.iconst (-1), 9, 0, 0, 0, 0, 0, [])) rfl).mpr ?_
    exact (rn_step (e := (.ireturn, 10, 0, 0, 0, 0, 0, [])) rfl).mpr (And.intro (trivial) ((k1 c1)))
  · have c1 := rn_b1 q
    refine (rn_step (e := (.aload_n 0, 11, 0, 0, 0, 0, 0, [])) rfl).mpr ?_
    exact (rn_step (e := (.invokevirtual 70, 14, 125, 1, 968, 0, 11, [0])) rfl).mpr (And.intro ((rn_ks466 (M := M) hM)) ((k2 c1)))
set_option maxRecDepth 4000 in
theorem rb_Mo_remove_14 {M : rn_M} {Q : rn_Q} {xl1 : Int} (hM : rn_sh M)   (k1 : rn_ME 165 [rn_R 466, rn_I xl1] M (fun r M1 => rn_WP 166 19 [rn_R 466, rn_I xl1] (r.toList ++ []) M1 Q)) : rn_WP 166 14 [rn_R 466, rn_I xl1] [] M Q := by
  refine (rn_step (e := (.aload_n 0, 15, 0, 0, 0, 0, 0, [])) rfl).mpr ?_
  refine (rn_step (e := (.iload_n 1, 16, 1, 0, 0, 0, 0, [])) rfl).mpr ?_
  exact (rn_step (e := (.invokevirtual 142, 19, 165, 2, 1083, 0, 11, [0])) rfl).mpr (And.intro ((rn_ks466 (M := M) hM)) (k1))
set_option maxRecDepth 4000 in
theorem rb_Mo_remove_19 {M : rn_M} {Q : rn_Q} {vl1 : rn_V} (hM : rn_sh M)   (k1 : Q (some (rn_I (rn_gi M 467 2))) M) : rn_WP 166 19 [rn_R 466, vl1] [] M Q := by
  refine (rn_step (e := (.aload_n 0, 20, 0, 0, 0, 0, 0, [])) rfl).mpr ?_
  refine (rn_step (e := (.getfield 7, 23, 10, 0, 902, 2, 11, [])) rfl).mpr (And.intro ((rn_ks466 (M := M) hM)) (rn_cg (rn_g466_0 (M := M) hM) ?_))
  refine (rn_step (e := (.iconst 2, 24, 0, 0, 0, 0, 0, [])) rfl).mpr ?_
  refine (rn_step (e := (.iaload, 25, 0, 0, 0, 0, 0, [])) rfl).mpr (And.intro (Or.inl (rn_w467 (M := M) hM).1) (And.intro ((And.intro ((by decide)) (rn_lt (rn_w467 (M := M) hM).2 (by decide)))) (?_)))
  exact (rn_step (e := (.ireturn, 26, 0, 0, 0, 0, 0, [])) rfl).mpr (And.intro (trivial) (k1))
theorem re_Mo_place {M : rn_M} {Q : rn_Q} {v0 v1 : rn_V} (h : rn_WP 167 0 [v0, v1, rn_J, rn_J, rn_J, rn_J, rn_J] [] M Q) : rn_ME 167 [v0, v1] M Q := h
set_option maxRecDepth 4000 in
theorem rb_Mo_place_0 {M : rn_M} {Q : rn_Q} {xl1 : Int} {vl2 : rn_V} {vl3 : rn_V} {vl4 : rn_V} {vl5 : rn_V} {vl6 : rn_V} (hM : rn_sh M)   (k1 : (¬ (1 ≤ xl1 ∧ xl1 ≤ 5)) → Q (some (rn_I (-1))) M) (k2 : (1 ≤ xl1 ∧ xl1 ≤ 5) → rn_ME 125 [rn_R 466] M (fun r M1 => rn_WP 167 15 [rn_R 466, rn_I xl1, vl2, vl3, vl4, vl5, vl6] (r.toList ++ []) M1 Q)) : rn_WP 167 0 [rn_R 466, rn_I xl1, vl2, vl3, vl4, vl5, vl6] [] M Q := by
  refine (rn_step (e := (.iload_n 1, 1, 1, 0, 0, 0, 0, [])) rfl).mpr ?_
  refine (rn_step (e := (.iconst 1, 2, 0, 0, 0, 0, 0, [])) rfl).mpr ?_
  refine (rn_step (e := (.iconst 5, 3, 0, 0, 0, 0, 0, [])) rfl).mpr ?_
  refine (rn_step (e := (.invokestatic 41, 6, 124, 3, 956, 0, 11, [0])) rfl).mpr (rc_Mo_in  ?_)
  refine (rn_step (e := (.ifCond .ne 5, 9, 11, 0, 0, 0, 0, [])) rfl).mpr (And.intro (fun q => ?_) (fun q => ?_))
  · have c1 := rn_b0 q
    refine (rn_step (e := (.iconst (-1), 10, 0, 0, 0, 0, 0, [])) rfl).mpr ?_
    exact (rn_step (e := (.ireturn, 11, 0, 0, 0, 0, 0, [])) rfl).mpr (And.intro (trivial) ((k1 c1)))
  · have c1 := rn_b1 q
    refine (rn_step (e := (.aload_n 0, 12, 0, 0, 0, 0, 0, [])) rfl).mpr ?_
    exact (rn_step (e := (.invokevirtual 70, 15, 125, 1, 968, 0, 11, [0])) rfl).mpr (And.intro ((rn_ks466 (M := M) hM)) ((k2 c1)))
set_option maxRecDepth 4000 in
theorem rb_Mo_place_15 {M : rn_M} {Q : rn_Q} {vl1 : rn_V} {vl2 : rn_V} {vl3 : rn_V} {vl4 : rn_V} {vl5 : rn_V} {vl6 : rn_V} (hM : rn_sh M)   (k1 : rn_WP 167 25 [rn_R 466, vl1, rn_I 9, vl3, vl4, vl5, vl6] [] (rn_si M 467 2 0) Q) : rn_WP 167 15 [rn_R 466, vl1, vl2, vl3, vl4, vl5, vl6] [] M Q := by
  refine (rn_step (e := (.aload_n 0, 16, 0, 0, 0, 0, 0, [])) rfl).mpr ?_
  refine (rn_step (e := (.getfield 7, 19, 10, 0, 902, 2, 11, [])) rfl).mpr (And.intro ((rn_ks466 (M := M) hM)) (rn_cg (rn_g466_0 (M := M) hM) ?_))
  refine (rn_step (e := (.iconst 2, 20, 0, 0, 0, 0, 0, [])) rfl).mpr ?_
  refine (rn_step (e := (.iconst 0, 21, 0, 0, 0, 0, 0, [])) rfl).mpr ?_
  refine (rn_step (e := (.iastore, 22, 0, 0, 0, 0, 0, [])) rfl).mpr (And.intro ((rn_w467 (M := M) hM).1) (And.intro ((And.intro ((by decide)) (rn_lt (rn_w467 (M := M) hM).2 (by decide)))) (?_)))
  refine (rn_step (e := (.bipush 9, 24, 0, 0, 0, 0, 0, [])) rfl).mpr ?_
  refine (rn_step (e := (.istore_n 2, 25, 2, 0, 0, 0, 0, [])) rfl).mpr ?_
  exact k1
set_option maxRecDepth 4000 in
theorem rb_Mo_place_25 {M : rn_M} {Q : rn_Q} {vl1 : rn_V} {xl2 : Int} {vl3 : rn_V} {vl4 : rn_V} {vl5 : rn_V} {vl6 : rn_V} (hM : rn_sh M)   (k1 : (xl2 ≤ 0) → Q (some (rn_I (rn_gi M 467 2))) M) (k2 : (¬ (xl2 ≤ 0)) → rn_WP 167 31 [rn_R 466, vl1, rn_I xl2, rn_I 0, vl4, vl5, vl6] [] M Q) : rn_WP 167 25 [rn_R 466, vl1, rn_I xl2, vl3, vl4, vl5, vl6] [] M Q := by
  refine (rn_step (e := (.iload_n 2, 26, 2, 0, 0, 0, 0, [])) rfl).mpr ?_
  refine (rn_step (e := (.ifCond .le 108, 29, 134, 0, 0, 0, 0, [])) rfl).mpr (And.intro (fun c1 => ?_) (fun c1 => ?_))
  ·
    refine (rn_step (e := (.aload_n 0, 135, 0, 0, 0, 0, 0, [])) rfl).mpr ?_
    refine (rn_step (e := (.getfield 7, 138, 10, 0, 902, 2, 11, [])) rfl).mpr (And.intro ((rn_ks466 (M := M) hM)) (rn_cg (rn_g466_0 (M := M) hM) ?_))
    refine (rn_step (e := (.iconst 2, 139, 0, 0, 0, 0, 0, [])) rfl).mpr ?_
    refine (rn_step (e := (.iaload, 140, 0, 0, 0, 0, 0, [])) rfl).mpr (And.intro (Or.inl (rn_w467 (M := M) hM).1) (And.intro ((And.intro ((by decide)) (rn_lt (rn_w467 (M := M) hM).2 (by decide)))) (?_)))
    exact (rn_step (e := (.ireturn, 141, 0, 0, 0, 0, 0, [])) rfl).mpr (And.intro (trivial) ((k1 c1)))
  ·
    refine (rn_step (e := (.iconst 0, 30, 0, 0, 0, 0, 0, [])) rfl).mpr ?_
    refine (rn_step (e := (.istore_n 3, 31, 3, 0, 0, 0, 0, [])) rfl).mpr ?_
    exact (k2 c1)
set_option maxRecDepth 4000 in
theorem rb_Mo_place_31 {M : rn_M} {Q : rn_Q} {xl1 : Int} {xl2 : Int} {xl3 : Int} {vl4 : rn_V} {vl5 : rn_V} {vl6 : rn_V} (hM : rn_sh M)   (hr1 : (xl3 < rn_gi M 467 0) → ((0 : Int) ≤ xl3 ∧ (xl3 : Int) ≤ 5) ∧ ((0 : Int) ≤ 1 ∧ (1 : Int) ≤ 77)) (hr2 : (¬ (xl3 < rn_gi M 467 0)) → (-2147483648 : Int) ≤ xl2 + (-1) ∧ xl2 + (-1) ≤ 2147483647) (k1 : (xl3 < rn_gi M 467 0) → (rn_o (rn_gi M 467) xl3 1 = xl2) → rn_WP 167 58 [rn_R 466, rn_I xl1, rn_I xl2, rn_I xl3, rn_I xl1, vl5, vl6] [] M Q) (k2 : (xl3 < rn_gi M 467 0) → (¬ (rn_o (rn_gi M 467) xl3 1 = xl2)) → rn_WP 167 58 [rn_R 466, rn_I xl1, rn_I xl2, rn_I xl3, rn_I 0, vl5, vl6] [] M Q) (k3 : (¬ (xl3 < rn_gi M 467 0)) → rn_WP 167 25 [rn_R 466, rn_I xl1, rn_I (xl2 + (-1)), rn_I xl3, vl4, vl5, vl6] [] M Q) : rn_WP 167 31 [rn_R 466, rn_I xl1, rn_I xl2, rn_I xl3, vl4, vl5, vl6] [] M Q := by
  refine (rn_step (e := (.iload_n 3, 32, 3, 0, 0, 0, 0, [])) rfl).mpr ?_
  refine (rn_step (e := (.aload_n 0, 33, 0, 0, 0, 0, 0, [])) rfl).mpr ?_
  refine (rn_step (e := (.getfield 7, 36, 10, 0, 902, 2, 11, [])) rfl).mpr (And.intro ((rn_ks466 (M := M) hM)) (rn_cg (rn_g466_0 (M := M) hM) ?_))
  refine (rn_step (e := (.iconst 0, 37, 0, 0, 0, 0, 0, [])) rfl).mpr ?_
  refine (rn_step (e := (.iaload, 38, 0, 0, 0, 0, 0, [])) rfl).mpr (And.intro (Or.inl (rn_w467 (M := M) hM).1) (And.intro ((And.intro ((by decide)) (rn_lt (rn_w467 (M := M) hM).2 (by decide)))) (?_)))
  refine (rn_step (e := (.if_icmp .ge 90, 41, 128, 0, 0, 0, 0, [])) rfl).mpr (And.intro (fun c1 => ?_) (fun c1 => ?_))
  ·
    refine (rn_step (e := (.aload_n 0, 42, 0, 0, 0, 0, 0, [])) rfl).mpr ?_
    refine (rn_step (e := (.iload_n 3, 43, 3, 0, 0, 0, 0, [])) rfl).mpr ?_
    refine (rn_step (e := (.iconst 1, 44, 0, 0, 0, 0, 0, [])) rfl).mpr ?_
    refine (rn_step (e := (.invokevirtual 49, 47, 129, 3, 1002, 0, 11, [0])) rfl).mpr (And.intro ((rn_ks466 (M := M) hM)) ((rc_Mo_of hM ((hr1 c1).1) ((hr1 c1).2) ?_)))
    refine (rn_step (e := (.iload_n 2, 48, 2, 0, 0, 0, 0, [])) rfl).mpr ?_
    refine (rn_step (e := (.if_icmp .ne 7, 51, 55, 0, 0, 0, 0, [])) rfl).mpr (And.intro (fun c2 => ?_) (fun c2 => ?_))
    ·
      refine (rn_step (e := (.iload_n 1, 52, 1, 0, 0, 0, 0, [])) rfl).mpr ?_
      refine (rn_step (e := (.goto 4, 55, 56, 0, 0, 0, 0, [])) rfl).mpr ?_
      refine (rn_step (e := (.istore 4, 58, 4, 0, 0, 0, 0, [])) rfl).mpr ?_
      exact (k1 c1 c2)
    ·
      refine (rn_step (e := (.iconst 0, 56, 0, 0, 0, 0, 0, [])) rfl).mpr ?_
      refine (rn_step (e := (.istore 4, 58, 4, 0, 0, 0, 0, [])) rfl).mpr ?_
      exact (k2 c1 c2)
  ·
    refine (rn_step (e := (.iinc 2 (-1), 131, 2, 0, 0, 0, 0, [])) rfl).mpr (rn_ci (hr2 c1).1 (hr2 c1).2 ?_)
    refine (rn_step (e := (.goto (-106), 134, 25, 0, 0, 0, 0, [])) rfl).mpr ?_
    exact (k3 c1)
set_option maxRecDepth 4000 in
theorem rb_Mo_place_58 {M : rn_M} {Q : rn_Q} {vl1 : rn_V} {vl2 : rn_V} {xl3 : Int} {xl4 : Int} {vl5 : rn_V} {vl6 : rn_V} (hM : rn_sh M)   (hr1 : (xl4 ≤ 0) → (-2147483648 : Int) ≤ xl3 + 1 ∧ xl3 + 1 ≤ 2147483647) (hr2 : (¬ (xl4 ≤ 0)) → (¬ (rn_gi M 467 2 < 20)) → (-2147483648 : Int) ≤ xl3 + 1 ∧ xl3 + 1 ≤ 2147483647) (k1 : (xl4 ≤ 0) → rn_WP 167 31 [rn_R 466, vl1, vl2, rn_I (xl3 + 1), rn_I xl4, vl5, vl6] [] M Q) (k2 : (¬ (xl4 ≤ 0)) → (rn_gi M 467 2 < 20) → rn_ME 160 [rn_R 466, rn_I xl3] M (fun r M1 => rn_WP 167 79 [rn_R 466, vl1, vl2, rn_I xl3, rn_I xl4, vl5, vl6] (r.toList ++ []) M1 Q)) (k3 : (¬ (xl4 ≤ 0)) → (¬ (rn_gi M 467 2 < 20)) → rn_WP 167 31 [rn_R 466, vl1, vl2, rn_I (xl3 + 1), rn_I xl4, vl5, vl6] [] M Q) : rn_WP 167 58 [rn_R 466, vl1, vl2, rn_I xl3, rn_I xl4, vl5, vl6] [] M Q := by
  refine (rn_step (e := (.iload 4, 60, 4, 0, 0, 0, 0, [])) rfl).mpr ?_
  refine (rn_step (e := (.ifCond .le 62, 63, 122, 0, 0, 0, 0, [])) rfl).mpr (And.intro (fun c1 => ?_) (fun c1 => ?_))
  ·
    refine (rn_step (e := (.iinc 3 1, 125, 3, 0, 0, 0, 0, [])) rfl).mpr (rn_ci (hr1 c1).1 (hr1 c1).2 ?_)
    refine (rn_step (e := (.goto (-94), 128, 31, 0, 0, 0, 0, [])) rfl).mpr ?_
    exact (k1 c1)
  ·
    refine (rn_step (e := (.aload_n 0, 64, 0, 0, 0, 0, 0, [])) rfl).mpr ?_
    refine (rn_step (e := (.getfield 7, 67, 10, 0, 902, 2, 11, [])) rfl).mpr (And.intro ((rn_ks466 (M := M) hM)) (rn_cg (rn_g466_0 (M := M) hM) ?_))
    refine (rn_step (e := (.iconst 2, 68, 0, 0, 0, 0, 0, [])) rfl).mpr ?_
    refine (rn_step (e := (.iaload, 69, 0, 0, 0, 0, 0, [])) rfl).mpr (And.intro (Or.inl (rn_w467 (M := M) hM).1) (And.intro ((And.intro ((by decide)) (rn_lt (rn_w467 (M := M) hM).2 (by decide)))) (?_)))
    refine (rn_step (e := (.bipush 20, 71, 0, 0, 0, 0, 0, [])) rfl).mpr ?_
    refine (rn_step (e := (.if_icmp .ge 51, 74, 122, 0, 0, 0, 0, [])) rfl).mpr (And.intro (fun c2 => ?_) (fun c2 => ?_))
    ·
      refine (rn_step (e := (.aload_n 0, 75, 0, 0, 0, 0, 0, [])) rfl).mpr ?_
      refine (rn_step (e := (.iload_n 3, 76, 3, 0, 0, 0, 0, [])) rfl).mpr ?_
      exact (rn_step (e := (.invokevirtual 145, 79, 160, 2, 1091, 0, 11, [0])) rfl).mpr (And.intro ((rn_ks466 (M := M) hM)) ((k2 c1 c2)))
    ·
      refine (rn_step (e := (.iinc 3 1, 125, 3, 0, 0, 0, 0, [])) rfl).mpr (rn_ci (hr2 c1 c2).1 (hr2 c1 c2).2 ?_)
      refine (rn_step (e := (.goto (-94), 128, 31, 0, 0, 0, 0, [])) rfl).mpr ?_
      exact (k3 c1 c2)
set_option maxRecDepth 4000 in
theorem rb_Mo_place_79 {M : rn_M} {Q : rn_Q} {vl1 : rn_V} {vl2 : rn_V} {xl3 : Int} {xl4 : Int} {vl5 : rn_V} {vl6 : rn_V} {xs0 : Int} (hM : rn_sh M)   (hr1 : (¬ (xs0 = (-9))) → (-2147483648 : Int) ≤ xl4 - 1 ∧ xl4 - 1 ≤ 2147483647) (k1 : (xs0 = (-9)) → (xs0 = (-9)) → rn_WP 167 58 [rn_R 466, vl1, vl2, rn_I xl3, rn_I 0, rn_I xs0, rn_I (-9)] [] M Q) (k2 : (xs0 = (-9)) → (¬ (xs0 = (-9))) → rn_ME 162 [rn_R 466, rn_I xl3, rn_I xs0] M (fun r M1 => rn_WP 167 117 [rn_R 466, vl1, vl2, rn_I xl3, rn_I 0, rn_I xs0, vl6] (r.toList ++ []) M1 Q)) (k3 : (¬ (xs0 = (-9))) → (xs0 = (-9)) → rn_WP 167 58 [rn_R 466, vl1, vl2, rn_I xl3, rn_I (xl4 - 1), rn_I xs0, rn_I (-9)] [] M Q) (k4 : (¬ (xs0 = (-9))) → (¬ (xs0 = (-9))) → rn_ME 162 [rn_R 466, rn_I xl3, rn_I xs0] M (fun r M1 => rn_WP 167 117 [rn_R 466, vl1, vl2, rn_I xl3, rn_I (xl4 - 1), rn_I xs0, vl6] (r.toList ++ []) M1 Q)) : rn_WP 167 79 [rn_R 466, vl1, vl2, rn_I xl3, rn_I xl4, vl5, vl6] [rn_I xs0] M Q := by
  refine (rn_step (e := (.istore 5, 81, 5, 0, 0, 0, 0, [])) rfl).mpr ?_
  refine (rn_step (e := (.iload 5, 83, 5, 0, 0, 0, 0, [])) rfl).mpr ?_
  refine (rn_step (e := (.bipush (-9), 85, 0, 0, 0, 0, 0, [])) rfl).mpr ?_
  refine (rn_step (e := (.if_icmp .ne 7, 88, 92, 0, 0, 0, 0, [])) rfl).mpr (And.intro (fun c1 => ?_) (fun c1 => ?_))
  ·
    refine (rn_step (e := (.iconst 0, 89, 0, 0, 0, 0, 0, [])) rfl).mpr ?_
    refine (rn_step (e := (.goto 7, 92, 96, 0, 0, 0, 0, [])) rfl).mpr ?_
    refine (rn_step (e := (.istore 4, 98, 4, 0, 0, 0, 0, [])) rfl).mpr ?_
    refine (rn_step (e := (.iload 5, 100, 5, 0, 0, 0, 0, [])) rfl).mpr ?_
    refine (rn_step (e := (.bipush (-9), 102, 0, 0, 0, 0, 0, [])) rfl).mpr ?_
    refine (rn_step (e := (.if_icmp .ne 8, 105, 110, 0, 0, 0, 0, [])) rfl).mpr (And.intro (fun c2 => ?_) (fun c2 => ?_))
    ·
      refine (rn_step (e := (.bipush (-9), 107, 0, 0, 0, 0, 0, [])) rfl).mpr ?_
      refine (rn_step (e := (.goto 10, 110, 117, 0, 0, 0, 0, [])) rfl).mpr ?_
      refine (rn_step (e := (.istore 6, 119, 6, 0, 0, 0, 0, [])) rfl).mpr ?_
      refine (rn_step (e := (.goto (-61), 122, 58, 0, 0, 0, 0, [])) rfl).mpr ?_
      exact (k1 c1 c2)
    ·
      refine (rn_step (e := (.aload_n 0, 111, 0, 0, 0, 0, 0, [])) rfl).mpr ?_
      refine (rn_step (e := (.iload_n 3, 112, 3, 0, 0, 0, 0, [])) rfl).mpr ?_
      refine (rn_step (e := (.iload 5, 114, 5, 0, 0, 0, 0, [])) rfl).mpr ?_
      exact (rn_step (e := (.invokevirtual 136, 117, 162, 3, 1071, 0, 11, [0])) rfl).mpr (And.intro ((rn_ks466 (M := M) hM)) ((k2 c1 c2)))
  ·
    refine (rn_step (e := (.iload 4, 94, 4, 0, 0, 0, 0, [])) rfl).mpr ?_
    refine (rn_step (e := (.iconst 1, 95, 0, 0, 0, 0, 0, [])) rfl).mpr ?_
    refine (rn_step (e := (.isub, 96, 0, 0, 0, 0, 0, [])) rfl).mpr (rn_cw (hr1 c1).1 (hr1 c1).2 ?_)
    refine (rn_step (e := (.istore 4, 98, 4, 0, 0, 0, 0, [])) rfl).mpr ?_
    refine (rn_step (e := (.iload 5, 100, 5, 0, 0, 0, 0, [])) rfl).mpr ?_
    refine (rn_step (e := (.bipush (-9), 102, 0, 0, 0, 0, 0, [])) rfl).mpr ?_
    refine (rn_step (e := (.if_icmp .ne 8, 105, 110, 0, 0, 0, 0, [])) rfl).mpr (And.intro (fun c2 => ?_) (fun c2 => ?_))
    ·
      refine (rn_step (e := (.bipush (-9), 107, 0, 0, 0, 0, 0, [])) rfl).mpr ?_
      refine (rn_step (e := (.goto 10, 110, 117, 0, 0, 0, 0, [])) rfl).mpr ?_
      refine (rn_step (e := (.istore 6, 119, 6, 0, 0, 0, 0, [])) rfl).mpr ?_
      refine (rn_step (e := (.goto (-61), 122, 58, 0, 0, 0, 0, [])) rfl).mpr ?_
      exact (k3 c1 c2)
    ·
      refine (rn_step (e := (.aload_n 0, 111, 0, 0, 0, 0, 0, [])) rfl).mpr ?_
      refine (rn_step (e := (.iload_n 3, 112, 3, 0, 0, 0, 0, [])) rfl).mpr ?_
      refine (rn_step (e := (.iload 5, 114, 5, 0, 0, 0, 0, [])) rfl).mpr ?_
      exact (rn_step (e := (.invokevirtual 136, 117, 162, 3, 1071, 0, 11, [0])) rfl).mpr (And.intro ((rn_ks466 (M := M) hM)) ((k4 c1 c2)))
set_option maxRecDepth 4000 in
theorem rb_Mo_place_117 {M : rn_M} {Q : rn_Q} {vl0 : rn_V} {vl1 : rn_V} {vl2 : rn_V} {vl3 : rn_V} {vl4 : rn_V} {vl5 : rn_V} {vl6 : rn_V} {xs0 : Int}   (k1 : rn_WP 167 58 [vl0, vl1, vl2, vl3, vl4, vl5, rn_I xs0] [] M Q) : rn_WP 167 117 [vl0, vl1, vl2, vl3, vl4, vl5, vl6] [rn_I xs0] M Q := by
  refine (rn_step (e := (.istore 6, 119, 6, 0, 0, 0, 0, [])) rfl).mpr ?_
  refine (rn_step (e := (.goto (-61), 122, 58, 0, 0, 0, 0, [])) rfl).mpr ?_
  exact k1
theorem re_Mo_tidy {M : rn_M} {Q : rn_Q} {v0 : rn_V} (h : rn_WP 168 0 [v0, rn_J, rn_J] [] M Q) : rn_ME 168 [v0] M Q := h
set_option maxRecDepth 4000 in
theorem rb_Mo_tidy_0 {M : rn_M} {Q : rn_Q} {vl1 : rn_V} {vl2 : rn_V} (hM : rn_sh M)   (k1 : rn_ME 125 [rn_R 466] M (fun r M1 => rn_WP 168 4 [rn_R 466, vl1, vl2] (r.toList ++ []) M1 Q)) : rn_WP 168 0 [rn_R 466, vl1, vl2] [] M Q := by
  refine (rn_step (e := (.aload_n 0, 1, 0, 0, 0, 0, 0, [])) rfl).mpr ?_
  exact (rn_step (e := (.invokevirtual 70, 4, 125, 1, 968, 0, 11, [0])) rfl).mpr (And.intro ((rn_ks466 (M := M) hM)) (k1))
set_option maxRecDepth 4000 in
theorem rb_Mo_tidy_4 {M : rn_M} {Q : rn_Q} {vl1 : rn_V} {vl2 : rn_V} (hM : rn_sh M)   (k1 : rn_WP 168 13 [rn_R 466, rn_I (rn_gi M 467 2), rn_I 0] [] M Q) : rn_WP 168 4 [rn_R 466, vl1, vl2] [] M Q := by
  refine (rn_step (e := (.aload_n 0, 5, 0, 0, 0, 0, 0, [])) rfl).mpr ?_
  refine (rn_step (e := (.getfield 7, 8, 10, 0, 902, 2, 11, [])) rfl).mpr (And.intro ((rn_ks466 (M := M) hM)) (rn_cg (rn_g466_0 (M := M) hM) ?_))
  refine (rn_step (e := (.iconst 2, 9, 0, 0, 0, 0, 0, [])) rfl).mpr ?_
  refine (rn_step (e := (.iaload, 10, 0, 0, 0, 0, 0, [])) rfl).mpr (And.intro (Or.inl (rn_w467 (M := M) hM).1) (And.intro ((And.intro ((by decide)) (rn_lt (rn_w467 (M := M) hM).2 (by decide)))) (?_)))
  refine (rn_step (e := (.istore_n 1, 11, 1, 0, 0, 0, 0, [])) rfl).mpr ?_
  refine (rn_step (e := (.iconst 0, 12, 0, 0, 0, 0, 0, [])) rfl).mpr ?_
  refine (rn_step (e := (.istore_n 2, 13, 2, 0, 0, 0, 0, [])) rfl).mpr ?_
  exact k1
set_option maxRecDepth 4000 in
theorem rb_Mo_tidy_13 {M : rn_M} {Q : rn_Q} {xl1 : Int} {xl2 : Int} (hM : rn_sh M)   (hr1 : (¬ (xl2 < rn_gi M 467 2)) → (-2147483648 : Int) ≤ xl1 - (rn_gi M 467 2) ∧ xl1 - (rn_gi M 467 2) ≤ 2147483647) (k1 : (xl2 < rn_gi M 467 2) → rn_ME 159 [rn_R 466, rn_I xl2] M (fun r M1 => rn_WP 168 28 [rn_R 466, rn_I xl1, rn_I xl2] (r.toList ++ []) M1 Q)) (k2 : (¬ (xl2 < rn_gi M 467 2)) → Q (some (rn_I (xl1 - (rn_gi M 467 2)))) M) : rn_WP 168 13 [rn_R 466, rn_I xl1, rn_I xl2] [] M Q := by
  refine (rn_step (e := (.iload_n 2, 14, 2, 0, 0, 0, 0, [])) rfl).mpr ?_
  refine (rn_step (e := (.aload_n 0, 15, 0, 0, 0, 0, 0, [])) rfl).mpr ?_
  refine (rn_step (e := (.getfield 7, 18, 10, 0, 902, 2, 11, [])) rfl).mpr (And.intro ((rn_ks466 (M := M) hM)) (rn_cg (rn_g466_0 (M := M) hM) ?_))
  refine (rn_step (e := (.iconst 2, 19, 0, 0, 0, 0, 0, [])) rfl).mpr ?_
  refine (rn_step (e := (.iaload, 20, 0, 0, 0, 0, 0, [])) rfl).mpr (And.intro (Or.inl (rn_w467 (M := M) hM).1) (And.intro ((And.intro ((by decide)) (rn_lt (rn_w467 (M := M) hM).2 (by decide)))) (?_)))
  refine (rn_step (e := (.if_icmp .ge 25, 23, 45, 0, 0, 0, 0, [])) rfl).mpr (And.intro (fun c1 => ?_) (fun c1 => ?_))
  ·
    refine (rn_step (e := (.aload_n 0, 24, 0, 0, 0, 0, 0, [])) rfl).mpr ?_
    refine (rn_step (e := (.iload_n 2, 25, 2, 0, 0, 0, 0, [])) rfl).mpr ?_
    exact (rn_step (e := (.invokevirtual 148, 28, 159, 2, 1110, 0, 11, [0])) rfl).mpr (And.intro ((rn_ks466 (M := M) hM)) ((k1 c1)))
  ·
    refine (rn_step (e := (.iload_n 1, 46, 1, 0, 0, 0, 0, [])) rfl).mpr ?_
    refine (rn_step (e := (.aload_n 0, 47, 0, 0, 0, 0, 0, [])) rfl).mpr ?_
    refine (rn_step (e := (.getfield 7, 50, 10, 0, 902, 2, 11, [])) rfl).mpr (And.intro ((rn_ks466 (M := M) hM)) (rn_cg (rn_g466_0 (M := M) hM) ?_))
    refine (rn_step (e := (.iconst 2, 51, 0, 0, 0, 0, 0, [])) rfl).mpr ?_
    refine (rn_step (e := (.iaload, 52, 0, 0, 0, 0, 0, [])) rfl).mpr (And.intro (Or.inl (rn_w467 (M := M) hM).1) (And.intro ((And.intro ((by decide)) (rn_lt (rn_w467 (M := M) hM).2 (by decide)))) (?_)))
    refine (rn_step (e := (.isub, 53, 0, 0, 0, 0, 0, [])) rfl).mpr (rn_cw (hr1 c1).1 (hr1 c1).2 ?_)
    exact (rn_step (e := (.ireturn, 54, 0, 0, 0, 0, 0, [])) rfl).mpr (And.intro (trivial) ((k2 c1)))
set_option maxRecDepth 4000 in
theorem rb_Mo_tidy_28 {M : rn_M} {Q : rn_Q} {vl1 : rn_V} {xl2 : Int} {xs0 : Int} (hM : rn_sh M)   (hr1 : (xs0 = 0) → (-2147483648 : Int) ≤ xl2 + 1 ∧ xl2 + 1 ≤ 2147483647) (k1 : (xs0 = 0) → rn_WP 168 13 [rn_R 466, vl1, rn_I (xl2 + 1)] [] M Q) (k2 : (¬ (xs0 = 0)) → rn_ME 165 [rn_R 466, rn_I xl2] M (fun r M1 => rn_WP 168 36 [rn_R 466, vl1, rn_I xl2] (r.toList ++ []) M1 Q)) : rn_WP 168 28 [rn_R 466, vl1, rn_I xl2] [rn_I xs0] M Q := by
  refine (rn_step (e := (.ifCond .eq 11, 31, 39, 0, 0, 0, 0, [])) rfl).mpr (And.intro (fun c1 => ?_) (fun c1 => ?_))
  ·
    refine (rn_step (e := (.iinc 2 1, 42, 2, 0, 0, 0, 0, [])) rfl).mpr (rn_ci (hr1 c1).1 (hr1 c1).2 ?_)
    refine (rn_step (e := (.goto (-29), 45, 13, 0, 0, 0, 0, [])) rfl).mpr ?_
    exact (k1 c1)
  ·
    refine (rn_step (e := (.aload_n 0, 32, 0, 0, 0, 0, 0, [])) rfl).mpr ?_
    refine (rn_step (e := (.iload_n 2, 33, 2, 0, 0, 0, 0, [])) rfl).mpr ?_
    exact (rn_step (e := (.invokevirtual 142, 36, 165, 2, 1083, 0, 11, [0])) rfl).mpr (And.intro ((rn_ks466 (M := M) hM)) ((k2 c1)))
set_option maxRecDepth 4000 in
theorem rb_Mo_tidy_36 {M : rn_M} {Q : rn_Q} {vl0 : rn_V} {vl1 : rn_V} {vl2 : rn_V}   (k1 : rn_WP 168 13 [vl0, vl1, vl2] [] M Q) : rn_WP 168 36 [vl0, vl1, vl2] [] M Q := by
  refine (rn_step (e := (.goto (-23), 39, 13, 0, 0, 0, 0, [])) rfl).mpr ?_
  exact k1
theorem re_Mo_costs {M : rn_M} {Q : rn_Q} {v0 : rn_V} (h : rn_WP 169 0 [v0, rn_J, rn_J] [] M Q) : rn_ME 169 [v0] M Q := h
set_option maxRecDepth 4000 in
theorem rb_Mo_costs_0 {M : rn_M} {Q : rn_Q} {vl0 : rn_V} {vl1 : rn_V} {vl2 : rn_V}   (k1 : rn_WP 169 4 [vl0, rn_I 0, rn_I 0] [] M Q) : rn_WP 169 0 [vl0, vl1, vl2] [] M Q := by
  refine (rn_step (e := (.iconst 0, 1, 0, 0, 0, 0, 0, [])) rfl).mpr ?_
  refine (rn_step (e := (.istore_n 1, 2, 1, 0, 0, 0, 0, [])) rfl).mpr ?_
  refine (rn_step (e := (.iconst 0, 3, 0, 0, 0, 0, 0, [])) rfl).mpr ?_
  refine (rn_step (e := (.istore_n 2, 4, 2, 0, 0, 0, 0, [])) rfl).mpr ?_
  exact k1
set_option maxRecDepth 4000 in
theorem rb_Mo_costs_4 {M : rn_M} {Q : rn_Q} {xl1 : Int} {xl2 : Int} (hM : rn_sh M)   (hr1 : (xl2 < rn_gi M 467 2) → (-2147483648 : Int) ≤ 2 * xl2 ∧ 2 * xl2 ≤ 2147483647 ∧ (-2147483648 : Int) ≤ 522 + (2 * xl2) ∧ 522 + (2 * xl2) ≤ 2147483647 ∧ (0 : Int) ≤ 522 + (2 * xl2) ∧ 522 + (2 * xl2) < (562 : Int) ∧ (-2147483648 : Int) ≤ (522 + (2 * xl2)) + 1 ∧ (522 + (2 * xl2)) + 1 ≤ 2147483647 ∧ (0 : Int) ≤ (522 + (2 * xl2)) + 1 ∧ (522 + (2 * xl2)) + 1 < (562 : Int)) (k1 : (xl2 < rn_gi M 467 2) → rn_ME 152 [rn_R 466, rn_I (rn_gi M 467 (522 + (2 * xl2)).toNat), rn_I (rn_gi M 467 ((522 + (2 * xl2)) + 1).toNat)] M (fun r M1 => rn_WP 169 45 [rn_R 466, rn_I xl1, rn_I xl2] (r.toList ++ [rn_I xl1]) M1 Q)) (k2 : (¬ (xl2 < rn_gi M 467 2)) → Q (some (rn_I xl1)) M) : rn_WP 169 4 [rn_R 466, rn_I xl1, rn_I xl2] [] M Q := by
  refine (rn_step (e := (.iload_n 2, 5, 2, 0, 0, 0, 0, [])) rfl).mpr ?_
  refine (rn_step (e := (.aload_n 0, 6, 0, 0, 0, 0, 0, [])) rfl).mpr ?_
  refine (rn_step (e := (.getfield 7, 9, 10, 0, 902, 2, 11, [])) rfl).mpr (And.intro ((rn_ks466 (M := M) hM)) (rn_cg (rn_g466_0 (M := M) hM) ?_))
  refine (rn_step (e := (.iconst 2, 10, 0, 0, 0, 0, 0, [])) rfl).mpr ?_
  refine (rn_step (e := (.iaload, 11, 0, 0, 0, 0, 0, [])) rfl).mpr (And.intro (Or.inl (rn_w467 (M := M) hM).1) (And.intro ((And.intro ((by decide)) (rn_lt (rn_w467 (M := M) hM).2 (by decide)))) (?_)))
  refine (rn_step (e := (.if_icmp .ge 42, 14, 53, 0, 0, 0, 0, [])) rfl).mpr (And.intro (fun c1 => ?_) (fun c1 => ?_))
  ·
    refine (rn_step (e := (.iload_n 1, 15, 1, 0, 0, 0, 0, [])) rfl).mpr ?_
    refine (rn_step (e := (.aload_n 0, 16, 0, 0, 0, 0, 0, [])) rfl).mpr ?_
    refine (rn_step (e := (.aload_n 0, 17, 0, 0, 0, 0, 0, [])) rfl).mpr ?_
    refine (rn_step (e := (.getfield 7, 20, 10, 0, 902, 2, 11, [])) rfl).mpr (And.intro ((rn_ks466 (M := M) hM)) (rn_cg (rn_g466_0 (M := M) hM) ?_))
    refine (rn_step (e := (.sipush 522, 23, 0, 0, 0, 0, 0, [])) rfl).mpr ?_
    refine (rn_step (e := (.iconst 2, 24, 0, 0, 0, 0, 0, [])) rfl).mpr ?_
    refine (rn_step (e := (.iload_n 2, 25, 2, 0, 0, 0, 0, [])) rfl).mpr ?_
    refine (rn_step (e := (.imul, 26, 0, 0, 0, 0, 0, [])) rfl).mpr (rn_cw (hr1 c1).1 (hr1 c1).2.1 ?_)
    refine (rn_step (e := (.iadd, 27, 0, 0, 0, 0, 0, [])) rfl).mpr (rn_cw (hr1 c1).2.2.1 (hr1 c1).2.2.2.1 ?_)
    refine (rn_step (e := (.iaload, 28, 0, 0, 0, 0, 0, [])) rfl).mpr (And.intro (Or.inl (rn_w467 (M := M) hM).1) (And.intro ((And.intro ((hr1 c1).2.2.2.2.1) (rn_lt (rn_w467 (M := M) hM).2 (hr1 c1).2.2.2.2.2.1))) (?_)))
    refine (rn_step (e := (.aload_n 0, 29, 0, 0, 0, 0, 0, [])) rfl).mpr ?_
    refine (rn_step (e := (.getfield 7, 32, 10, 0, 902, 2, 11, [])) rfl).mpr (And.intro ((rn_ks466 (M := M) hM)) (rn_cg (rn_g466_0 (M := M) hM) ?_))
    refine (rn_step (e := (.sipush 522, 35, 0, 0, 0, 0, 0, [])) rfl).mpr ?_
    refine (rn_step (e := (.iconst 2, 36, 0, 0, 0, 0, 0, [])) rfl).mpr ?_
    refine (rn_step (e := (.iload_n 2, 37, 2, 0, 0, 0, 0, [])) rfl).mpr ?_
    refine (rn_step (e := (.imul, 38, 0, 0, 0, 0, 0, [])) rfl).mpr (rn_cw (hr1 c1).1 (hr1 c1).2.1 ?_)
    refine (rn_step (e := (.iadd, 39, 0, 0, 0, 0, 0, [])) rfl).mpr (rn_cw (hr1 c1).2.2.1 (hr1 c1).2.2.2.1 ?_)
    refine (rn_step (e := (.iconst 1, 40, 0, 0, 0, 0, 0, [])) rfl).mpr ?_
    refine (rn_step (e := (.iadd, 41, 0, 0, 0, 0, 0, [])) rfl).mpr (rn_cw (hr1 c1).2.2.2.2.2.2.1 (hr1 c1).2.2.2.2.2.2.2.1 ?_)
    refine (rn_step (e := (.iaload, 42, 0, 0, 0, 0, 0, [])) rfl).mpr (And.intro (Or.inl (rn_w467 (M := M) hM).1) (And.intro ((And.intro ((hr1 c1).2.2.2.2.2.2.2.2.1) (rn_lt (rn_w467 (M := M) hM).2 (hr1 c1).2.2.2.2.2.2.2.2.2))) (?_)))
    exact (rn_step (e := (.invokevirtual 130, 45, 152, 3, 1095, 0, 11, [0])) rfl).mpr (And.intro ((rn_ks466 (M := M) hM)) ((k1 c1)))
  ·
    refine (rn_step (e := (.iload_n 1, 54, 1, 0, 0, 0, 0, [])) rfl).mpr ?_
    exact (rn_step (e := (.ireturn, 55, 0, 0, 0, 0, 0, [])) rfl).mpr (And.intro (trivial) ((k2 c1)))
set_option maxRecDepth 4000 in
theorem rb_Mo_costs_45 {M : rn_M} {Q : rn_Q} {vl0 : rn_V} {vl1 : rn_V} {xl2 : Int} {xs0 : Int} {xs1 : Int}   (hr1 : (-2147483648 : Int) ≤ xs1 + xs0 ∧ xs1 + xs0 ≤ 2147483647 ∧ (-2147483648 : Int) ≤ xl2 + 1 ∧ xl2 + 1 ≤ 2147483647) (k1 : rn_WP 169 4 [vl0, rn_I (xs1 + xs0), rn_I (xl2 + 1)] [] M Q) : rn_WP 169 45 [vl0, vl1, rn_I xl2] [rn_I xs0, rn_I xs1] M Q := by
  refine (rn_step (e := (.iadd, 46, 0, 0, 0, 0, 0, [])) rfl).mpr (rn_cw hr1.1 hr1.2.1 ?_)
  refine (rn_step (e := (.istore_n 1, 47, 1, 0, 0, 0, 0, [])) rfl).mpr ?_
  refine (rn_step (e := (.iinc 2 1, 50, 2, 0, 0, 0, 0, [])) rfl).mpr (rn_ci hr1.2.2.1 hr1.2.2.2 ?_)
  refine (rn_step (e := (.goto (-46), 53, 4, 0, 0, 0, 0, [])) rfl).mpr ?_
  exact k1
theorem re_Mo_wrong {M : rn_M} {Q : rn_Q} {v0 : rn_V} (h : rn_WP 170 0 [v0, rn_J, rn_J] [] M Q) : rn_ME 170 [v0] M Q := h
set_option maxRecDepth 4000 in
theorem rb_Mo_wrong_0 {M : rn_M} {Q : rn_Q} {vl0 : rn_V} {vl1 : rn_V} {vl2 : rn_V}   (k1 : rn_WP 170 4 [vl0, rn_I 0, rn_I 0] [] M Q) : rn_WP 170 0 [vl0, vl1, vl2] [] M Q := by
  refine (rn_step (e := (.iconst 0, 1, 0, 0, 0, 0, 0, [])) rfl).mpr ?_
  refine (rn_step (e := (.istore_n 1, 2, 1, 0, 0, 0, 0, [])) rfl).mpr ?_
  refine (rn_step (e := (.iconst 0, 3, 0, 0, 0, 0, 0, [])) rfl).mpr ?_
  refine (rn_step (e := (.istore_n 2, 4, 2, 0, 0, 0, 0, [])) rfl).mpr ?_
  exact k1
set_option maxRecDepth 4000 in
theorem rb_Mo_wrong_4 {M : rn_M} {Q : rn_Q} {xl1 : Int} {xl2 : Int} (hM : rn_sh M)   (k1 : (xl2 < rn_gi M 467 2) → rn_ME 159 [rn_R 466, rn_I xl2] M (fun r M1 => rn_WP 170 20 [rn_R 466, rn_I xl1, rn_I xl2] (r.toList ++ [rn_I xl1]) M1 Q)) (k2 : (¬ (xl2 < rn_gi M 467 2)) → Q (some (rn_I xl1)) M) : rn_WP 170 4 [rn_R 466, rn_I xl1, rn_I xl2] [] M Q := by
  refine (rn_step (e := (.iload_n 2, 5, 2, 0, 0, 0, 0, [])) rfl).mpr ?_
  refine (rn_step (e := (.aload_n 0, 6, 0, 0, 0, 0, 0, [])) rfl).mpr ?_
  refine (rn_step (e := (.getfield 7, 9, 10, 0, 902, 2, 11, [])) rfl).mpr (And.intro ((rn_ks466 (M := M) hM)) (rn_cg (rn_g466_0 (M := M) hM) ?_))
  refine (rn_step (e := (.iconst 2, 10, 0, 0, 0, 0, 0, [])) rfl).mpr ?_
  refine (rn_step (e := (.iaload, 11, 0, 0, 0, 0, 0, [])) rfl).mpr (And.intro (Or.inl (rn_w467 (M := M) hM).1) (And.intro ((And.intro ((by decide)) (rn_lt (rn_w467 (M := M) hM).2 (by decide)))) (?_)))
  refine (rn_step (e := (.if_icmp .ge 25, 14, 36, 0, 0, 0, 0, [])) rfl).mpr (And.intro (fun c1 => ?_) (fun c1 => ?_))
  ·
    refine (rn_step (e := (.iload_n 1, 15, 1, 0, 0, 0, 0, [])) rfl).mpr ?_
    refine (rn_step (e := (.aload_n 0, 16, 0, 0, 0, 0, 0, [])) rfl).mpr ?_
    refine (rn_step (e := (.iload_n 2, 17, 2, 0, 0, 0, 0, [])) rfl).mpr ?_
    exact (rn_step (e := (.invokevirtual 148, 20, 159, 2, 1110, 0, 11, [0])) rfl).mpr (And.intro ((rn_ks466 (M := M) hM)) ((k1 c1)))
  ·
    refine (rn_step (e := (.iload_n 1, 37, 1, 0, 0, 0, 0, [])) rfl).mpr ?_
    exact (rn_step (e := (.ireturn, 38, 0, 0, 0, 0, 0, [])) rfl).mpr (And.intro (trivial) ((k2 c1)))
set_option maxRecDepth 4000 in
theorem rb_Mo_wrong_20 {M : rn_M} {Q : rn_Q} {vl0 : rn_V} {vl1 : rn_V} {xl2 : Int} {xs0 : Int} {xs1 : Int}   (hr1 : (xs0 = 0) → (-2147483648 : Int) ≤ xs1 + 0 ∧ xs1 + 0 ≤ 2147483647 ∧ (-2147483648 : Int) ≤ xl2 + 1 ∧ xl2 + 1 ≤ 2147483647) (hr2 : (¬ (xs0 = 0)) → (-2147483648 : Int) ≤ xs1 + 1 ∧ xs1 + 1 ≤ 2147483647 ∧ (-2147483648 : Int) ≤ xl2 + 1 ∧ xl2 + 1 ≤ 2147483647) (k1 : (xs0 = 0) → rn_WP 170 4 [vl0, rn_I (xs1 + 0), rn_I (xl2 + 1)] [] M Q) (k2 : (¬ (xs0 = 0)) → rn_WP 170 4 [vl0, rn_I (xs1 + 1), rn_I (xl2 + 1)] [] M Q) : rn_WP 170 20 [vl0, vl1, rn_I xl2] [rn_I xs0, rn_I xs1] M Q := by
  refine (rn_step (e := (.ifCond .ne 7, 23, 27, 0, 0, 0, 0, [])) rfl).mpr (And.intro (fun c1 => ?_) (fun c1 => ?_))
  ·
    refine (rn_step (e := (.iconst 0, 24, 0, 0, 0, 0, 0, [])) rfl).mpr ?_
    refine (rn_step (e := (.goto 4, 27, 28, 0, 0, 0, 0, [])) rfl).mpr ?_
    refine (rn_step (e := (.iadd, 29, 0, 0, 0, 0, 0, [])) rfl).mpr (rn_cw (hr1 c1).1 (hr1 c1).2.1 ?_)
    refine (rn_step (e := (.istore_n 1, 30, 1, 0, 0, 0, 0, [])) rfl).mpr ?_
    refine (rn_step (e := (.iinc 2 1, 33, 2, 0, 0, 0, 0, [])) rfl).mpr (rn_ci (hr1 c1).2.2.1 (hr1 c1).2.2.2 ?_)
    refine (rn_step (e := (.goto (-29), 36, 4, 0, 0, 0, 0, [])) rfl).mpr ?_
    exact (k1 c1)
  ·
    refine (rn_step (e := (.iconst 1, 28, 0, 0, 0, 0, 0, [])) rfl).mpr ?_
    refine (rn_step (e := (.iadd, 29, 0, 0, 0, 0, 0, [])) rfl).mpr (rn_cw (hr2 c1).1 (hr2 c1).2.1 ?_)
    refine (rn_step (e := (.istore_n 1, 30, 1, 0, 0, 0, 0, [])) rfl).mpr ?_
    refine (rn_step (e := (.iinc 2 1, 33, 2, 0, 0, 0, 0, [])) rfl).mpr (rn_ci (hr2 c1).2.2.1 (hr2 c1).2.2.2 ?_)
    refine (rn_step (e := (.goto (-29), 36, 4, 0, 0, 0, 0, [])) rfl).mpr ?_
    exact (k2 c1)
theorem re_Mo_labelsOf {M : rn_M} {Q : rn_Q} {v0 v1 : rn_V} (h : rn_WP 171 0 [v0, v1, rn_J, rn_J] [] M Q) : rn_ME 171 [v0, v1] M Q := h
set_option maxRecDepth 4000 in
theorem rb_Mo_labelsOf_0 {M : rn_M} {Q : rn_Q} {vl0 : rn_V} {vl1 : rn_V} {vl2 : rn_V} {vl3 : rn_V}   (k1 : rn_WP 171 4 [vl0, vl1, rn_I 0, rn_I 0] [] M Q) : rn_WP 171 0 [vl0, vl1, vl2, vl3] [] M Q := by
  refine (rn_step (e := (.iconst 0, 1, 0, 0, 0, 0, 0, [])) rfl).mpr ?_
  refine (rn_step (e := (.istore_n 2, 2, 2, 0, 0, 0, 0, [])) rfl).mpr ?_
  refine (rn_step (e := (.iconst 0, 3, 0, 0, 0, 0, 0, [])) rfl).mpr ?_
  refine (rn_step (e := (.istore_n 3, 4, 3, 0, 0, 0, 0, [])) rfl).mpr ?_
  exact k1
set_option maxRecDepth 4000 in
theorem rb_Mo_labelsOf_4 {M : rn_M} {Q : rn_Q} {xl1 : Int} {xl2 : Int} {xl3 : Int} (hM : rn_sh M)   (hr1 : (xl3 < rn_gi M 467 2) → (-2147483648 : Int) ≤ 2 * xl3 ∧ 2 * xl3 ≤ 2147483647 ∧ (-2147483648 : Int) ≤ 522 + (2 * xl3) ∧ 522 + (2 * xl3) ≤ 2147483647 ∧ (0 : Int) ≤ 522 + (2 * xl3) ∧ 522 + (2 * xl3) < (562 : Int)) (hr2 : (xl3 < rn_gi M 467 2) → (rn_gi M 467 (522 + (2 * xl3)).toNat = xl1) → (-2147483648 : Int) ≤ xl2 + 1 ∧ xl2 + 1 ≤ 2147483647 ∧ (-2147483648 : Int) ≤ xl3 + 1 ∧ xl3 + 1 ≤ 2147483647) (hr3 : (xl3 < rn_gi M 467 2) → (¬ (rn_gi M 467 (522 + (2 * xl3)).toNat = xl1)) → (-2147483648 : Int) ≤ xl2 + 0 ∧ xl2 + 0 ≤ 2147483647 ∧ (-2147483648 : Int) ≤ xl3 + 1 ∧ xl3 + 1 ≤ 2147483647) (k1 : (xl3 < rn_gi M 467 2) → (rn_gi M 467 (522 + (2 * xl3)).toNat = xl1) → rn_WP 171 4 [rn_R 466, rn_I xl1, rn_I (xl2 + 1), rn_I (xl3 + 1)] [] M Q) (k2 : (xl3 < rn_gi M 467 2) → (¬ (rn_gi M 467 (522 + (2 * xl3)).toNat = xl1)) → rn_WP 171 4 [rn_R 466, rn_I xl1, rn_I (xl2 + 0), rn_I (xl3 + 1)] [] M Q) (k3 : (¬ (xl3 < rn_gi M 467 2)) → Q (some (rn_I xl2)) M) : rn_WP 171 4 [rn_R 466, rn_I xl1, rn_I xl2, rn_I xl3] [] M Q := by
  refine (rn_step (e := (.iload_n 3, 5, 3, 0, 0, 0, 0, [])) rfl).mpr ?_
  refine (rn_step (e := (.aload_n 0, 6, 0, 0, 0, 0, 0, [])) rfl).mpr ?_
  refine (rn_step (e := (.getfield 7, 9, 10, 0, 902, 2, 11, [])) rfl).mpr (And.intro ((rn_ks466 (M := M) hM)) (rn_cg (rn_g466_0 (M := M) hM) ?_))
  refine (rn_step (e := (.iconst 2, 10, 0, 0, 0, 0, 0, [])) rfl).mpr ?_
  refine (rn_step (e := (.iaload, 11, 0, 0, 0, 0, 0, [])) rfl).mpr (And.intro (Or.inl (rn_w467 (M := M) hM).1) (And.intro ((And.intro ((by decide)) (rn_lt (rn_w467 (M := M) hM).2 (by decide)))) (?_)))
  refine (rn_step (e := (.if_icmp .ge 33, 14, 44, 0, 0, 0, 0, [])) rfl).mpr (And.intro (fun c1 => ?_) (fun c1 => ?_))
  ·
    refine (rn_step (e := (.iload_n 2, 15, 2, 0, 0, 0, 0, [])) rfl).mpr ?_
    refine (rn_step (e := (.aload_n 0, 16, 0, 0, 0, 0, 0, [])) rfl).mpr ?_
    refine (rn_step (e := (.getfield 7, 19, 10, 0, 902, 2, 11, [])) rfl).mpr (And.intro ((rn_ks466 (M := M) hM)) (rn_cg (rn_g466_0 (M := M) hM) ?_))
    refine (rn_step (e := (.sipush 522, 22, 0, 0, 0, 0, 0, [])) rfl).mpr ?_
    refine (rn_step (e := (.iconst 2, 23, 0, 0, 0, 0, 0, [])) rfl).mpr ?_
    refine (rn_step (e := (.iload_n 3, 24, 3, 0, 0, 0, 0, [])) rfl).mpr ?_
    refine (rn_step (e := (.imul, 25, 0, 0, 0, 0, 0, [])) rfl).mpr (rn_cw (hr1 c1).1 (hr1 c1).2.1 ?_)
    refine (rn_step (e := (.iadd, 26, 0, 0, 0, 0, 0, [])) rfl).mpr (rn_cw (hr1 c1).2.2.1 (hr1 c1).2.2.2.1 ?_)
    refine (rn_step (e := (.iaload, 27, 0, 0, 0, 0, 0, [])) rfl).mpr (And.intro (Or.inl (rn_w467 (M := M) hM).1) (And.intro ((And.intro ((hr1 c1).2.2.2.2.1) (rn_lt (rn_w467 (M := M) hM).2 (hr1 c1).2.2.2.2.2))) (?_)))
    refine (rn_step (e := (.iload_n 1, 28, 1, 0, 0, 0, 0, [])) rfl).mpr ?_
    refine (rn_step (e := (.if_icmp .ne 7, 31, 35, 0, 0, 0, 0, [])) rfl).mpr (And.intro (fun c2 => ?_) (fun c2 => ?_))
    ·
      refine (rn_step (e := (.iconst 1, 32, 0, 0, 0, 0, 0, [])) rfl).mpr ?_
      refine (rn_step (e := (.goto 4, 35, 36, 0, 0, 0, 0, [])) rfl).mpr ?_
      refine (rn_step (e := (.iadd, 37, 0, 0, 0, 0, 0, [])) rfl).mpr (rn_cw (hr2 c1 c2).1 (hr2 c1 c2).2.1 ?_)
      refine (rn_step (e := (.istore_n 2, 38, 2, 0, 0, 0, 0, [])) rfl).mpr ?_
      refine (rn_step (e := (.iinc 3 1, 41, 3, 0, 0, 0, 0, [])) rfl).mpr (rn_ci (hr2 c1 c2).2.2.1 (hr2 c1 c2).2.2.2 ?_)
      refine (rn_step (e := (.goto (-37), 44, 4, 0, 0, 0, 0, [])) rfl).mpr ?_
      exact (k1 c1 c2)
    ·
      refine (rn_step (e := (.iconst 0, 36, 0, 0, 0, 0, 0, [])) rfl).mpr ?_
      refine (rn_step (e := (.iadd, 37, 0, 0, 0, 0, 0, [])) rfl).mpr (rn_cw (hr3 c1 c2).1 (hr3 c1 c2).2.1 ?_)
      refine (rn_step (e := (.istore_n 2, 38, 2, 0, 0, 0, 0, [])) rfl).mpr ?_
      refine (rn_step (e := (.iinc 3 1, 41, 3, 0, 0, 0, 0, [])) rfl).mpr (rn_ci (hr3 c1 c2).2.2.1 (hr3 c1 c2).2.2.2 ?_)
      refine (rn_step (e := (.goto (-37), 44, 4, 0, 0, 0, 0, [])) rfl).mpr ?_
      exact (k2 c1 c2)
  ·
    refine (rn_step (e := (.iload_n 2, 45, 2, 0, 0, 0, 0, [])) rfl).mpr ?_
    exact (rn_step (e := (.ireturn, 46, 0, 0, 0, 0, 0, [])) rfl).mpr (And.intro (trivial) ((k3 c1)))
theorem re_Mo_without {M : rn_M} {Q : rn_Q} {v0 : rn_V} (h : rn_WP 172 0 [v0, rn_J, rn_J] [] M Q) : rn_ME 172 [v0] M Q := h
set_option maxRecDepth 4000 in
theorem rb_Mo_without_0 {M : rn_M} {Q : rn_Q} {vl0 : rn_V} {vl1 : rn_V} {vl2 : rn_V}   (k1 : rn_WP 172 4 [vl0, rn_I 0, rn_I 0] [] M Q) : rn_WP 172 0 [vl0, vl1, vl2] [] M Q := by
  refine (rn_step (e := (.iconst 0, 1, 0, 0, 0, 0, 0, [])) rfl).mpr ?_
  refine (rn_step (e := (.istore_n 1, 2, 1, 0, 0, 0, 0, [])) rfl).mpr ?_
  refine (rn_step (e := (.iconst 0, 3, 0, 0, 0, 0, 0, [])) rfl).mpr ?_
  refine (rn_step (e := (.istore_n 2, 4, 2, 0, 0, 0, 0, [])) rfl).mpr ?_
  exact k1
set_option maxRecDepth 4000 in
theorem rb_Mo_without_4 {M : rn_M} {Q : rn_Q} {xl1 : Int} {xl2 : Int} (hM : rn_sh M)   (k1 : (xl2 < rn_gi M 467 0) → rn_ME 171 [rn_R 466, rn_I xl2] M (fun r M1 => rn_WP 172 20 [rn_R 466, rn_I xl1, rn_I xl2] (r.toList ++ [rn_I xl1]) M1 Q)) (k2 : (¬ (xl2 < rn_gi M 467 0)) → Q (some (rn_I xl1)) M) : rn_WP 172 4 [rn_R 466, rn_I xl1, rn_I xl2] [] M Q := by
  refine (rn_step (e := (.iload_n 2, 5, 2, 0, 0, 0, 0, [])) rfl).mpr ?_
  refine (rn_step (e := (.aload_n 0, 6, 0, 0, 0, 0, 0, [])) rfl).mpr ?_
  refine (rn_step (e := (.getfield 7, 9, 10, 0, 902, 2, 11, [])) rfl).mpr (And.intro ((rn_ks466 (M := M) hM)) (rn_cg (rn_g466_0 (M := M) hM) ?_))
  refine (rn_step (e := (.iconst 0, 10, 0, 0, 0, 0, 0, [])) rfl).mpr ?_
  refine (rn_step (e := (.iaload, 11, 0, 0, 0, 0, 0, [])) rfl).mpr (And.intro (Or.inl (rn_w467 (M := M) hM).1) (And.intro ((And.intro ((by decide)) (rn_lt (rn_w467 (M := M) hM).2 (by decide)))) (?_)))
  refine (rn_step (e := (.if_icmp .ge 27, 14, 38, 0, 0, 0, 0, [])) rfl).mpr (And.intro (fun c1 => ?_) (fun c1 => ?_))
  ·
    refine (rn_step (e := (.iload_n 1, 15, 1, 0, 0, 0, 0, [])) rfl).mpr ?_
    refine (rn_step (e := (.aload_n 0, 16, 0, 0, 0, 0, 0, [])) rfl).mpr ?_
    refine (rn_step (e := (.iload_n 2, 17, 2, 0, 0, 0, 0, [])) rfl).mpr ?_
    exact (rn_step (e := (.invokevirtual 151, 20, 171, 2, 1130, 0, 11, [0])) rfl).mpr (And.intro ((rn_ks466 (M := M) hM)) ((k1 c1)))
  ·
    refine (rn_step (e := (.iload_n 1, 39, 1, 0, 0, 0, 0, [])) rfl).mpr ?_
    exact (rn_step (e := (.ireturn, 40, 0, 0, 0, 0, 0, [])) rfl).mpr (And.intro (trivial) ((k2 c1)))
set_option maxRecDepth 4000 in
theorem rb_Mo_without_20 {M : rn_M} {Q : rn_Q} {vl0 : rn_V} {vl1 : rn_V} {xl2 : Int} {xs0 : Int} {xs1 : Int}   (hr1 : (xs0 = 0) → (-2147483648 : Int) ≤ xl2 + 1 ∧ xl2 + 1 ≤ 2147483647) (hr2 : (¬ (xs0 = 0)) → (-2147483648 : Int) ≤ xl2 + 1 ∧ xl2 + 1 ≤ 2147483647) (k1 : (xs0 = 0) → rn_WP 172 4 [vl0, rn_I (rn_or xs1 (rn_shl 1 xl2)), rn_I (xl2 + 1)] [] M Q) (k2 : (¬ (xs0 = 0)) → rn_WP 172 4 [vl0, rn_I (rn_or xs1 0), rn_I (xl2 + 1)] [] M Q) : rn_WP 172 20 [vl0, vl1, rn_I xl2] [rn_I xs0, rn_I xs1] M Q := by
  refine (rn_step (e := (.ifCond .ne 9, 23, 29, 0, 0, 0, 0, [])) rfl).mpr (And.intro (fun c1 => ?_) (fun c1 => ?_))
  ·
    refine (rn_step (e := (.iconst 1, 24, 0, 0, 0, 0, 0, [])) rfl).mpr ?_
    refine (rn_step (e := (.iload_n 2, 25, 2, 0, 0, 0, 0, [])) rfl).mpr ?_
    refine (rn_step (e := (.ishl, 26, 0, 0, 0, 0, 0, [])) rfl).mpr ?_
    refine (rn_step (e := (.goto 4, 29, 30, 0, 0, 0, 0, [])) rfl).mpr ?_
    refine (rn_step (e := (.ior, 31, 0, 0, 0, 0, 0, [])) rfl).mpr ?_
    refine (rn_step (e := (.istore_n 1, 32, 1, 0, 0, 0, 0, [])) rfl).mpr ?_
    refine (rn_step (e := (.iinc 2 1, 35, 2, 0, 0, 0, 0, [])) rfl).mpr (rn_ci (hr1 c1).1 (hr1 c1).2 ?_)
    refine (rn_step (e := (.goto (-31), 38, 4, 0, 0, 0, 0, [])) rfl).mpr ?_
    exact (k1 c1)
  ·
    refine (rn_step (e := (.iconst 0, 30, 0, 0, 0, 0, 0, [])) rfl).mpr ?_
    refine (rn_step (e := (.ior, 31, 0, 0, 0, 0, 0, [])) rfl).mpr ?_
    refine (rn_step (e := (.istore_n 1, 32, 1, 0, 0, 0, 0, [])) rfl).mpr ?_
    refine (rn_step (e := (.iinc 2 1, 35, 2, 0, 0, 0, 0, [])) rfl).mpr (rn_ci (hr2 c1).1 (hr2 c1).2 ?_)
    refine (rn_step (e := (.goto (-31), 38, 4, 0, 0, 0, 0, [])) rfl).mpr ?_
    exact (k2 c1)
theorem re_Mo_covered {M : rn_M} {Q : rn_Q} {v0 : rn_V} (h : rn_WP 173 0 [v0, rn_J, rn_J] [] M Q) : rn_ME 173 [v0] M Q := h
set_option maxRecDepth 4000 in
theorem rb_Mo_covered_0 {M : rn_M} {Q : rn_Q} {vl1 : rn_V} {vl2 : rn_V} (hM : rn_sh M)   (hr1 : (-2147483648 : Int) ≤ rn_gi M 466 8 + 1 ∧ rn_gi M 466 8 + 1 ≤ 2147483647) (k1 : rn_WP 173 14 [rn_R 466, rn_I 0, rn_I 0] [] (rn_si M 466 8 (rn_gi M 466 8 + 1)) Q) : rn_WP 173 0 [rn_R 466, vl1, vl2] [] M Q := by
  refine (rn_step (e := (.aload_n 0, 1, 0, 0, 0, 0, 0, [])) rfl).mpr ?_
  refine (rn_step (e := (.dup, 2, 0, 0, 0, 0, 0, [])) rfl).mpr ?_
  refine (rn_step (e := (.getfield 108, 5, 10, 8, 910, 0, 11, [])) rfl).mpr (And.intro ((rn_ks466 (M := M) hM)) (?_))
  refine (rn_step (e := (.iconst 1, 6, 0, 0, 0, 0, 0, [])) rfl).mpr ?_
  refine (rn_step (e := (.iadd, 7, 0, 0, 0, 0, 0, [])) rfl).mpr (rn_cw hr1.1 hr1.2 ?_)
  refine (rn_step (e := (.putfield 108, 10, 10, 8, 910, 0, 11, [])) rfl).mpr (And.intro ((rn_ks466 (M := M) hM)) (?_))
  refine (rn_step (e := (.iconst 0, 11, 0, 0, 0, 0, 0, [])) rfl).mpr ?_
  refine (rn_step (e := (.istore_n 1, 12, 1, 0, 0, 0, 0, [])) rfl).mpr ?_
  refine (rn_step (e := (.iconst 0, 13, 0, 0, 0, 0, 0, [])) rfl).mpr ?_
  refine (rn_step (e := (.istore_n 2, 14, 2, 0, 0, 0, 0, [])) rfl).mpr ?_
  exact k1
set_option maxRecDepth 4000 in
theorem rb_Mo_covered_14 {M : rn_M} {Q : rn_Q} {xl1 : Int} {xl2 : Int} (hM : rn_sh M)   (hr1 : (xl2 < rn_gi M 467 2) → (-2147483648 : Int) ≤ 2 * xl2 ∧ 2 * xl2 ≤ 2147483647 ∧ (-2147483648 : Int) ≤ 522 + (2 * xl2) ∧ 522 + (2 * xl2) ≤ 2147483647 ∧ (0 : Int) ≤ 522 + (2 * xl2) ∧ 522 + (2 * xl2) < (562 : Int) ∧ (-2147483648 : Int) ≤ (522 + (2 * xl2)) + 1 ∧ (522 + (2 * xl2)) + 1 ≤ 2147483647 ∧ (0 : Int) ≤ (522 + (2 * xl2)) + 1 ∧ (522 + (2 * xl2)) + 1 < (562 : Int)) (k1 : (xl2 < rn_gi M 467 2) → rn_ME 155 [rn_R 466, rn_I (rn_gi M 467 (522 + (2 * xl2)).toNat), rn_I (rn_gi M 467 ((522 + (2 * xl2)) + 1).toNat)] M (fun r M1 => rn_WP 173 55 [rn_R 466, rn_I xl1, rn_I xl2] (r.toList ++ [rn_I xl1]) M1 Q)) (k2 : (¬ (xl2 < rn_gi M 467 2)) → Q (some (rn_I xl1)) M) : rn_WP 173 14 [rn_R 466, rn_I xl1, rn_I xl2] [] M Q := by
  refine (rn_step (e := (.iload_n 2, 15, 2, 0, 0, 0, 0, [])) rfl).mpr ?_
  refine (rn_step (e := (.aload_n 0, 16, 0, 0, 0, 0, 0, [])) rfl).mpr ?_
  refine (rn_step (e := (.getfield 7, 19, 10, 0, 902, 2, 11, [])) rfl).mpr (And.intro ((rn_ks466 (M := M) hM)) (rn_cg (rn_g466_0 (M := M) hM) ?_))
  refine (rn_step (e := (.iconst 2, 20, 0, 0, 0, 0, 0, [])) rfl).mpr ?_
  refine (rn_step (e := (.iaload, 21, 0, 0, 0, 0, 0, [])) rfl).mpr (And.intro (Or.inl (rn_w467 (M := M) hM).1) (And.intro ((And.intro ((by decide)) (rn_lt (rn_w467 (M := M) hM).2 (by decide)))) (?_)))
  refine (rn_step (e := (.if_icmp .ge 42, 24, 63, 0, 0, 0, 0, [])) rfl).mpr (And.intro (fun c1 => ?_) (fun c1 => ?_))
  ·
    refine (rn_step (e := (.iload_n 1, 25, 1, 0, 0, 0, 0, [])) rfl).mpr ?_
    refine (rn_step (e := (.aload_n 0, 26, 0, 0, 0, 0, 0, [])) rfl).mpr ?_
    refine (rn_step (e := (.aload_n 0, 27, 0, 0, 0, 0, 0, [])) rfl).mpr ?_
    refine (rn_step (e := (.getfield 7, 30, 10, 0, 902, 2, 11, [])) rfl).mpr (And.intro ((rn_ks466 (M := M) hM)) (rn_cg (rn_g466_0 (M := M) hM) ?_))
    refine (rn_step (e := (.sipush 522, 33, 0, 0, 0, 0, 0, [])) rfl).mpr ?_
    refine (rn_step (e := (.iconst 2, 34, 0, 0, 0, 0, 0, [])) rfl).mpr ?_
    refine (rn_step (e := (.iload_n 2, 35, 2, 0, 0, 0, 0, [])) rfl).mpr ?_
    refine (rn_step (e := (.imul, 36, 0, 0, 0, 0, 0, [])) rfl).mpr (rn_cw (hr1 c1).1 (hr1 c1).2.1 ?_)
    refine (rn_step (e := (.iadd, 37, 0, 0, 0, 0, 0, [])) rfl).mpr (rn_cw (hr1 c1).2.2.1 (hr1 c1).2.2.2.1 ?_)
    refine (rn_step (e := (.iaload, 38, 0, 0, 0, 0, 0, [])) rfl).mpr (And.intro (Or.inl (rn_w467 (M := M) hM).1) (And.intro ((And.intro ((hr1 c1).2.2.2.2.1) (rn_lt (rn_w467 (M := M) hM).2 (hr1 c1).2.2.2.2.2.1))) (?_)))
    refine (rn_step (e := (.aload_n 0, 39, 0, 0, 0, 0, 0, [])) rfl).mpr ?_
    refine (rn_step (e := (.getfield 7, 42, 10, 0, 902, 2, 11, [])) rfl).mpr (And.intro ((rn_ks466 (M := M) hM)) (rn_cg (rn_g466_0 (M := M) hM) ?_))
    refine (rn_step (e := (.sipush 522, 45, 0, 0, 0, 0, 0, [])) rfl).mpr ?_
    refine (rn_step (e := (.iconst 2, 46, 0, 0, 0, 0, 0, [])) rfl).mpr ?_
    refine (rn_step (e := (.iload_n 2, 47, 2, 0, 0, 0, 0, [])) rfl).mpr ?_
    refine (rn_step (e := (.imul, 48, 0, 0, 0, 0, 0, [])) rfl).mpr (rn_cw (hr1 c1).1 (hr1 c1).2.1 ?_)
    refine (rn_step (e := (.iadd, 49, 0, 0, 0, 0, 0, [])) rfl).mpr (rn_cw (hr1 c1).2.2.1 (hr1 c1).2.2.2.1 ?_)
    refine (rn_step (e := (.iconst 1, 50, 0, 0, 0, 0, 0, [])) rfl).mpr ?_
    refine (rn_step (e := (.iadd, 51, 0, 0, 0, 0, 0, [])) rfl).mpr (rn_cw (hr1 c1).2.2.2.2.2.2.1 (hr1 c1).2.2.2.2.2.2.2.1 ?_)
    refine (rn_step (e := (.iaload, 52, 0, 0, 0, 0, 0, [])) rfl).mpr (And.intro (Or.inl (rn_w467 (M := M) hM).1) (And.intro ((And.intro ((hr1 c1).2.2.2.2.2.2.2.2.1) (rn_lt (rn_w467 (M := M) hM).2 (hr1 c1).2.2.2.2.2.2.2.2.2))) (?_)))
    exact (rn_step (e := (.invokevirtual 111, 55, 155, 3, 1059, 0, 11, [0])) rfl).mpr (And.intro ((rn_ks466 (M := M) hM)) ((k1 c1)))
  ·
    refine (rn_step (e := (.iload_n 1, 64, 1, 0, 0, 0, 0, [])) rfl).mpr ?_
    exact (rn_step (e := (.ireturn, 65, 0, 0, 0, 0, 0, [])) rfl).mpr (And.intro (trivial) ((k2 c1)))
set_option maxRecDepth 4000 in
theorem rb_Mo_covered_55 {M : rn_M} {Q : rn_Q} {vl0 : rn_V} {vl1 : rn_V} {xl2 : Int} {xs0 : Int} {xs1 : Int}   (hr1 : (-2147483648 : Int) ≤ xs1 + xs0 ∧ xs1 + xs0 ≤ 2147483647 ∧ (-2147483648 : Int) ≤ xl2 + 1 ∧ xl2 + 1 ≤ 2147483647) (k1 : rn_WP 173 14 [vl0, rn_I (xs1 + xs0), rn_I (xl2 + 1)] [] M Q) : rn_WP 173 55 [vl0, vl1, rn_I xl2] [rn_I xs0, rn_I xs1] M Q := by
  refine (rn_step (e := (.iadd, 56, 0, 0, 0, 0, 0, [])) rfl).mpr (rn_cw hr1.1 hr1.2.1 ?_)
  refine (rn_step (e := (.istore_n 1, 57, 1, 0, 0, 0, 0, [])) rfl).mpr ?_
  refine (rn_step (e := (.iinc 2 1, 60, 2, 0, 0, 0, 0, [])) rfl).mpr (rn_ci hr1.2.2.1 hr1.2.2.2 ?_)
  refine (rn_step (e := (.goto (-46), 63, 14, 0, 0, 0, 0, [])) rfl).mpr ?_
  exact k1
theorem re_Mo_count {M : rn_M} {Q : rn_Q} {v0 v1 : rn_V} (h : rn_WP 174 0 [v0, v1] [] M Q) : rn_ME 174 [v0, v1] M Q := h
set_option maxRecDepth 4000 in
theorem rb_Mo_count_0 {M : rn_M} {Q : rn_Q} {xl1 : Int} (hM : rn_sh M)   (hr1 : (xl1 = 0) → (0 : Int) ≤ xl1 ∧ xl1 < (562 : Int)) (hr2 : (xl1 = 1) → (0 : Int) ≤ xl1 ∧ xl1 < (562 : Int)) (hr3 : (xl1 = 2) → (0 : Int) ≤ xl1 ∧ xl1 < (562 : Int)) (hr4 : (xl1 = 3) → (0 : Int) ≤ xl1 ∧ xl1 < (562 : Int)) (k1 : (xl1 < 0 ∨ 9 < xl1) → Q (some (rn_I (-1))) M) (k2 : (xl1 = 0) → Q (some (rn_I (rn_gi M 467 (xl1).toNat))) M) (k3 : (xl1 = 1) → Q (some (rn_I (rn_gi M 467 (xl1).toNat))) M) (k4 : (xl1 = 2) → Q (some (rn_I (rn_gi M 467 (xl1).toNat))) M) (k5 : (xl1 = 3) → Q (some (rn_I (rn_gi M 467 (xl1).toNat))) M) (k6 : (xl1 = 4) → rn_ME 169 [rn_R 466] M (fun r M1 => rn_WP 174 67 [rn_R 466, rn_I xl1] (r.toList ++ []) M1 Q)) (k7 : (xl1 = 5) → rn_ME 170 [rn_R 466] M (fun r M1 => rn_WP 174 72 [rn_R 466, rn_I xl1] (r.toList ++ []) M1 Q)) (k8 : (xl1 = 6) → rn_ME 172 [rn_R 466] M (fun r M1 => rn_WP 174 77 [rn_R 466, rn_I xl1] (r.toList ++ []) M1 Q)) (k9 : (xl1 = 7) → rn_ME 173 [rn_R 466] M (fun r M1 => rn_WP 174 82 [rn_R 466, rn_I xl1] (r.toList ++ []) M1 Q)) (k10 : (xl1 = 8) → Q (some (rn_I (rn_gi M 466 2))) M) (k11 : (xl1 = 9) → Q (some (rn_I (rn_gi M 466 4))) M) : rn_WP 174 0 [rn_R 466, rn_I xl1] [] M Q := by
  refine (rn_step (e := (.iload_n 1, 1, 1, 0, 0, 0, 0, [])) rfl).mpr ?_
  refine (rn_step (e := (.tableswitch 92 0 9 #[55, 55, 55, 55, 62, 67, 72, 77, 82, 87], 56, 93, 0, 0, 0, 0, [56, 56, 56, 56, 63, 68, 73, 78, 83, 88])) rfl).mpr (And.intro (fun c1 => ?_) (fun q => ?_))
  ·
    refine (rn_step (e := (.iconst (-1), 94, 0, 0, 0, 0, 0, [])) rfl).mpr ?_
    exact (rn_step (e := (.ireturn, 95, 0, 0, 0, 0, 0, [])) rfl).mpr (And.intro (trivial) ((k1 c1)))
  ·
    obtain ⟨n, hn⟩ : ∃ n : Nat, xl1 = (n : Int) := ⟨(xl1).toNat, by omega⟩
    rw [show (xl1 - 0).toNat = n by omega]
    match n, hn with
    | 0, c1 =>
      refine (rn_step (e := (.aload_n 0, 57, 0, 0, 0, 0, 0, [])) rfl).mpr ?_
      refine (rn_step (e := (.getfield 7, 60, 10, 0, 902, 2, 11, [])) rfl).mpr (And.intro ((rn_ks466 (M := M) hM)) (rn_cg (rn_g466_0 (M := M) hM) ?_))
      refine (rn_step (e := (.iload_n 1, 61, 1, 0, 0, 0, 0, [])) rfl).mpr ?_
      refine (rn_step (e := (.iaload, 62, 0, 0, 0, 0, 0, [])) rfl).mpr (And.intro (Or.inl (rn_w467 (M := M) hM).1) (And.intro ((And.intro ((hr1 c1).1) (rn_lt (rn_w467 (M := M) hM).2 (hr1 c1).2))) (?_)))
      exact (rn_step (e := (.ireturn, 63, 0, 0, 0, 0, 0, [])) rfl).mpr (And.intro (trivial) ((k2 c1)))
    | 1, c1 =>
      refine (rn_step (e := (.aload_n 0, 57, 0, 0, 0, 0, 0, [])) rfl).mpr ?_
      refine (rn_step (e := (.getfield 7, 60, 10, 0, 902, 2, 11, [])) rfl).mpr (And.intro ((rn_ks466 (M := M) hM)) (rn_cg (rn_g466_0 (M := M) hM) ?_))
      refine (rn_step (e := (.iload_n 1, 61, 1, 0, 0, 0, 0, [])) rfl).mpr ?_
      refine (rn_step (e := (.iaload, 62, 0, 0, 0, 0, 0, [])) rfl).mpr (And.intro (Or.inl (rn_w467 (M := M) hM).1) (And.intro ((And.intro ((hr2 c1).1) (rn_lt (rn_w467 (M := M) hM).2 (hr2 c1).2))) (?_)))
      exact (rn_step (e := (.ireturn, 63, 0, 0, 0, 0, 0, [])) rfl).mpr (And.intro (trivial) ((k3 c1)))
    | 2, c1 =>
      refine (rn_step (e := (.aload_n 0, 57, 0, 0, 0, 0, 0, [])) rfl).mpr ?_
      refine (rn_step (e := (.getfield 7, 60, 10, 0, 902, 2, 11, [])) rfl).mpr (And.intro ((rn_ks466 (M := M) hM)) (rn_cg (rn_g466_0 (M := M) hM) ?_))
      refine (rn_step (e := (.iload_n 1, 61, 1, 0, 0, 0, 0, [])) rfl).mpr ?_
      refine (rn_step (e := (.iaload, 62, 0, 0, 0, 0, 0, [])) rfl).mpr (And.intro (Or.inl (rn_w467 (M := M) hM).1) (And.intro ((And.intro ((hr3 c1).1) (rn_lt (rn_w467 (M := M) hM).2 (hr3 c1).2))) (?_)))
      exact (rn_step (e := (.ireturn, 63, 0, 0, 0, 0, 0, [])) rfl).mpr (And.intro (trivial) ((k4 c1)))
    | 3, c1 =>
      refine (rn_step (e := (.aload_n 0, 57, 0, 0, 0, 0, 0, [])) rfl).mpr ?_
      refine (rn_step (e := (.getfield 7, 60, 10, 0, 902, 2, 11, [])) rfl).mpr (And.intro ((rn_ks466 (M := M) hM)) (rn_cg (rn_g466_0 (M := M) hM) ?_))
      refine (rn_step (e := (.iload_n 1, 61, 1, 0, 0, 0, 0, [])) rfl).mpr ?_
      refine (rn_step (e := (.iaload, 62, 0, 0, 0, 0, 0, [])) rfl).mpr (And.intro (Or.inl (rn_w467 (M := M) hM).1) (And.intro ((And.intro ((hr4 c1).1) (rn_lt (rn_w467 (M := M) hM).2 (hr4 c1).2))) (?_)))
      exact (rn_step (e := (.ireturn, 63, 0, 0, 0, 0, 0, [])) rfl).mpr (And.intro (trivial) ((k5 c1)))
    | 4, c1 =>
      refine (rn_step (e := (.aload_n 0, 64, 0, 0, 0, 0, 0, [])) rfl).mpr ?_
      exact (rn_step (e := (.invokevirtual 154, 67, 169, 1, 1118, 0, 11, [0])) rfl).mpr (And.intro ((rn_ks466 (M := M) hM)) ((k6 c1)))
    | 5, c1 =>
      refine (rn_step (e := (.aload_n 0, 69, 0, 0, 0, 0, 0, [])) rfl).mpr ?_
      exact (rn_step (e := (.invokevirtual 158, 72, 170, 1, 1122, 0, 11, [0])) rfl).mpr (And.intro ((rn_ks466 (M := M) hM)) ((k7 c1)))
    | 6, c1 =>
      refine (rn_step (e := (.aload_n 0, 74, 0, 0, 0, 0, 0, [])) rfl).mpr ?_
      exact (rn_step (e := (.invokevirtual 161, 77, 172, 1, 1126, 0, 11, [0])) rfl).mpr (And.intro ((rn_ks466 (M := M) hM)) ((k8 c1)))
    | 7, c1 =>
      refine (rn_step (e := (.aload_n 0, 79, 0, 0, 0, 0, 0, [])) rfl).mpr ?_
      exact (rn_step (e := (.invokevirtual 164, 82, 173, 1, 1134, 0, 11, [0])) rfl).mpr (And.intro ((rn_ks466 (M := M) hM)) ((k9 c1)))
    | 8, c1 =>
      refine (rn_step (e := (.aload_n 0, 84, 0, 0, 0, 0, 0, [])) rfl).mpr ?_
      refine (rn_step (e := (.getfield 37, 87, 10, 2, 904, 0, 11, [])) rfl).mpr (And.intro ((rn_ks466 (M := M) hM)) (?_))
      exact (rn_step (e := (.ireturn, 88, 0, 0, 0, 0, 0, [])) rfl).mpr (And.intro (trivial) ((k10 c1)))
    | 9, c1 =>
      refine (rn_step (e := (.aload_n 0, 89, 0, 0, 0, 0, 0, [])) rfl).mpr ?_
      refine (rn_step (e := (.getfield 167, 92, 10, 4, 906, 0, 11, [])) rfl).mpr (And.intro ((rn_ks466 (M := M) hM)) (?_))
      exact (rn_step (e := (.ireturn, 93, 0, 0, 0, 0, 0, [])) rfl).mpr (And.intro (trivial) ((k11 c1)))
    | n + 10, hn => exact absurd (Or.inr (by omega)) q
set_option maxRecDepth 4000 in
theorem rb_Mo_count_67 {M : rn_M} {Q : rn_Q} {vl0 : rn_V} {vl1 : rn_V} {xs0 : Int}   (k1 : Q (some (rn_I xs0)) M) : rn_WP 174 67 [vl0, vl1] [rn_I xs0] M Q := by
  exact (rn_step (e := (.ireturn, 68, 0, 0, 0, 0, 0, [])) rfl).mpr (And.intro (trivial) (k1))
set_option maxRecDepth 4000 in
theorem rb_Mo_count_72 {M : rn_M} {Q : rn_Q} {vl0 : rn_V} {vl1 : rn_V} {xs0 : Int}   (k1 : Q (some (rn_I xs0)) M) : rn_WP 174 72 [vl0, vl1] [rn_I xs0] M Q := by
  exact (rn_step (e := (.ireturn, 73, 0, 0, 0, 0, 0, [])) rfl).mpr (And.intro (trivial) (k1))
set_option maxRecDepth 4000 in
theorem rb_Mo_count_77 {M : rn_M} {Q : rn_Q} {vl0 : rn_V} {vl1 : rn_V} {xs0 : Int}   (k1 : Q (some (rn_I xs0)) M) : rn_WP 174 77 [vl0, vl1] [rn_I xs0] M Q := by
  exact (rn_step (e := (.ireturn, 78, 0, 0, 0, 0, 0, [])) rfl).mpr (And.intro (trivial) (k1))
set_option maxRecDepth 4000 in
theorem rb_Mo_count_82 {M : rn_M} {Q : rn_Q} {vl0 : rn_V} {vl1 : rn_V} {xs0 : Int}   (k1 : Q (some (rn_I xs0)) M) : rn_WP 174 82 [vl0, vl1] [rn_I xs0] M Q := by
  exact (rn_step (e := (.ireturn, 83, 0, 0, 0, 0, 0, [])) rfl).mpr (And.intro (trivial) (k1))
theorem re_Mo_differentCells {M : rn_M} {Q : rn_Q} {v0 v1 : rn_V} (h : rn_WP 175 0 [v0, v1, rn_J, rn_J, rn_J] [] M Q) : rn_ME 175 [v0, v1] M Q := h
set_option maxRecDepth 4000 in
theorem rb_Mo_differentCells_0 {M : rn_M} {Q : rn_Q} {xl1 : Int} {vl2 : rn_V} {vl3 : rn_V} {vl4 : rn_V} (hM : rn_sh M)   (hr1 : (-2147483648 : Int) ≤ rn_gi M 466 8 + 1 ∧ rn_gi M 466 8 + 1 ≤ 2147483647) (k1 : rn_ME 133 [rn_R 466, rn_I xl1] (rn_si M 466 8 (rn_gi M 466 8 + 1)) (fun r M1 => rn_WP 175 15 [rn_R 466, rn_I xl1, vl2, vl3, vl4] (r.toList ++ []) M1 Q)) : rn_WP 175 0 [rn_R 466, rn_I xl1, vl2, vl3, vl4] [] M Q := by
  refine (rn_step (e := (.aload_n 0, 1, 0, 0, 0, 0, 0, [])) rfl).mpr ?_
  refine (rn_step (e := (.dup, 2, 0, 0, 0, 0, 0, [])) rfl).mpr ?_
  refine (rn_step (e := (.getfield 108, 5, 10, 8, 910, 0, 11, [])) rfl).mpr (And.intro ((rn_ks466 (M := M) hM)) (?_))
  refine (rn_step (e := (.iconst 1, 6, 0, 0, 0, 0, 0, [])) rfl).mpr ?_
  refine (rn_step (e := (.iadd, 7, 0, 0, 0, 0, 0, [])) rfl).mpr (rn_cw hr1.1 hr1.2 ?_)
  refine (rn_step (e := (.putfield 108, 10, 10, 8, 910, 0, 11, [])) rfl).mpr (And.intro ((rn_ks466 (M := M) hM)) (?_))
  refine (rn_step (e := (.aload_n 0, 11, 0, 0, 0, 0, 0, [])) rfl).mpr ?_
  refine (rn_step (e := (.iload_n 1, 12, 1, 0, 0, 0, 0, [])) rfl).mpr ?_
  exact (rn_step (e := (.invokevirtual 87, 15, 133, 2, 998, 0, 11, [0])) rfl).mpr (And.intro ((rn_ks466 (M := M) hM)) (k1))
set_option maxRecDepth 4000 in
theorem rb_Mo_differentCells_15 {M : rn_M} {Q : rn_Q} {vl0 : rn_V} {vl1 : rn_V} {vl2 : rn_V} {vl3 : rn_V} {vl4 : rn_V}   (k1 : rn_WP 175 19 [vl0, vl1, rn_I 0, rn_I 0, vl4] [] M Q) : rn_WP 175 15 [vl0, vl1, vl2, vl3, vl4] [] M Q := by
  refine (rn_step (e := (.iconst 0, 16, 0, 0, 0, 0, 0, [])) rfl).mpr ?_
  refine (rn_step (e := (.istore_n 2, 17, 2, 0, 0, 0, 0, [])) rfl).mpr ?_
  refine (rn_step (e := (.iconst 0, 18, 0, 0, 0, 0, 0, [])) rfl).mpr ?_
  refine (rn_step (e := (.istore_n 3, 19, 3, 0, 0, 0, 0, [])) rfl).mpr ?_
  exact k1
set_option maxRecDepth 4000 in
theorem rb_Mo_differentCells_19 {M : rn_M} {Q : rn_Q} {xl1 : Int} {xl2 : Int} {xl3 : Int} {vl4 : rn_V} (hM : rn_sh M)   (hr1 : ((0 : Int) ≤ xl1 ∧ (xl1 : Int) ≤ 5) ∧ ((0 : Int) ≤ 5 ∧ (5 : Int) ≤ 77)) (hr2 : (¬ (rn_o (rn_gi M 467) xl1 5 < xl3)) → (0 : Int) ≤ xl3 ∧ xl3 < (61 : Int) ∧ (-2147483648 : Int) ≤ 60 * (rn_gi M 471 (xl3).toNat) ∧ 60 * (rn_gi M 471 (xl3).toNat) ≤ 2147483647 ∧ (-2147483648 : Int) ≤ (60 * (rn_gi M 471 (xl3).toNat)) + (rn_gi M 470 (xl3).toNat) ∧ (60 * (rn_gi M 471 (xl3).toNat)) + (rn_gi M 470 (xl3).toNat) ≤ 2147483647 ∧ (0 : Int) ≤ (60 * (rn_gi M 471 (xl3).toNat)) + (rn_gi M 470 (xl3).toNat) ∧ (60 * (rn_gi M 471 (xl3).toNat)) + (rn_gi M 470 (xl3).toNat) < (2400 : Int)) (hr3 : (¬ (rn_o (rn_gi M 467) xl1 5 < xl3)) → (rn_gi M 472 ((60 * (rn_gi M 471 (xl3).toNat)) + (rn_gi M 470 (xl3).toNat)).toNat = rn_gi M 466 8) → (-2147483648 : Int) ≤ xl2 + 0 ∧ xl2 + 0 ≤ 2147483647 ∧ (0 : Int) ≤ (60 * (rn_gi M 471 (xl3).toNat)) + (rn_gi M 470 (xl3).toNat) ∧ (60 * (rn_gi M 471 (xl3).toNat)) + (rn_gi M 470 (xl3).toNat) < (2400 : Int) ∧ (-2147483648 : Int) ≤ xl3 + 1 ∧ xl3 + 1 ≤ 2147483647) (hr4 : (¬ (rn_o (rn_gi M 467) xl1 5 < xl3)) → (¬ (rn_gi M 472 ((60 * (rn_gi M 471 (xl3).toNat)) + (rn_gi M 470 (xl3).toNat)).toNat = rn_gi M 466 8)) → (-2147483648 : Int) ≤ xl2 + 1 ∧ xl2 + 1 ≤ 2147483647 ∧ (0 : Int) ≤ (60 * (rn_gi M 471 (xl3).toNat)) + (rn_gi M 470 (xl3).toNat) ∧ (60 * (rn_gi M 471 (xl3).toNat)) + (rn_gi M 470 (xl3).toNat) < (2400 : Int) ∧ (-2147483648 : Int) ≤ xl3 + 1 ∧ xl3 + 1 ≤ 2147483647) (k1 : (rn_o (rn_gi M 467) xl1 5 < xl3) → Q (some (rn_I xl2)) M) (k2 : (¬ (rn_o (rn_gi M 467) xl1 5 < xl3)) → (rn_gi M 472 ((60 * (rn_gi M 471 (xl3).toNat)) + (rn_gi M 470 (xl3).toNat)).toNat = rn_gi M 466 8) → rn_WP 175 19 [rn_R 466, rn_I xl1, rn_I (xl2 + 0), rn_I (xl3 + 1), rn_I ((60 * (rn_gi M 471 (xl3).toNat)) + (rn_gi M 470 (xl3).toNat))] [] (rn_si M 472 ((60 * (rn_gi M 471 (xl3).toNat)) + (rn_gi M 470 (xl3).toNat)).toNat (rn_gi M 466 8)) Q) (k3 : (¬ (rn_o (rn_gi M 467) xl1 5 < xl3)) → (¬ (rn_gi M 472 ((60 * (rn_gi M 471 (xl3).toNat)) + (rn_gi M 470 (xl3).toNat)).toNat = rn_gi M 466 8)) → rn_WP 175 19 [rn_R 466, rn_I xl1, rn_I (xl2 + 1), rn_I (xl3 + 1), rn_I ((60 * (rn_gi M 471 (xl3).toNat)) + (rn_gi M 470 (xl3).toNat))] [] (rn_si M 472 ((60 * (rn_gi M 471 (xl3).toNat)) + (rn_gi M 470 (xl3).toNat)).toNat (rn_gi M 466 8)) Q) : rn_WP 175 19 [rn_R 466, rn_I xl1, rn_I xl2, rn_I xl3, vl4] [] M Q := by
  refine (rn_step (e := (.iload_n 3, 20, 3, 0, 0, 0, 0, [])) rfl).mpr ?_
  refine (rn_step (e := (.aload_n 0, 21, 0, 0, 0, 0, 0, [])) rfl).mpr ?_
  refine (rn_step (e := (.iload_n 1, 22, 1, 0, 0, 0, 0, [])) rfl).mpr ?_
  refine (rn_step (e := (.iconst 5, 23, 0, 0, 0, 0, 0, [])) rfl).mpr ?_
  refine (rn_step (e := (.invokevirtual 49, 26, 129, 3, 1002, 0, 11, [0])) rfl).mpr (And.intro ((rn_ks466 (M := M) hM)) ((rc_Mo_of hM (hr1.1) (hr1.2) ?_)))
  refine (rn_step (e := (.if_icmp .gt 60, 29, 86, 0, 0, 0, 0, [])) rfl).mpr (And.intro (fun c1 => ?_) (fun c1 => ?_))
  ·
    refine (rn_step (e := (.iload_n 2, 87, 2, 0, 0, 0, 0, [])) rfl).mpr ?_
    exact (rn_step (e := (.ireturn, 88, 0, 0, 0, 0, 0, [])) rfl).mpr (And.intro (trivial) ((k1 c1)))
  ·
    refine (rn_step (e := (.bipush 60, 31, 0, 0, 0, 0, 0, [])) rfl).mpr ?_
    refine (rn_step (e := (.aload_n 0, 32, 0, 0, 0, 0, 0, [])) rfl).mpr ?_
    refine (rn_step (e := (.getfield 22, 35, 10, 6, 908, 2, 11, [])) rfl).mpr (And.intro ((rn_ks466 (M := M) hM)) (rn_cg (rn_g466_6 (M := M) hM) ?_))
    refine (rn_step (e := (.iload_n 3, 36, 3, 0, 0, 0, 0, [])) rfl).mpr ?_
    refine (rn_step (e := (.iaload, 37, 0, 0, 0, 0, 0, [])) rfl).mpr (And.intro (Or.inl (rn_w471 (M := M) hM).1) (And.intro ((And.intro ((hr2 c1).1) (rn_lt (rn_w471 (M := M) hM).2 (hr2 c1).2.1))) (?_)))
    refine (rn_step (e := (.imul, 38, 0, 0, 0, 0, 0, [])) rfl).mpr (rn_cw (hr2 c1).2.2.1 (hr2 c1).2.2.2.1 ?_)
    refine (rn_step (e := (.aload_n 0, 39, 0, 0, 0, 0, 0, [])) rfl).mpr ?_
    refine (rn_step (e := (.getfield 19, 42, 10, 5, 907, 2, 11, [])) rfl).mpr (And.intro ((rn_ks466 (M := M) hM)) (rn_cg (rn_g466_5 (M := M) hM) ?_))
    refine (rn_step (e := (.iload_n 3, 43, 3, 0, 0, 0, 0, [])) rfl).mpr ?_
    refine (rn_step (e := (.iaload, 44, 0, 0, 0, 0, 0, [])) rfl).mpr (And.intro (Or.inl (rn_w470 (M := M) hM).1) (And.intro ((And.intro ((hr2 c1).1) (rn_lt (rn_w470 (M := M) hM).2 (hr2 c1).2.1))) (?_)))
    refine (rn_step (e := (.iadd, 45, 0, 0, 0, 0, 0, [])) rfl).mpr (rn_cw (hr2 c1).2.2.2.2.1 (hr2 c1).2.2.2.2.2.1 ?_)
    refine (rn_step (e := (.istore 4, 47, 4, 0, 0, 0, 0, [])) rfl).mpr ?_
    refine (rn_step (e := (.iload_n 2, 48, 2, 0, 0, 0, 0, [])) rfl).mpr ?_
    refine (rn_step (e := (.aload_n 0, 49, 0, 0, 0, 0, 0, [])) rfl).mpr ?_
    refine (rn_step (e := (.getfield 25, 52, 10, 7, 909, 2, 11, [])) rfl).mpr (And.intro ((rn_ks466 (M := M) hM)) (rn_cg (rn_g466_7 (M := M) hM) ?_))
    refine (rn_step (e := (.iload 4, 54, 4, 0, 0, 0, 0, [])) rfl).mpr ?_
    refine (rn_step (e := (.iaload, 55, 0, 0, 0, 0, 0, [])) rfl).mpr (And.intro (Or.inl (rn_w472 (M := M) hM).1) (And.intro ((And.intro ((hr2 c1).2.2.2.2.2.2.1) (rn_lt (rn_w472 (M := M) hM).2 (hr2 c1).2.2.2.2.2.2.2))) (?_)))
    refine (rn_step (e := (.aload_n 0, 56, 0, 0, 0, 0, 0, [])) rfl).mpr ?_
    refine (rn_step (e := (.getfield 108, 59, 10, 8, 910, 0, 11, [])) rfl).mpr (And.intro ((rn_ks466 (M := M) hM)) (?_))
    refine (rn_step (e := (.if_icmp .ne 7, 62, 66, 0, 0, 0, 0, [])) rfl).mpr (And.intro (fun c2 => ?_) (fun c2 => ?_))
    ·
      refine (rn_step (e := (.iconst 0, 63, 0, 0, 0, 0, 0, [])) rfl).mpr ?_
      refine (rn_step (e := (.goto 4, 66, 67, 0, 0, 0, 0, [])) rfl).mpr ?_
      refine (rn_step (e := (.iadd, 68, 0, 0, 0, 0, 0, [])) rfl).mpr (rn_cw (hr3 c1 c2).1 (hr3 c1 c2).2.1 ?_)
      refine (rn_step (e := (.istore_n 2, 69, 2, 0, 0, 0, 0, [])) rfl).mpr ?_
      refine (rn_step (e := (.aload_n 0, 70, 0, 0, 0, 0, 0, [])) rfl).mpr ?_
      refine (rn_step (e := (.getfield 25, 73, 10, 7, 909, 2, 11, [])) rfl).mpr (And.intro ((rn_ks466 (M := M) hM)) (rn_cg (rn_g466_7 (M := M) hM) ?_))
      refine (rn_step (e := (.iload 4, 75, 4, 0, 0, 0, 0, [])) rfl).mpr ?_
      refine (rn_step (e := (.aload_n 0, 76, 0, 0, 0, 0, 0, [])) rfl).mpr ?_
      refine (rn_step (e := (.getfield 108, 79, 10, 8, 910, 0, 11, [])) rfl).mpr (And.intro ((rn_ks466 (M := M) hM)) (?_))
      refine (rn_step (e := (.iastore, 80, 0, 0, 0, 0, 0, [])) rfl).mpr (And.intro ((rn_w472 (M := M) hM).1) (And.intro ((And.intro ((hr3 c1 c2).2.2.1) (rn_lt (rn_w472 (M := M) hM).2 (hr3 c1 c2).2.2.2.1))) (?_)))
      refine (rn_step (e := (.iinc 3 1, 83, 3, 0, 0, 0, 0, [])) rfl).mpr (rn_ci (hr3 c1 c2).2.2.2.2.1 (hr3 c1 c2).2.2.2.2.2 ?_)
      refine (rn_step (e := (.goto (-64), 86, 19, 0, 0, 0, 0, [])) rfl).mpr ?_
      exact (k2 c1 c2)
    ·
      refine (rn_step (e := (.iconst 1, 67, 0, 0, 0, 0, 0, [])) rfl).mpr ?_
      refine (rn_step (e := (.iadd, 68, 0, 0, 0, 0, 0, [])) rfl).mpr (rn_cw (hr4 c1 c2).1 (hr4 c1 c2).2.1 ?_)
      refine (rn_step (e := (.istore_n 2, 69, 2, 0, 0, 0, 0, [])) rfl).mpr ?_
      refine (rn_step (e := (.aload_n 0, 70, 0, 0, 0, 0, 0, [])) rfl).mpr ?_
      refine (rn_step (e := (.getfield 25, 73, 10, 7, 909, 2, 11, [])) rfl).mpr (And.intro ((rn_ks466 (M := M) hM)) (rn_cg (rn_g466_7 (M := M) hM) ?_))
      refine (rn_step (e := (.iload 4, 75, 4, 0, 0, 0, 0, [])) rfl).mpr ?_
      refine (rn_step (e := (.aload_n 0, 76, 0, 0, 0, 0, 0, [])) rfl).mpr ?_
      refine (rn_step (e := (.getfield 108, 79, 10, 8, 910, 0, 11, [])) rfl).mpr (And.intro ((rn_ks466 (M := M) hM)) (?_))
      refine (rn_step (e := (.iastore, 80, 0, 0, 0, 0, 0, [])) rfl).mpr (And.intro ((rn_w472 (M := M) hM).1) (And.intro ((And.intro ((hr4 c1 c2).2.2.1) (rn_lt (rn_w472 (M := M) hM).2 (hr4 c1 c2).2.2.2.1))) (?_)))
      refine (rn_step (e := (.iinc 3 1, 83, 3, 0, 0, 0, 0, [])) rfl).mpr (rn_ci (hr4 c1 c2).2.2.2.2.1 (hr4 c1 c2).2.2.2.2.2 ?_)
      refine (rn_step (e := (.goto (-64), 86, 19, 0, 0, 0, 0, [])) rfl).mpr ?_
      exact (k3 c1 c2)
theorem re_Mo_river {M : rn_M} {Q : rn_Q} {v0 v1 v2 : rn_V} (h : rn_WP 176 0 [v0, v1, v2] [] M Q) : rn_ME 176 [v0, v1, v2] M Q := h
set_option maxRecDepth 4000 in
theorem rb_Mo_river_0 {M : rn_M} {Q : rn_Q} {xl1 : Int} {xl2 : Int} (hM : rn_sh M)   (hr1 : (0 ≤ rn_gi M 467 0 ∧ rn_gi M 467 0 ≤ 100)) (hr2 : (0 ≤ xl1 ∧ xl1 ≤ rn_gi M 467 0 - 1) → (0 ≤ xl2 ∧ xl2 ≤ 6) → (xl2 < 0 ∨ 5 < xl2) → ((0 : Int) ≤ xl1 ∧ (xl1 : Int) ≤ 5) ∧ ((0 : Int) ≤ 5 ∧ (5 : Int) ≤ 77) ∧ (-2147483648 : Int) ≤ rn_o (rn_gi M 467) xl1 5 + 1 ∧ rn_o (rn_gi M 467) xl1 5 + 1 ≤ 2147483647) (hr3 : (0 ≤ xl1 ∧ xl1 ≤ rn_gi M 467 0 - 1) → (0 ≤ xl2 ∧ xl2 ≤ 6) → (xl2 = 0) → ((0 : Int) ≤ xl1 ∧ (xl1 : Int) ≤ 5) ∧ ((0 : Int) ≤ 1 ∧ (1 : Int) ≤ 77)) (hr4 : (0 ≤ xl1 ∧ xl1 ≤ rn_gi M 467 0 - 1) → (0 ≤ xl2 ∧ xl2 ≤ 6) → (xl2 = 1) → ((0 : Int) ≤ xl1 ∧ (xl1 : Int) ≤ 5) ∧ ((0 : Int) ≤ 2 ∧ (2 : Int) ≤ 77)) (hr5 : (0 ≤ xl1 ∧ xl1 ≤ rn_gi M 467 0 - 1) → (0 ≤ xl2 ∧ xl2 ≤ 6) → (xl2 = 2) → ((0 : Int) ≤ xl1 ∧ (xl1 : Int) ≤ 5) ∧ ((0 : Int) ≤ 0 ∧ (0 : Int) ≤ 77)) (hr6 : (0 ≤ xl1 ∧ xl1 ≤ rn_gi M 467 0 - 1) → (0 ≤ xl2 ∧ xl2 ≤ 6) → (xl2 = 3) → ((0 : Int) ≤ xl1 ∧ (xl1 : Int) ≤ 5) ∧ ((0 : Int) ≤ 5 ∧ (5 : Int) ≤ 77)) (k1 : (¬ (0 ≤ xl1 ∧ xl1 ≤ rn_gi M 467 0 - 1)) → Q (some (rn_I (-1))) M) (k2 : (0 ≤ xl1 ∧ xl1 ≤ rn_gi M 467 0 - 1) → (¬ (0 ≤ xl2 ∧ xl2 ≤ 6)) → Q (some (rn_I (-1))) M) (k3 : (0 ≤ xl1 ∧ xl1 ≤ rn_gi M 467 0 - 1) → (0 ≤ xl2 ∧ xl2 ≤ 6) → (xl2 < 0 ∨ 5 < xl2) → rn_ME 150 [rn_R 466, rn_I xl1, rn_I 0, rn_I (rn_o (rn_gi M 467) xl1 5 + 1)] M (fun r M1 => rn_WP 176 114 [rn_R 466, rn_I xl1, rn_I xl2] (r.toList ++ []) M1 Q)) (k4 : (0 ≤ xl1 ∧ xl1 ≤ rn_gi M 467 0 - 1) → (0 ≤ xl2 ∧ xl2 ≤ 6) → (xl2 = 0) → Q (some (rn_I (rn_o (rn_gi M 467) xl1 1))) M) (k5 : (0 ≤ xl1 ∧ xl1 ≤ rn_gi M 467 0 - 1) → (0 ≤ xl2 ∧ xl2 ≤ 6) → (xl2 = 1) → Q (some (rn_I (rn_o (rn_gi M 467) xl1 2))) M) (k6 : (0 ≤ xl1 ∧ xl1 ≤ rn_gi M 467 0 - 1) → (0 ≤ xl2 ∧ xl2 ≤ 6) → (xl2 = 2) → Q (some (rn_I (rn_o (rn_gi M 467) xl1 0))) M) (k7 : (0 ≤ xl1 ∧ xl1 ≤ rn_gi M 467 0 - 1) → (0 ≤ xl2 ∧ xl2 ≤ 6) → (xl2 = 3) → Q (some (rn_I (rn_o (rn_gi M 467) xl1 5))) M) (k8 : (0 ≤ xl1 ∧ xl1 ≤ rn_gi M 467 0 - 1) → (0 ≤ xl2 ∧ xl2 ≤ 6) → (xl2 = 4) → rn_ME 171 [rn_R 466, rn_I xl1] M (fun r M1 => rn_WP 176 93 [rn_R 466, rn_I xl1, rn_I xl2] (r.toList ++ []) M1 Q)) (k9 : (0 ≤ xl1 ∧ xl1 ≤ rn_gi M 467 0 - 1) → (0 ≤ xl2 ∧ xl2 ≤ 6) → (xl2 = 5) → rn_ME 175 [rn_R 466, rn_I xl1] M (fun r M1 => rn_WP 176 99 [rn_R 466, rn_I xl1, rn_I xl2] (r.toList ++ []) M1 Q)) : rn_WP 176 0 [rn_R 466, rn_I xl1, rn_I xl2] [] M Q := by
  refine (rn_step (e := (.aload_n 0, 1, 0, 0, 0, 0, 0, [])) rfl).mpr ?_
  refine (rn_step (e := (.iload_n 1, 2, 1, 0, 0, 0, 0, [])) rfl).mpr ?_
  refine (rn_step (e := (.invokevirtual 84, 5, 127, 2, 994, 0, 11, [0])) rfl).mpr (And.intro ((rn_ks466 (M := M) hM)) ((rc_Mo_isRiver hM (hr1) ?_)))
  refine (rn_step (e := (.ifCond .eq 13, 8, 18, 0, 0, 0, 0, [])) rfl).mpr (And.intro (fun q => ?_) (fun q => ?_))
  · have c1 := rn_b0 q
    refine (rn_step (e := (.iconst (-1), 19, 0, 0, 0, 0, 0, [])) rfl).mpr ?_
    exact (rn_step (e := (.ireturn, 20, 0, 0, 0, 0, 0, [])) rfl).mpr (And.intro (trivial) ((k1 c1)))
  · have c1 := rn_b1 q
    refine (rn_step (e := (.iload_n 2, 9, 2, 0, 0, 0, 0, [])) rfl).mpr ?_
    refine (rn_step (e := (.iconst 0, 10, 0, 0, 0, 0, 0, [])) rfl).mpr ?_
    refine (rn_step (e := (.bipush 6, 12, 0, 0, 0, 0, 0, [])) rfl).mpr ?_
    refine (rn_step (e := (.invokestatic 41, 15, 124, 3, 956, 0, 11, [0])) rfl).mpr (rc_Mo_in  ?_)
    refine (rn_step (e := (.ifCond .ne 5, 18, 20, 0, 0, 0, 0, [])) rfl).mpr (And.intro (fun q => ?_) (fun q => ?_))
    · have c2 := rn_b0 q
      refine (rn_step (e := (.iconst (-1), 19, 0, 0, 0, 0, 0, [])) rfl).mpr ?_
      exact (rn_step (e := (.ireturn, 20, 0, 0, 0, 0, 0, [])) rfl).mpr (And.intro (trivial) ((k2 c1 c2)))
    · have c2 := rn_b1 q
      refine (rn_step (e := (.iload_n 2, 21, 2, 0, 0, 0, 0, [])) rfl).mpr ?_
      refine (rn_step (e := (.tableswitch 79 0 5 #[39, 46, 53, 60, 67, 73], 60, 100, 0, 0, 0, 0, [60, 67, 74, 81, 88, 94])) rfl).mpr (And.intro (fun c3 => ?_) (fun q => ?_))
      ·
        refine (rn_step (e := (.aload_n 0, 101, 0, 0, 0, 0, 0, [])) rfl).mpr ?_
        refine (rn_step (e := (.iload_n 1, 102, 1, 0, 0, 0, 0, [])) rfl).mpr ?_
        refine (rn_step (e := (.iconst 0, 103, 0, 0, 0, 0, 0, [])) rfl).mpr ?_
        refine (rn_step (e := (.aload_n 0, 104, 0, 0, 0, 0, 0, [])) rfl).mpr ?_
        refine (rn_step (e := (.iload_n 1, 105, 1, 0, 0, 0, 0, [])) rfl).mpr ?_
        refine (rn_step (e := (.iconst 5, 106, 0, 0, 0, 0, 0, [])) rfl).mpr ?_
        refine (rn_step (e := (.invokevirtual 49, 109, 129, 3, 1002, 0, 11, [0])) rfl).mpr (And.intro ((rn_ks466 (M := M) hM)) ((rc_Mo_of hM ((hr2 c1 c2 c3).1) ((hr2 c1 c2 c3).2.1) ?_)))
        refine (rn_step (e := (.iconst 1, 110, 0, 0, 0, 0, 0, [])) rfl).mpr ?_
        refine (rn_step (e := (.iadd, 111, 0, 0, 0, 0, 0, [])) rfl).mpr (rn_cw (hr2 c1 c2 c3).2.2.1 (hr2 c1 c2 c3).2.2.2 ?_)
        exact (rn_step (e := (.invokevirtual 104, 114, 150, 4, 1099, 0, 11, [0])) rfl).mpr (And.intro ((rn_ks466 (M := M) hM)) ((k3 c1 c2 c3)))
      ·
        obtain ⟨n, hn⟩ : ∃ n : Nat, xl2 = (n : Int) := ⟨(xl2).toNat, by omega⟩
        rw [show (xl2 - 0).toNat = n by omega]
        match n, hn with
        | 0, c3 =>
          refine (rn_step (e := (.aload_n 0, 61, 0, 0, 0, 0, 0, [])) rfl).mpr ?_
          refine (rn_step (e := (.iload_n 1, 62, 1, 0, 0, 0, 0, [])) rfl).mpr ?_
          refine (rn_step (e := (.iconst 1, 63, 0, 0, 0, 0, 0, [])) rfl).mpr ?_
          refine (rn_step (e := (.invokevirtual 49, 66, 129, 3, 1002, 0, 11, [0])) rfl).mpr (And.intro ((rn_ks466 (M := M) hM)) ((rc_Mo_of hM ((hr3 c1 c2 c3).1) ((hr3 c1 c2 c3).2) ?_)))
          exact (rn_step (e := (.ireturn, 67, 0, 0, 0, 0, 0, [])) rfl).mpr (And.intro (trivial) ((k4 c1 c2 c3)))
        | 1, c3 =>
          refine (rn_step (e := (.aload_n 0, 68, 0, 0, 0, 0, 0, [])) rfl).mpr ?_
          refine (rn_step (e := (.iload_n 1, 69, 1, 0, 0, 0, 0, [])) rfl).mpr ?_
          refine (rn_step (e := (.iconst 2, 70, 0, 0, 0, 0, 0, [])) rfl).mpr ?_
          refine (rn_step (e := (.invokevirtual 49, 73, 129, 3, 1002, 0, 11, [0])) rfl).mpr (And.intro ((rn_ks466 (M := M) hM)) ((rc_Mo_of hM ((hr4 c1 c2 c3).1) ((hr4 c1 c2 c3).2) ?_)))
          exact (rn_step (e := (.ireturn, 74, 0, 0, 0, 0, 0, [])) rfl).mpr (And.intro (trivial) ((k5 c1 c2 c3)))
        | 2, c3 =>
          refine (rn_step (e := (.aload_n 0, 75, 0, 0, 0, 0, 0, [])) rfl).mpr ?_
          refine (rn_step (e := (.iload_n 1, 76, 1, 0, 0, 0, 0, [])) rfl).mpr ?_
          refine (rn_step (e := (.iconst 0, 77, 0, 0, 0, 0, 0, [])) rfl).mpr ?_
          refine (rn_step (e := (.invokevirtual 49, 80, 129, 3, 1002, 0, 11, [0])) rfl).mpr (And.intro ((rn_ks466 (M := M) hM)) ((rc_Mo_of hM ((hr5 c1 c2 c3).1) ((hr5 c1 c2 c3).2) ?_)))
          exact (rn_step (e := (.ireturn, 81, 0, 0, 0, 0, 0, [])) rfl).mpr (And.intro (trivial) ((k6 c1 c2 c3)))
        | 3, c3 =>
          refine (rn_step (e := (.aload_n 0, 82, 0, 0, 0, 0, 0, [])) rfl).mpr ?_
          refine (rn_step (e := (.iload_n 1, 83, 1, 0, 0, 0, 0, [])) rfl).mpr ?_
          refine (rn_step (e := (.iconst 5, 84, 0, 0, 0, 0, 0, [])) rfl).mpr ?_
          refine (rn_step (e := (.invokevirtual 49, 87, 129, 3, 1002, 0, 11, [0])) rfl).mpr (And.intro ((rn_ks466 (M := M) hM)) ((rc_Mo_of hM ((hr6 c1 c2 c3).1) ((hr6 c1 c2 c3).2) ?_)))
          exact (rn_step (e := (.ireturn, 88, 0, 0, 0, 0, 0, [])) rfl).mpr (And.intro (trivial) ((k7 c1 c2 c3)))
        | 4, c3 =>
          refine (rn_step (e := (.aload_n 0, 89, 0, 0, 0, 0, 0, [])) rfl).mpr ?_
          refine (rn_step (e := (.iload_n 1, 90, 1, 0, 0, 0, 0, [])) rfl).mpr ?_
          exact (rn_step (e := (.invokevirtual 151, 93, 171, 2, 1130, 0, 11, [0])) rfl).mpr (And.intro ((rn_ks466 (M := M) hM)) ((k8 c1 c2 c3)))
        | 5, c3 =>
          refine (rn_step (e := (.aload_n 0, 95, 0, 0, 0, 0, 0, [])) rfl).mpr ?_
          refine (rn_step (e := (.iload_n 1, 96, 1, 0, 0, 0, 0, [])) rfl).mpr ?_
          exact (rn_step (e := (.invokevirtual 170, 99, 175, 2, 1142, 0, 11, [0])) rfl).mpr (And.intro ((rn_ks466 (M := M) hM)) ((k9 c1 c2 c3)))
        | n + 6, hn => exact absurd (Or.inr (by omega)) q
set_option maxRecDepth 4000 in
theorem rb_Mo_river_93 {M : rn_M} {Q : rn_Q} {vl0 : rn_V} {vl1 : rn_V} {vl2 : rn_V} {xs0 : Int}   (k1 : Q (some (rn_I xs0)) M) : rn_WP 176 93 [vl0, vl1, vl2] [rn_I xs0] M Q := by
  exact (rn_step (e := (.ireturn, 94, 0, 0, 0, 0, 0, [])) rfl).mpr (And.intro (trivial) (k1))
set_option maxRecDepth 4000 in
theorem rb_Mo_river_99 {M : rn_M} {Q : rn_Q} {vl0 : rn_V} {vl1 : rn_V} {vl2 : rn_V} {xs0 : Int}   (k1 : Q (some (rn_I xs0)) M) : rn_WP 176 99 [vl0, vl1, vl2] [rn_I xs0] M Q := by
  exact (rn_step (e := (.ireturn, 100, 0, 0, 0, 0, 0, [])) rfl).mpr (And.intro (trivial) (k1))
set_option maxRecDepth 4000 in
theorem rb_Mo_river_114 {M : rn_M} {Q : rn_Q} {vl0 : rn_V} {vl1 : rn_V} {vl2 : rn_V} {xs0 : Int}   (k1 : Q (some (rn_I xs0)) M) : rn_WP 176 114 [vl0, vl1, vl2] [rn_I xs0] M Q := by
  exact (rn_step (e := (.ireturn, 115, 0, 0, 0, 0, 0, [])) rfl).mpr (And.intro (trivial) (k1))
theorem re_Mo_cell {M : rn_M} {Q : rn_Q} {v0 v1 v2 : rn_V} (h : rn_WP 177 0 [v0, v1, v2] [] M Q) : rn_ME 177 [v0, v1, v2] M Q := h
set_option maxRecDepth 4000 in
theorem rb_Mo_cell_0 {M : rn_M} {Q : rn_Q} {xl1 : Int} {xl2 : Int} (hM : rn_sh M)   (hr1 : (0 ≤ rn_gi M 467 0 ∧ rn_gi M 467 0 ≤ 100)) (k1 : (¬ (0 ≤ xl1 ∧ xl1 ≤ rn_gi M 467 0 - 1)) → Q (some (rn_I (-1))) M) (k2 : (0 ≤ xl1 ∧ xl1 ≤ rn_gi M 467 0 - 1) → (¬ (0 ≤ xl2 ∧ xl2 ≤ 60)) → Q (some (rn_I (-1))) M) (k3 : (0 ≤ xl1 ∧ xl1 ≤ rn_gi M 467 0 - 1) → (0 ≤ xl2 ∧ xl2 ≤ 60) → rn_ME 133 [rn_R 466, rn_I xl1] M (fun r M1 => rn_WP 177 22 [rn_R 466, rn_I xl1, rn_I xl2] (r.toList ++ []) M1 Q)) : rn_WP 177 0 [rn_R 466, rn_I xl1, rn_I xl2] [] M Q := by
  refine (rn_step (e := (.aload_n 0, 1, 0, 0, 0, 0, 0, [])) rfl).mpr ?_
  refine (rn_step (e := (.iload_n 1, 2, 1, 0, 0, 0, 0, [])) rfl).mpr ?_
  refine (rn_step (e := (.invokevirtual 84, 5, 127, 2, 994, 0, 11, [0])) rfl).mpr (And.intro ((rn_ks466 (M := M) hM)) ((rc_Mo_isRiver hM (hr1) ?_)))
  refine (rn_step (e := (.ifCond .eq 10, 8, 15, 0, 0, 0, 0, [])) rfl).mpr (And.intro (fun q => ?_) (fun q => ?_))
  · have c1 := rn_b0 q
    refine (rn_step (e := (.iconst (-1), 16, 0, 0, 0, 0, 0, [])) rfl).mpr ?_
    exact (rn_step (e := (.ireturn, 17, 0, 0, 0, 0, 0, [])) rfl).mpr (And.intro (trivial) ((k1 c1)))
  · have c1 := rn_b1 q
    refine (rn_step (e := (.iload_n 2, 9, 2, 0, 0, 0, 0, [])) rfl).mpr ?_
    refine (rn_step (e := (.invokestatic 133, 12, 163, 1, 1044, 0, 11, [0])) rfl).mpr (rc_Mo_isStart  ?_)
    refine (rn_step (e := (.ifCond .ne 5, 15, 17, 0, 0, 0, 0, [])) rfl).mpr (And.intro (fun q => ?_) (fun q => ?_))
    · have c2 := rn_b0 q
      refine (rn_step (e := (.iconst (-1), 16, 0, 0, 0, 0, 0, [])) rfl).mpr ?_
      exact (rn_step (e := (.ireturn, 17, 0, 0, 0, 0, 0, [])) rfl).mpr (And.intro (trivial) ((k2 c1 c2)))
    · have c2 := rn_b1 q
      refine (rn_step (e := (.aload_n 0, 18, 0, 0, 0, 0, 0, [])) rfl).mpr ?_
      refine (rn_step (e := (.iload_n 1, 19, 1, 0, 0, 0, 0, [])) rfl).mpr ?_
      exact (rn_step (e := (.invokevirtual 87, 22, 133, 2, 998, 0, 11, [0])) rfl).mpr (And.intro ((rn_ks466 (M := M) hM)) ((k3 c1 c2)))
set_option maxRecDepth 4000 in
theorem rb_Mo_cell_22 {M : rn_M} {Q : rn_Q} {xl1 : Int} {xl2 : Int} (hM : rn_sh M)   (hr1 : ((0 : Int) ≤ xl1 ∧ (xl1 : Int) ≤ 5) ∧ ((0 : Int) ≤ 5 ∧ (5 : Int) ≤ 77)) (hr2 : (xl2 ≤ rn_o (rn_gi M 467) xl1 5) → (0 : Int) ≤ xl2 ∧ xl2 < (61 : Int) ∧ (-2147483648 : Int) ≤ 100 * (rn_gi M 470 (xl2).toNat) ∧ 100 * (rn_gi M 470 (xl2).toNat) ≤ 2147483647 ∧ (-2147483648 : Int) ≤ (100 * (rn_gi M 470 (xl2).toNat)) + (rn_gi M 471 (xl2).toNat) ∧ (100 * (rn_gi M 470 (xl2).toNat)) + (rn_gi M 471 (xl2).toNat) ≤ 2147483647) (k1 : (xl2 ≤ rn_o (rn_gi M 467) xl1 5) → Q (some (rn_I ((100 * (rn_gi M 470 (xl2).toNat)) + (rn_gi M 471 (xl2).toNat)))) M) (k2 : (¬ (xl2 ≤ rn_o (rn_gi M 467) xl1 5)) → Q (some (rn_I (-9))) M) : rn_WP 177 22 [rn_R 466, rn_I xl1, rn_I xl2] [] M Q := by
  refine (rn_step (e := (.iload_n 2, 23, 2, 0, 0, 0, 0, [])) rfl).mpr ?_
  refine (rn_step (e := (.aload_n 0, 24, 0, 0, 0, 0, 0, [])) rfl).mpr ?_
  refine (rn_step (e := (.iload_n 1, 25, 1, 0, 0, 0, 0, [])) rfl).mpr ?_
  refine (rn_step (e := (.iconst 5, 26, 0, 0, 0, 0, 0, [])) rfl).mpr ?_
  refine (rn_step (e := (.invokevirtual 49, 29, 129, 3, 1002, 0, 11, [0])) rfl).mpr (And.intro ((rn_ks466 (M := M) hM)) ((rc_Mo_of hM (hr1.1) (hr1.2) ?_)))
  refine (rn_step (e := (.if_icmp .le 8, 32, 37, 0, 0, 0, 0, [])) rfl).mpr (And.intro (fun c1 => ?_) (fun c1 => ?_))
  ·
    refine (rn_step (e := (.bipush 100, 39, 0, 0, 0, 0, 0, [])) rfl).mpr ?_
    refine (rn_step (e := (.aload_n 0, 40, 0, 0, 0, 0, 0, [])) rfl).mpr ?_
    refine (rn_step (e := (.getfield 19, 43, 10, 5, 907, 2, 11, [])) rfl).mpr (And.intro ((rn_ks466 (M := M) hM)) (rn_cg (rn_g466_5 (M := M) hM) ?_))
    refine (rn_step (e := (.iload_n 2, 44, 2, 0, 0, 0, 0, [])) rfl).mpr ?_
    refine (rn_step (e := (.iaload, 45, 0, 0, 0, 0, 0, [])) rfl).mpr (And.intro (Or.inl (rn_w470 (M := M) hM).1) (And.intro ((And.intro ((hr2 c1).1) (rn_lt (rn_w470 (M := M) hM).2 (hr2 c1).2.1))) (?_)))
    refine (rn_step (e := (.imul, 46, 0, 0, 0, 0, 0, [])) rfl).mpr (rn_cw (hr2 c1).2.2.1 (hr2 c1).2.2.2.1 ?_)
    refine (rn_step (e := (.aload_n 0, 47, 0, 0, 0, 0, 0, [])) rfl).mpr ?_
    refine (rn_step (e := (.getfield 22, 50, 10, 6, 908, 2, 11, [])) rfl).mpr (And.intro ((rn_ks466 (M := M) hM)) (rn_cg (rn_g466_6 (M := M) hM) ?_))
    refine (rn_step (e := (.iload_n 2, 51, 2, 0, 0, 0, 0, [])) rfl).mpr ?_
    refine (rn_step (e := (.iaload, 52, 0, 0, 0, 0, 0, [])) rfl).mpr (And.intro (Or.inl (rn_w471 (M := M) hM).1) (And.intro ((And.intro ((hr2 c1).1) (rn_lt (rn_w471 (M := M) hM).2 (hr2 c1).2.1))) (?_)))
    refine (rn_step (e := (.iadd, 53, 0, 0, 0, 0, 0, [])) rfl).mpr (rn_cw (hr2 c1).2.2.2.2.1 (hr2 c1).2.2.2.2.2 ?_)
    exact (rn_step (e := (.ireturn, 54, 0, 0, 0, 0, 0, [])) rfl).mpr (And.intro (trivial) ((k1 c1)))
  ·
    refine (rn_step (e := (.bipush (-9), 34, 0, 0, 0, 0, 0, [])) rfl).mpr ?_
    refine (rn_step (e := (.goto 19, 37, 53, 0, 0, 0, 0, [])) rfl).mpr ?_
    exact (rn_step (e := (.ireturn, 54, 0, 0, 0, 0, 0, [])) rfl).mpr (And.intro (trivial) ((k2 c1)))
