theorem re_Mo_letter {M : rn_M} {Q : rn_Q} {v0 v1 v2 : rn_V} (h : rn_WP 178 0 [v0, v1, v2] [] M Q) : rn_ME 178 [v0, v1, v2] M Q := h
set_option maxRecDepth 4000 in
theorem rb_Mo_letter_0 {M : rn_M} {Q : rn_Q} {xl1 : Int} {xl2 : Int} (hM : rn_sh M)   (hr1 : (0 ≤ rn_gi M 467 0 ∧ rn_gi M 467 0 ≤ 100)) (hr2 : (0 ≤ xl1 ∧ xl1 ≤ rn_gi M 467 0 - 1) → (0 ≤ xl2) → ((0 : Int) ≤ xl1 ∧ (xl1 : Int) ≤ 5) ∧ ((0 : Int) ≤ 0 ∧ (0 : Int) ≤ 77)) (hr3 : (0 ≤ xl1 ∧ xl1 ≤ rn_gi M 467 0 - 1) → (0 ≤ xl2) → (xl2 < rn_o (rn_gi M 467) xl1 0) → (-2147483648 : Int) ≤ 6 + xl2 ∧ 6 + xl2 ≤ 2147483647 ∧ ((0 : Int) ≤ xl1 ∧ (xl1 : Int) ≤ 5) ∧ ((0 : Int) ≤ 6 + xl2 ∧ (6 + xl2 : Int) ≤ 77)) (k1 : (¬ (0 ≤ xl1 ∧ xl1 ≤ rn_gi M 467 0 - 1)) → Q (some (rn_I (-1))) M) (k2 : (0 ≤ xl1 ∧ xl1 ≤ rn_gi M 467 0 - 1) → (0 ≤ xl2) → (xl2 < rn_o (rn_gi M 467) xl1 0) → Q (some (rn_I (rn_o (rn_gi M 467) xl1 (6 + xl2)))) M) (k3 : (0 ≤ xl1 ∧ xl1 ≤ rn_gi M 467 0 - 1) → (0 ≤ xl2) → (¬ (xl2 < rn_o (rn_gi M 467) xl1 0)) → Q (some (rn_I (-9))) M) (k4 : (0 ≤ xl1 ∧ xl1 ≤ rn_gi M 467 0 - 1) → (¬ (0 ≤ xl2)) → Q (some (rn_I (-1))) M) : rn_WP 178 0 [rn_R 466, rn_I xl1, rn_I xl2] [] M Q := by
  refine (rn_step (e := (.aload_n 0, 1, 0, 0, 0, 0, 0, [])) rfl).mpr ?_
  refine (rn_step (e := (.iload_n 1, 2, 1, 0, 0, 0, 0, [])) rfl).mpr ?_
  refine (rn_step (e := (.invokevirtual 84, 5, 127, 2, 994, 0, 11, [0])) rfl).mpr (And.intro ((rn_ks466 (M := M) hM)) ((rc_Mo_isRiver hM (hr1) ?_)))
  refine (rn_step (e := (.ifCond .eq 7, 8, 12, 0, 0, 0, 0, [])) rfl).mpr (And.intro (fun q => ?_) (fun q => ?_))
  · have c1 := rn_b0 q
    refine (rn_step (e := (.iconst (-1), 13, 0, 0, 0, 0, 0, [])) rfl).mpr ?_
    exact (rn_step (e := (.ireturn, 14, 0, 0, 0, 0, 0, [])) rfl).mpr (And.intro (trivial) ((k1 c1)))
  · have c1 := rn_b1 q
    refine (rn_step (e := (.iload_n 2, 9, 2, 0, 0, 0, 0, [])) rfl).mpr ?_
    refine (rn_step (e := (.ifCond .ge 5, 12, 14, 0, 0, 0, 0, [])) rfl).mpr (And.intro (fun c2 => ?_) (fun c2 => ?_))
    ·
      refine (rn_step (e := (.iload_n 2, 15, 2, 0, 0, 0, 0, [])) rfl).mpr ?_
      refine (rn_step (e := (.aload_n 0, 16, 0, 0, 0, 0, 0, [])) rfl).mpr ?_
      refine (rn_step (e := (.iload_n 1, 17, 1, 0, 0, 0, 0, [])) rfl).mpr ?_
      refine (rn_step (e := (.iconst 0, 18, 0, 0, 0, 0, 0, [])) rfl).mpr ?_
      refine (rn_step (e := (.invokevirtual 49, 21, 129, 3, 1002, 0, 11, [0])) rfl).mpr (And.intro ((rn_ks466 (M := M) hM)) ((rc_Mo_of hM ((hr2 c1 c2).1) ((hr2 c1 c2).2) ?_)))
      refine (rn_step (e := (.if_icmp .lt 8, 24, 29, 0, 0, 0, 0, [])) rfl).mpr (And.intro (fun c3 => ?_) (fun c3 => ?_))
      ·
        refine (rn_step (e := (.aload_n 0, 30, 0, 0, 0, 0, 0, [])) rfl).mpr ?_
        refine (rn_step (e := (.iload_n 1, 31, 1, 0, 0, 0, 0, [])) rfl).mpr ?_
        refine (rn_step (e := (.bipush 6, 33, 0, 0, 0, 0, 0, [])) rfl).mpr ?_
        refine (rn_step (e := (.iload_n 2, 34, 2, 0, 0, 0, 0, [])) rfl).mpr ?_
        refine (rn_step (e := (.iadd, 35, 0, 0, 0, 0, 0, [])) rfl).mpr (rn_cw (hr3 c1 c2 c3).1 (hr3 c1 c2 c3).2.1 ?_)
        refine (rn_step (e := (.invokevirtual 49, 38, 129, 3, 1002, 0, 11, [0])) rfl).mpr (And.intro ((rn_ks466 (M := M) hM)) ((rc_Mo_of hM ((hr3 c1 c2 c3).2.2.1) ((hr3 c1 c2 c3).2.2.2) ?_)))
        exact (rn_step (e := (.ireturn, 39, 0, 0, 0, 0, 0, [])) rfl).mpr (And.intro (trivial) ((k2 c1 c2 c3)))
      ·
        refine (rn_step (e := (.bipush (-9), 26, 0, 0, 0, 0, 0, [])) rfl).mpr ?_
        refine (rn_step (e := (.goto 12, 29, 38, 0, 0, 0, 0, [])) rfl).mpr ?_
        exact (rn_step (e := (.ireturn, 39, 0, 0, 0, 0, 0, [])) rfl).mpr (And.intro (trivial) ((k3 c1 c2 c3)))
    ·
      refine (rn_step (e := (.iconst (-1), 13, 0, 0, 0, 0, 0, [])) rfl).mpr ?_
      exact (rn_step (e := (.ireturn, 14, 0, 0, 0, 0, 0, [])) rfl).mpr (And.intro (trivial) ((k4 c1 c2)))
theorem re_Mo_town {M : rn_M} {Q : rn_Q} {v0 v1 v2 : rn_V} (h : rn_WP 179 0 [v0, v1, v2, rn_J, rn_J, rn_J] [] M Q) : rn_ME 179 [v0, v1, v2] M Q := h
set_option maxRecDepth 4000 in
theorem rb_Mo_town_0 {M : rn_M} {Q : rn_Q} {xl1 : Int} {xl2 : Int} {vl3 : rn_V} {vl4 : rn_V} {vl5 : rn_V} (hM : rn_sh M)   (hr1 : (0 ≤ rn_gi M 467 1 ∧ rn_gi M 467 1 ≤ 100)) (hr2 : (0 ≤ xl1 ∧ xl1 ≤ rn_gi M 467 1 - 1) → (0 ≤ xl2 ∧ xl2 ≤ 5) → (xl2 < 5) → (-2147483648 : Int) ≤ 5 * xl1 ∧ 5 * xl1 ≤ 2147483647 ∧ (-2147483648 : Int) ≤ 472 + (5 * xl1) ∧ 472 + (5 * xl1) ≤ 2147483647 ∧ (-2147483648 : Int) ≤ (472 + (5 * xl1)) + xl2 ∧ (472 + (5 * xl1)) + xl2 ≤ 2147483647 ∧ (0 : Int) ≤ (472 + (5 * xl1)) + xl2 ∧ (472 + (5 * xl1)) + xl2 < (562 : Int)) (k1 : (¬ (0 ≤ xl1 ∧ xl1 ≤ rn_gi M 467 1 - 1)) → Q (some (rn_I (-1))) M) (k2 : (0 ≤ xl1 ∧ xl1 ≤ rn_gi M 467 1 - 1) → (¬ (0 ≤ xl2 ∧ xl2 ≤ 5)) → Q (some (rn_I (-1))) M) (k3 : (0 ≤ xl1 ∧ xl1 ≤ rn_gi M 467 1 - 1) → (0 ≤ xl2 ∧ xl2 ≤ 5) → (xl2 < 5) → Q (some (rn_I (rn_gi M 467 ((472 + (5 * xl1)) + xl2).toNat))) M) (k4 : (0 ≤ xl1 ∧ xl1 ≤ rn_gi M 467 1 - 1) → (0 ≤ xl2 ∧ xl2 ≤ 5) → (¬ (xl2 < 5)) → rn_WP 179 44 [rn_R 466, rn_I xl1, rn_I xl2, rn_I 0, rn_I 0, vl5] [] M Q) : rn_WP 179 0 [rn_R 466, rn_I xl1, rn_I xl2, vl3, vl4, vl5] [] M Q := by
  refine (rn_step (e := (.aload_n 0, 1, 0, 0, 0, 0, 0, [])) rfl).mpr ?_
  refine (rn_step (e := (.iload_n 1, 2, 1, 0, 0, 0, 0, [])) rfl).mpr ?_
  refine (rn_step (e := (.invokevirtual 98, 5, 146, 2, 1032, 0, 11, [0])) rfl).mpr (And.intro ((rn_ks466 (M := M) hM)) ((rc_Mo_isTownNumber hM (hr1) ?_)))
  refine (rn_step (e := (.ifCond .eq 12, 8, 17, 0, 0, 0, 0, [])) rfl).mpr (And.intro (fun q => ?_) (fun q => ?_))
  · have c1 := rn_b0 q
    refine (rn_step (e := (.iconst (-1), 18, 0, 0, 0, 0, 0, [])) rfl).mpr ?_
    exact (rn_step (e := (.ireturn, 19, 0, 0, 0, 0, 0, [])) rfl).mpr (And.intro (trivial) ((k1 c1)))
  · have c1 := rn_b1 q
    refine (rn_step (e := (.iload_n 2, 9, 2, 0, 0, 0, 0, [])) rfl).mpr ?_
    refine (rn_step (e := (.iconst 0, 10, 0, 0, 0, 0, 0, [])) rfl).mpr ?_
    refine (rn_step (e := (.iconst 5, 11, 0, 0, 0, 0, 0, [])) rfl).mpr ?_
    refine (rn_step (e := (.invokestatic 41, 14, 124, 3, 956, 0, 11, [0])) rfl).mpr (rc_Mo_in  ?_)
    refine (rn_step (e := (.ifCond .ne 5, 17, 19, 0, 0, 0, 0, [])) rfl).mpr (And.intro (fun q => ?_) (fun q => ?_))
    · have c2 := rn_b0 q
      refine (rn_step (e := (.iconst (-1), 18, 0, 0, 0, 0, 0, [])) rfl).mpr ?_
      exact (rn_step (e := (.ireturn, 19, 0, 0, 0, 0, 0, [])) rfl).mpr (And.intro (trivial) ((k2 c1 c2)))
    · have c2 := rn_b1 q
      refine (rn_step (e := (.iload_n 2, 20, 2, 0, 0, 0, 0, [])) rfl).mpr ?_
      refine (rn_step (e := (.iconst 5, 21, 0, 0, 0, 0, 0, [])) rfl).mpr ?_
      refine (rn_step (e := (.if_icmp .ge 18, 24, 39, 0, 0, 0, 0, [])) rfl).mpr (And.intro (fun c3 => ?_) (fun c3 => ?_))
      ·
        refine (rn_step (e := (.aload_n 0, 25, 0, 0, 0, 0, 0, [])) rfl).mpr ?_
        refine (rn_step (e := (.getfield 7, 28, 10, 0, 902, 2, 11, [])) rfl).mpr (And.intro ((rn_ks466 (M := M) hM)) (rn_cg (rn_g466_0 (M := M) hM) ?_))
        refine (rn_step (e := (.sipush 472, 31, 0, 0, 0, 0, 0, [])) rfl).mpr ?_
        refine (rn_step (e := (.iconst 5, 32, 0, 0, 0, 0, 0, [])) rfl).mpr ?_
        refine (rn_step (e := (.iload_n 1, 33, 1, 0, 0, 0, 0, [])) rfl).mpr ?_
        refine (rn_step (e := (.imul, 34, 0, 0, 0, 0, 0, [])) rfl).mpr (rn_cw (hr2 c1 c2 c3).1 (hr2 c1 c2 c3).2.1 ?_)
        refine (rn_step (e := (.iadd, 35, 0, 0, 0, 0, 0, [])) rfl).mpr (rn_cw (hr2 c1 c2 c3).2.2.1 (hr2 c1 c2 c3).2.2.2.1 ?_)
        refine (rn_step (e := (.iload_n 2, 36, 2, 0, 0, 0, 0, [])) rfl).mpr ?_
        refine (rn_step (e := (.iadd, 37, 0, 0, 0, 0, 0, [])) rfl).mpr (rn_cw (hr2 c1 c2 c3).2.2.2.2.1 (hr2 c1 c2 c3).2.2.2.2.2.1 ?_)
        refine (rn_step (e := (.iaload, 38, 0, 0, 0, 0, 0, [])) rfl).mpr (And.intro (Or.inl (rn_w467 (M := M) hM).1) (And.intro ((And.intro ((hr2 c1 c2 c3).2.2.2.2.2.2.1) (rn_lt (rn_w467 (M := M) hM).2 (hr2 c1 c2 c3).2.2.2.2.2.2.2))) (?_)))
        exact (rn_step (e := (.ireturn, 39, 0, 0, 0, 0, 0, [])) rfl).mpr (And.intro (trivial) ((k3 c1 c2 c3)))
      ·
        refine (rn_step (e := (.iconst 0, 40, 0, 0, 0, 0, 0, [])) rfl).mpr ?_
        refine (rn_step (e := (.istore_n 3, 41, 3, 0, 0, 0, 0, [])) rfl).mpr ?_
        refine (rn_step (e := (.iconst 0, 42, 0, 0, 0, 0, 0, [])) rfl).mpr ?_
        refine (rn_step (e := (.istore 4, 44, 4, 0, 0, 0, 0, [])) rfl).mpr ?_
        exact (k4 c1 c2 c3)
set_option maxRecDepth 4000 in
theorem rb_Mo_town_44 {M : rn_M} {Q : rn_Q} {vl1 : rn_V} {vl2 : rn_V} {xl3 : Int} {xl4 : Int} {vl5 : rn_V} (hM : rn_sh M)   (hr1 : (xl4 < rn_gi M 467 2) → (-2147483648 : Int) ≤ 2 * xl4 ∧ 2 * xl4 ≤ 2147483647 ∧ (-2147483648 : Int) ≤ 522 + (2 * xl4) ∧ 522 + (2 * xl4) ≤ 2147483647 ∧ (0 : Int) ≤ 522 + (2 * xl4) ∧ 522 + (2 * xl4) < (562 : Int) ∧ (-2147483648 : Int) ≤ (522 + (2 * xl4)) + 1 ∧ (522 + (2 * xl4)) + 1 ≤ 2147483647 ∧ (0 : Int) ≤ (522 + (2 * xl4)) + 1 ∧ (522 + (2 * xl4)) + 1 < (562 : Int)) (k1 : (xl4 < rn_gi M 467 2) → rn_ME 154 [rn_R 466, rn_I (rn_gi M 467 (522 + (2 * xl4)).toNat), rn_I (rn_gi M 467 ((522 + (2 * xl4)) + 1).toNat)] M (fun r M1 => rn_WP 179 87 [rn_R 466, vl1, vl2, rn_I xl3, rn_I xl4, vl5] (r.toList ++ []) M1 Q)) (k2 : (¬ (xl4 < rn_gi M 467 2)) → Q (some (rn_I xl3)) M) : rn_WP 179 44 [rn_R 466, vl1, vl2, rn_I xl3, rn_I xl4, vl5] [] M Q := by
  refine (rn_step (e := (.iload 4, 46, 4, 0, 0, 0, 0, [])) rfl).mpr ?_
  refine (rn_step (e := (.aload_n 0, 47, 0, 0, 0, 0, 0, [])) rfl).mpr ?_
  refine (rn_step (e := (.getfield 7, 50, 10, 0, 902, 2, 11, [])) rfl).mpr (And.intro ((rn_ks466 (M := M) hM)) (rn_cg (rn_g466_0 (M := M) hM) ?_))
  refine (rn_step (e := (.iconst 2, 51, 0, 0, 0, 0, 0, [])) rfl).mpr ?_
  refine (rn_step (e := (.iaload, 52, 0, 0, 0, 0, 0, [])) rfl).mpr (And.intro (Or.inl (rn_w467 (M := M) hM).1) (And.intro ((And.intro ((by decide)) (rn_lt (rn_w467 (M := M) hM).2 (by decide)))) (?_)))
  refine (rn_step (e := (.if_icmp .ge 59, 55, 111, 0, 0, 0, 0, [])) rfl).mpr (And.intro (fun c1 => ?_) (fun c1 => ?_))
  ·
    refine (rn_step (e := (.aload_n 0, 56, 0, 0, 0, 0, 0, [])) rfl).mpr ?_
    refine (rn_step (e := (.aload_n 0, 57, 0, 0, 0, 0, 0, [])) rfl).mpr ?_
    refine (rn_step (e := (.getfield 7, 60, 10, 0, 902, 2, 11, [])) rfl).mpr (And.intro ((rn_ks466 (M := M) hM)) (rn_cg (rn_g466_0 (M := M) hM) ?_))
    refine (rn_step (e := (.sipush 522, 63, 0, 0, 0, 0, 0, [])) rfl).mpr ?_
    refine (rn_step (e := (.iconst 2, 64, 0, 0, 0, 0, 0, [])) rfl).mpr ?_
    refine (rn_step (e := (.iload 4, 66, 4, 0, 0, 0, 0, [])) rfl).mpr ?_
    refine (rn_step (e := (.imul, 67, 0, 0, 0, 0, 0, [])) rfl).mpr (rn_cw (hr1 c1).1 (hr1 c1).2.1 ?_)
    refine (rn_step (e := (.iadd, 68, 0, 0, 0, 0, 0, [])) rfl).mpr (rn_cw (hr1 c1).2.2.1 (hr1 c1).2.2.2.1 ?_)
    refine (rn_step (e := (.iaload, 69, 0, 0, 0, 0, 0, [])) rfl).mpr (And.intro (Or.inl (rn_w467 (M := M) hM).1) (And.intro ((And.intro ((hr1 c1).2.2.2.2.1) (rn_lt (rn_w467 (M := M) hM).2 (hr1 c1).2.2.2.2.2.1))) (?_)))
    refine (rn_step (e := (.aload_n 0, 70, 0, 0, 0, 0, 0, [])) rfl).mpr ?_
    refine (rn_step (e := (.getfield 7, 73, 10, 0, 902, 2, 11, [])) rfl).mpr (And.intro ((rn_ks466 (M := M) hM)) (rn_cg (rn_g466_0 (M := M) hM) ?_))
    refine (rn_step (e := (.sipush 522, 76, 0, 0, 0, 0, 0, [])) rfl).mpr ?_
    refine (rn_step (e := (.iconst 2, 77, 0, 0, 0, 0, 0, [])) rfl).mpr ?_
    refine (rn_step (e := (.iload 4, 79, 4, 0, 0, 0, 0, [])) rfl).mpr ?_
    refine (rn_step (e := (.imul, 80, 0, 0, 0, 0, 0, [])) rfl).mpr (rn_cw (hr1 c1).1 (hr1 c1).2.1 ?_)
    refine (rn_step (e := (.iadd, 81, 0, 0, 0, 0, 0, [])) rfl).mpr (rn_cw (hr1 c1).2.2.1 (hr1 c1).2.2.2.1 ?_)
    refine (rn_step (e := (.iconst 1, 82, 0, 0, 0, 0, 0, [])) rfl).mpr ?_
    refine (rn_step (e := (.iadd, 83, 0, 0, 0, 0, 0, [])) rfl).mpr (rn_cw (hr1 c1).2.2.2.2.2.2.1 (hr1 c1).2.2.2.2.2.2.2.1 ?_)
    refine (rn_step (e := (.iaload, 84, 0, 0, 0, 0, 0, [])) rfl).mpr (And.intro (Or.inl (rn_w467 (M := M) hM).1) (And.intro ((And.intro ((hr1 c1).2.2.2.2.2.2.2.2.1) (rn_lt (rn_w467 (M := M) hM).2 (hr1 c1).2.2.2.2.2.2.2.2.2))) (?_)))
    exact (rn_step (e := (.invokevirtual 117, 87, 154, 3, 1055, 0, 11, [0])) rfl).mpr (And.intro ((rn_ks466 (M := M) hM)) ((k1 c1)))
  ·
    refine (rn_step (e := (.iload_n 3, 112, 3, 0, 0, 0, 0, [])) rfl).mpr ?_
    exact (rn_step (e := (.ireturn, 113, 0, 0, 0, 0, 0, [])) rfl).mpr (And.intro (trivial) ((k2 c1)))
set_option maxRecDepth 4000 in
theorem rb_Mo_town_87 {M : rn_M} {Q : rn_Q} {xl1 : Int} {vl2 : rn_V} {xl3 : Int} {vl4 : rn_V} {vl5 : rn_V} {xs0 : Int} (hM : rn_sh M)   (k1 : rn_ME 157 [rn_R 466, rn_I xl1] M (fun r M1 => rn_WP 179 95 [rn_R 466, rn_I xl1, vl2, rn_I xl3, vl4, rn_I xs0] (r.toList ++ [rn_I xl3]) M1 Q)) : rn_WP 179 87 [rn_R 466, rn_I xl1, vl2, rn_I xl3, vl4, vl5] [rn_I xs0] M Q := by
  refine (rn_step (e := (.istore 5, 89, 5, 0, 0, 0, 0, [])) rfl).mpr ?_
  refine (rn_step (e := (.iload_n 3, 90, 3, 0, 0, 0, 0, [])) rfl).mpr ?_
  refine (rn_step (e := (.aload_n 0, 91, 0, 0, 0, 0, 0, [])) rfl).mpr ?_
  refine (rn_step (e := (.iload_n 1, 92, 1, 0, 0, 0, 0, [])) rfl).mpr ?_
  exact (rn_step (e := (.invokevirtual 120, 95, 157, 2, 1063, 0, 11, [0])) rfl).mpr (And.intro ((rn_ks466 (M := M) hM)) (k1))
set_option maxRecDepth 4000 in
theorem rb_Mo_town_95 {M : rn_M} {Q : rn_Q} {vl0 : rn_V} {vl1 : rn_V} {vl2 : rn_V} {vl3 : rn_V} {xl4 : Int} {vl5 : rn_V} {xs0 : Int} {xs1 : Int}   (hr1 : (xs0 = 0) → (-2147483648 : Int) ≤ xs1 + 0 ∧ xs1 + 0 ≤ 2147483647 ∧ (-2147483648 : Int) ≤ xl4 + 1 ∧ xl4 + 1 ≤ 2147483647) (hr2 : (¬ (xs0 = 0)) → (-2147483648 : Int) ≤ xs1 + 1 ∧ xs1 + 1 ≤ 2147483647 ∧ (-2147483648 : Int) ≤ xl4 + 1 ∧ xl4 + 1 ≤ 2147483647) (k1 : (xs0 = 0) → rn_WP 179 44 [vl0, vl1, vl2, rn_I (xs1 + 0), rn_I (xl4 + 1), vl5] [] M Q) (k2 : (¬ (xs0 = 0)) → rn_WP 179 44 [vl0, vl1, vl2, rn_I (xs1 + 1), rn_I (xl4 + 1), vl5] [] M Q) : rn_WP 179 95 [vl0, vl1, vl2, vl3, rn_I xl4, vl5] [rn_I xs0, rn_I xs1] M Q := by
  refine (rn_step (e := (.ifCond .eq 7, 98, 102, 0, 0, 0, 0, [])) rfl).mpr (And.intro (fun c1 => ?_) (fun c1 => ?_))
  ·
    refine (rn_step (e := (.iconst 0, 103, 0, 0, 0, 0, 0, [])) rfl).mpr ?_
    refine (rn_step (e := (.iadd, 104, 0, 0, 0, 0, 0, [])) rfl).mpr (rn_cw (hr1 c1).1 (hr1 c1).2.1 ?_)
    refine (rn_step (e := (.istore_n 3, 105, 3, 0, 0, 0, 0, [])) rfl).mpr ?_
    refine (rn_step (e := (.iinc 4 1, 108, 4, 0, 0, 0, 0, [])) rfl).mpr (rn_ci (hr1 c1).2.2.1 (hr1 c1).2.2.2 ?_)
    refine (rn_step (e := (.goto (-64), 111, 44, 0, 0, 0, 0, [])) rfl).mpr ?_
    exact (k1 c1)
  ·
    refine (rn_step (e := (.iconst 1, 99, 0, 0, 0, 0, 0, [])) rfl).mpr ?_
    refine (rn_step (e := (.goto 4, 102, 103, 0, 0, 0, 0, [])) rfl).mpr ?_
    refine (rn_step (e := (.iadd, 104, 0, 0, 0, 0, 0, [])) rfl).mpr (rn_cw (hr2 c1).1 (hr2 c1).2.1 ?_)
    refine (rn_step (e := (.istore_n 3, 105, 3, 0, 0, 0, 0, [])) rfl).mpr ?_
    refine (rn_step (e := (.iinc 4 1, 108, 4, 0, 0, 0, 0, [])) rfl).mpr (rn_ci (hr2 c1).2.2.1 (hr2 c1).2.2.2 ?_)
    refine (rn_step (e := (.goto (-64), 111, 44, 0, 0, 0, 0, [])) rfl).mpr ?_
    exact (k2 c1)
theorem re_Mo_townsOf {M : rn_M} {Q : rn_Q} {v0 v1 v2 : rn_V} (h : rn_WP 180 0 [v0, v1, v2, rn_J, rn_J, rn_J] [] M Q) : rn_ME 180 [v0, v1, v2] M Q := h
set_option maxRecDepth 4000 in
theorem rb_Mo_townsOf_0 {M : rn_M} {Q : rn_Q} {xl1 : Int} {xl2 : Int} {vl3 : rn_V} {vl4 : rn_V} {vl5 : rn_V} (hM : rn_sh M)   (k1 : rn_ME 154 [rn_R 466, rn_I xl1, rn_I xl2] M (fun r M1 => rn_WP 180 6 [rn_R 466, rn_I xl1, rn_I xl2, vl3, vl4, vl5] (r.toList ++ []) M1 Q)) : rn_WP 180 0 [rn_R 466, rn_I xl1, rn_I xl2, vl3, vl4, vl5] [] M Q := by
  refine (rn_step (e := (.aload_n 0, 1, 0, 0, 0, 0, 0, [])) rfl).mpr ?_
  refine (rn_step (e := (.iload_n 1, 2, 1, 0, 0, 0, 0, [])) rfl).mpr ?_
  refine (rn_step (e := (.iload_n 2, 3, 2, 0, 0, 0, 0, [])) rfl).mpr ?_
  exact (rn_step (e := (.invokevirtual 117, 6, 154, 3, 1055, 0, 11, [0])) rfl).mpr (And.intro ((rn_ks466 (M := M) hM)) (k1))
set_option maxRecDepth 4000 in
theorem rb_Mo_townsOf_6 {M : rn_M} {Q : rn_Q} {vl0 : rn_V} {vl1 : rn_V} {vl2 : rn_V} {vl3 : rn_V} {vl4 : rn_V} {vl5 : rn_V} {xs0 : Int}   (k1 : rn_WP 180 13 [vl0, vl1, vl2, rn_I xs0, rn_I 0, rn_I 0] [] M Q) : rn_WP 180 6 [vl0, vl1, vl2, vl3, vl4, vl5] [rn_I xs0] M Q := by
  refine (rn_step (e := (.istore_n 3, 7, 3, 0, 0, 0, 0, [])) rfl).mpr ?_
  refine (rn_step (e := (.iconst 0, 8, 0, 0, 0, 0, 0, [])) rfl).mpr ?_
  refine (rn_step (e := (.istore 4, 10, 4, 0, 0, 0, 0, [])) rfl).mpr ?_
  refine (rn_step (e := (.iconst 0, 11, 0, 0, 0, 0, 0, [])) rfl).mpr ?_
  refine (rn_step (e := (.istore 5, 13, 5, 0, 0, 0, 0, [])) rfl).mpr ?_
  exact k1
set_option maxRecDepth 4000 in
theorem rb_Mo_townsOf_13 {M : rn_M} {Q : rn_Q} {vl1 : rn_V} {vl2 : rn_V} {vl3 : rn_V} {xl4 : Int} {xl5 : Int} (hM : rn_sh M)   (k1 : (xl5 < rn_gi M 467 1) → rn_ME 157 [rn_R 466, rn_I xl5] M (fun r M1 => rn_WP 180 32 [rn_R 466, vl1, vl2, vl3, rn_I xl4, rn_I xl5] (r.toList ++ [rn_I xl4]) M1 Q)) (k2 : (¬ (xl5 < rn_gi M 467 1)) → Q (some (rn_I xl4)) M) : rn_WP 180 13 [rn_R 466, vl1, vl2, vl3, rn_I xl4, rn_I xl5] [] M Q := by
  refine (rn_step (e := (.iload 5, 15, 5, 0, 0, 0, 0, [])) rfl).mpr ?_
  refine (rn_step (e := (.aload_n 0, 16, 0, 0, 0, 0, 0, [])) rfl).mpr ?_
  refine (rn_step (e := (.getfield 7, 19, 10, 0, 902, 2, 11, [])) rfl).mpr (And.intro ((rn_ks466 (M := M) hM)) (rn_cg (rn_g466_0 (M := M) hM) ?_))
  refine (rn_step (e := (.iconst 1, 20, 0, 0, 0, 0, 0, [])) rfl).mpr ?_
  refine (rn_step (e := (.iaload, 21, 0, 0, 0, 0, 0, [])) rfl).mpr (And.intro (Or.inl (rn_w467 (M := M) hM).1) (And.intro ((And.intro ((by decide)) (rn_lt (rn_w467 (M := M) hM).2 (by decide)))) (?_)))
  refine (rn_step (e := (.if_icmp .ge 28, 24, 49, 0, 0, 0, 0, [])) rfl).mpr (And.intro (fun c1 => ?_) (fun c1 => ?_))
  ·
    refine (rn_step (e := (.iload 4, 26, 4, 0, 0, 0, 0, [])) rfl).mpr ?_
    refine (rn_step (e := (.aload_n 0, 27, 0, 0, 0, 0, 0, [])) rfl).mpr ?_
    refine (rn_step (e := (.iload 5, 29, 5, 0, 0, 0, 0, [])) rfl).mpr ?_
    exact (rn_step (e := (.invokevirtual 120, 32, 157, 2, 1063, 0, 11, [0])) rfl).mpr (And.intro ((rn_ks466 (M := M) hM)) ((k1 c1)))
  ·
    refine (rn_step (e := (.iload 4, 51, 4, 0, 0, 0, 0, [])) rfl).mpr ?_
    exact (rn_step (e := (.ireturn, 52, 0, 0, 0, 0, 0, [])) rfl).mpr (And.intro (trivial) ((k2 c1)))
set_option maxRecDepth 4000 in
theorem rb_Mo_townsOf_32 {M : rn_M} {Q : rn_Q} {vl0 : rn_V} {vl1 : rn_V} {vl2 : rn_V} {vl3 : rn_V} {vl4 : rn_V} {xl5 : Int} {xs0 : Int} {xs1 : Int}   (hr1 : (xs0 = 0) → (-2147483648 : Int) ≤ xs1 + 0 ∧ xs1 + 0 ≤ 2147483647 ∧ (-2147483648 : Int) ≤ xl5 + 1 ∧ xl5 + 1 ≤ 2147483647) (hr2 : (¬ (xs0 = 0)) → (-2147483648 : Int) ≤ xs1 + 1 ∧ xs1 + 1 ≤ 2147483647 ∧ (-2147483648 : Int) ≤ xl5 + 1 ∧ xl5 + 1 ≤ 2147483647) (k1 : (xs0 = 0) → rn_WP 180 13 [vl0, vl1, vl2, vl3, rn_I (xs1 + 0), rn_I (xl5 + 1)] [] M Q) (k2 : (¬ (xs0 = 0)) → rn_WP 180 13 [vl0, vl1, vl2, vl3, rn_I (xs1 + 1), rn_I (xl5 + 1)] [] M Q) : rn_WP 180 32 [vl0, vl1, vl2, vl3, vl4, rn_I xl5] [rn_I xs0, rn_I xs1] M Q := by
  refine (rn_step (e := (.ifCond .eq 7, 35, 39, 0, 0, 0, 0, [])) rfl).mpr (And.intro (fun c1 => ?_) (fun c1 => ?_))
  ·
    refine (rn_step (e := (.iconst 0, 40, 0, 0, 0, 0, 0, [])) rfl).mpr ?_
    refine (rn_step (e := (.iadd, 41, 0, 0, 0, 0, 0, [])) rfl).mpr (rn_cw (hr1 c1).1 (hr1 c1).2.1 ?_)
    refine (rn_step (e := (.istore 4, 43, 4, 0, 0, 0, 0, [])) rfl).mpr ?_
    refine (rn_step (e := (.iinc 5 1, 46, 5, 0, 0, 0, 0, [])) rfl).mpr (rn_ci (hr1 c1).2.2.1 (hr1 c1).2.2.2 ?_)
    refine (rn_step (e := (.goto (-33), 49, 13, 0, 0, 0, 0, [])) rfl).mpr ?_
    exact (k1 c1)
  ·
    refine (rn_step (e := (.iconst 1, 36, 0, 0, 0, 0, 0, [])) rfl).mpr ?_
    refine (rn_step (e := (.goto 4, 39, 40, 0, 0, 0, 0, [])) rfl).mpr ?_
    refine (rn_step (e := (.iadd, 41, 0, 0, 0, 0, 0, [])) rfl).mpr (rn_cw (hr2 c1).1 (hr2 c1).2.1 ?_)
    refine (rn_step (e := (.istore 4, 43, 4, 0, 0, 0, 0, [])) rfl).mpr ?_
    refine (rn_step (e := (.iinc 5 1, 46, 5, 0, 0, 0, 0, [])) rfl).mpr (rn_ci (hr2 c1).2.2.1 (hr2 c1).2.2.2 ?_)
    refine (rn_step (e := (.goto (-33), 49, 13, 0, 0, 0, 0, [])) rfl).mpr ?_
    exact (k2 c1)
theorem re_Mo_label {M : rn_M} {Q : rn_Q} {v0 v1 v2 : rn_V} (h : rn_WP 181 0 [v0, v1, v2, rn_J, rn_J] [] M Q) : rn_ME 181 [v0, v1, v2] M Q := h
set_option maxRecDepth 4000 in
theorem rb_Mo_label_0 {M : rn_M} {Q : rn_Q} {xl1 : Int} {xl2 : Int} {vl3 : rn_V} {vl4 : rn_V} (hM : rn_sh M)   (hr1 : (0 ≤ rn_gi M 467 2 ∧ rn_gi M 467 2 ≤ 100)) (hr2 : (0 ≤ xl1 ∧ xl1 ≤ rn_gi M 467 2 - 1) → (0 ≤ xl2 ∧ xl2 ≤ 7) → (-2147483648 : Int) ≤ 2 * xl1 ∧ 2 * xl1 ≤ 2147483647 ∧ (-2147483648 : Int) ≤ 522 + (2 * xl1) ∧ 522 + (2 * xl1) ≤ 2147483647 ∧ (0 : Int) ≤ 522 + (2 * xl1) ∧ 522 + (2 * xl1) < (562 : Int) ∧ (-2147483648 : Int) ≤ (522 + (2 * xl1)) + 1 ∧ (522 + (2 * xl1)) + 1 ≤ 2147483647 ∧ (0 : Int) ≤ (522 + (2 * xl1)) + 1 ∧ (522 + (2 * xl1)) + 1 < (562 : Int)) (hr3 : (0 ≤ xl1 ∧ xl1 ≤ rn_gi M 467 2 - 1) → (0 ≤ xl2 ∧ xl2 ≤ 7) → (xl2 = 3) → ((0 : Int) ≤ rn_gi M 467 (522 + (2 * xl1)).toNat ∧ (rn_gi M 467 (522 + (2 * xl1)).toNat : Int) ≤ 5) ∧ ((0 : Int) ≤ 0 ∧ (0 : Int) ≤ 77)) (k1 : (¬ (0 ≤ xl1 ∧ xl1 ≤ rn_gi M 467 2 - 1)) → Q (some (rn_I (-1))) M) (k2 : (0 ≤ xl1 ∧ xl1 ≤ rn_gi M 467 2 - 1) → (¬ (0 ≤ xl2 ∧ xl2 ≤ 7)) → Q (some (rn_I (-1))) M) (k3 : (0 ≤ xl1 ∧ xl1 ≤ rn_gi M 467 2 - 1) → (0 ≤ xl2 ∧ xl2 ≤ 7) → (xl2 < 0 ∨ 6 < xl2) → rn_ME 180 [rn_R 466, rn_I (rn_gi M 467 (522 + (2 * xl1)).toNat), rn_I (rn_gi M 467 ((522 + (2 * xl1)) + 1).toNat)] M (fun r M1 => rn_WP 181 156 [rn_R 466, rn_I xl1, rn_I xl2, rn_I (rn_gi M 467 (522 + (2 * xl1)).toNat), rn_I (rn_gi M 467 ((522 + (2 * xl1)) + 1).toNat)] (r.toList ++ []) M1 Q)) (k4 : (0 ≤ xl1 ∧ xl1 ≤ rn_gi M 467 2 - 1) → (0 ≤ xl2 ∧ xl2 ≤ 7) → (xl2 = 0) → Q (some (rn_I (rn_gi M 467 (522 + (2 * xl1)).toNat))) M) (k5 : (0 ≤ xl1 ∧ xl1 ≤ rn_gi M 467 2 - 1) → (0 ≤ xl2 ∧ xl2 ≤ 7) → (xl2 = 1) → Q (some (rn_I (rn_gi M 467 ((522 + (2 * xl1)) + 1).toNat))) M) (k6 : (0 ≤ xl1 ∧ xl1 ≤ rn_gi M 467 2 - 1) → (0 ≤ xl2 ∧ xl2 ≤ 7) → (xl2 = 2) → rn_ME 152 [rn_R 466, rn_I (rn_gi M 467 (522 + (2 * xl1)).toNat), rn_I (rn_gi M 467 ((522 + (2 * xl1)) + 1).toNat)] M (fun r M1 => rn_WP 181 104 [rn_R 466, rn_I xl1, rn_I xl2, rn_I (rn_gi M 467 (522 + (2 * xl1)).toNat), rn_I (rn_gi M 467 ((522 + (2 * xl1)) + 1).toNat)] (r.toList ++ []) M1 Q)) (k7 : (0 ≤ xl1 ∧ xl1 ≤ rn_gi M 467 2 - 1) → (0 ≤ xl2 ∧ xl2 ≤ 7) → (xl2 = 3) → rn_ME 150 [rn_R 466, rn_I (rn_gi M 467 (522 + (2 * xl1)).toNat), rn_I (rn_gi M 467 ((522 + (2 * xl1)) + 1).toNat), rn_I (rn_o (rn_gi M 467) (rn_gi M 467 (522 + (2 * xl1)).toNat) 0)] M (fun r M1 => rn_WP 181 118 [rn_R 466, rn_I xl1, rn_I xl2, rn_I (rn_gi M 467 (522 + (2 * xl1)).toNat), rn_I (rn_gi M 467 ((522 + (2 * xl1)) + 1).toNat)] (r.toList ++ []) M1 Q)) (k8 : (0 ≤ xl1 ∧ xl1 ≤ rn_gi M 467 2 - 1) → (0 ≤ xl2 ∧ xl2 ≤ 7) → (xl2 = 4) → rn_ME 153 [rn_R 466, rn_I (rn_gi M 467 (522 + (2 * xl1)).toNat), rn_I (rn_gi M 467 ((522 + (2 * xl1)) + 1).toNat)] M (fun r M1 => rn_WP 181 126 [rn_R 466, rn_I xl1, rn_I xl2, rn_I (rn_gi M 467 (522 + (2 * xl1)).toNat), rn_I (rn_gi M 467 ((522 + (2 * xl1)) + 1).toNat)] (r.toList ++ []) M1 Q)) (k9 : (0 ≤ xl1 ∧ xl1 ≤ rn_gi M 467 2 - 1) → (0 ≤ xl2 ∧ xl2 ≤ 7) → (xl2 = 5) → rn_ME 154 [rn_R 466, rn_I (rn_gi M 467 (522 + (2 * xl1)).toNat), rn_I (rn_gi M 467 ((522 + (2 * xl1)) + 1).toNat)] M (fun r M1 => rn_WP 181 142 [rn_R 466, rn_I xl1, rn_I xl2, rn_I (rn_gi M 467 (522 + (2 * xl1)).toNat), rn_I (rn_gi M 467 ((522 + (2 * xl1)) + 1).toNat)] (r.toList ++ []) M1 Q)) (k10 : (0 ≤ xl1 ∧ xl1 ≤ rn_gi M 467 2 - 1) → (0 ≤ xl2 ∧ xl2 ≤ 7) → (xl2 = 6) → rn_ME 159 [rn_R 466, rn_I xl1] M (fun r M1 => rn_WP 181 148 [rn_R 466, rn_I xl1, rn_I xl2, rn_I (rn_gi M 467 (522 + (2 * xl1)).toNat), rn_I (rn_gi M 467 ((522 + (2 * xl1)) + 1).toNat)] (r.toList ++ []) M1 Q)) : rn_WP 181 0 [rn_R 466, rn_I xl1, rn_I xl2, vl3, vl4] [] M Q := by
  refine (rn_step (e := (.aload_n 0, 1, 0, 0, 0, 0, 0, [])) rfl).mpr ?_
  refine (rn_step (e := (.iload_n 1, 2, 1, 0, 0, 0, 0, [])) rfl).mpr ?_
  refine (rn_step (e := (.invokevirtual 139, 5, 161, 2, 1079, 0, 11, [0])) rfl).mpr (And.intro ((rn_ks466 (M := M) hM)) ((rc_Mo_isLabel hM (hr1) ?_)))
  refine (rn_step (e := (.ifCond .eq 13, 8, 18, 0, 0, 0, 0, [])) rfl).mpr (And.intro (fun q => ?_) (fun q => ?_))
  · have c1 := rn_b0 q
    refine (rn_step (e := (.iconst (-1), 19, 0, 0, 0, 0, 0, [])) rfl).mpr ?_
    exact (rn_step (e := (.ireturn, 20, 0, 0, 0, 0, 0, [])) rfl).mpr (And.intro (trivial) ((k1 c1)))
  · have c1 := rn_b1 q
    refine (rn_step (e := (.iload_n 2, 9, 2, 0, 0, 0, 0, [])) rfl).mpr ?_
    refine (rn_step (e := (.iconst 0, 10, 0, 0, 0, 0, 0, [])) rfl).mpr ?_
    refine (rn_step (e := (.bipush 7, 12, 0, 0, 0, 0, 0, [])) rfl).mpr ?_
    refine (rn_step (e := (.invokestatic 41, 15, 124, 3, 956, 0, 11, [0])) rfl).mpr (rc_Mo_in  ?_)
    refine (rn_step (e := (.ifCond .ne 5, 18, 20, 0, 0, 0, 0, [])) rfl).mpr (And.intro (fun q => ?_) (fun q => ?_))
    · have c2 := rn_b0 q
      refine (rn_step (e := (.iconst (-1), 19, 0, 0, 0, 0, 0, [])) rfl).mpr ?_
      exact (rn_step (e := (.ireturn, 20, 0, 0, 0, 0, 0, [])) rfl).mpr (And.intro (trivial) ((k2 c1 c2)))
    · have c2 := rn_b1 q
      refine (rn_step (e := (.aload_n 0, 21, 0, 0, 0, 0, 0, [])) rfl).mpr ?_
      refine (rn_step (e := (.getfield 7, 24, 10, 0, 902, 2, 11, [])) rfl).mpr (And.intro ((rn_ks466 (M := M) hM)) (rn_cg (rn_g466_0 (M := M) hM) ?_))
      refine (rn_step (e := (.sipush 522, 27, 0, 0, 0, 0, 0, [])) rfl).mpr ?_
      refine (rn_step (e := (.iconst 2, 28, 0, 0, 0, 0, 0, [])) rfl).mpr ?_
      refine (rn_step (e := (.iload_n 1, 29, 1, 0, 0, 0, 0, [])) rfl).mpr ?_
      refine (rn_step (e := (.imul, 30, 0, 0, 0, 0, 0, [])) rfl).mpr (rn_cw (hr2 c1 c2).1 (hr2 c1 c2).2.1 ?_)
      refine (rn_step (e := (.iadd, 31, 0, 0, 0, 0, 0, [])) rfl).mpr (rn_cw (hr2 c1 c2).2.2.1 (hr2 c1 c2).2.2.2.1 ?_)
      refine (rn_step (e := (.iaload, 32, 0, 0, 0, 0, 0, [])) rfl).mpr (And.intro (Or.inl (rn_w467 (M := M) hM).1) (And.intro ((And.intro ((hr2 c1 c2).2.2.2.2.1) (rn_lt (rn_w467 (M := M) hM).2 (hr2 c1 c2).2.2.2.2.2.1))) (?_)))
      refine (rn_step (e := (.istore_n 3, 33, 3, 0, 0, 0, 0, [])) rfl).mpr ?_
      refine (rn_step (e := (.aload_n 0, 34, 0, 0, 0, 0, 0, [])) rfl).mpr ?_
      refine (rn_step (e := (.getfield 7, 37, 10, 0, 902, 2, 11, [])) rfl).mpr (And.intro ((rn_ks466 (M := M) hM)) (rn_cg (rn_g466_0 (M := M) hM) ?_))
      refine (rn_step (e := (.sipush 522, 40, 0, 0, 0, 0, 0, [])) rfl).mpr ?_
      refine (rn_step (e := (.iconst 2, 41, 0, 0, 0, 0, 0, [])) rfl).mpr ?_
      refine (rn_step (e := (.iload_n 1, 42, 1, 0, 0, 0, 0, [])) rfl).mpr ?_
      refine (rn_step (e := (.imul, 43, 0, 0, 0, 0, 0, [])) rfl).mpr (rn_cw (hr2 c1 c2).1 (hr2 c1 c2).2.1 ?_)
      refine (rn_step (e := (.iadd, 44, 0, 0, 0, 0, 0, [])) rfl).mpr (rn_cw (hr2 c1 c2).2.2.1 (hr2 c1 c2).2.2.2.1 ?_)
      refine (rn_step (e := (.iconst 1, 45, 0, 0, 0, 0, 0, [])) rfl).mpr ?_
      refine (rn_step (e := (.iadd, 46, 0, 0, 0, 0, 0, [])) rfl).mpr (rn_cw (hr2 c1 c2).2.2.2.2.2.2.1 (hr2 c1 c2).2.2.2.2.2.2.2.1 ?_)
      refine (rn_step (e := (.iaload, 47, 0, 0, 0, 0, 0, [])) rfl).mpr (And.intro (Or.inl (rn_w467 (M := M) hM).1) (And.intro ((And.intro ((hr2 c1 c2).2.2.2.2.2.2.2.2.1) (rn_lt (rn_w467 (M := M) hM).2 (hr2 c1 c2).2.2.2.2.2.2.2.2.2))) (?_)))
      refine (rn_step (e := (.istore 4, 49, 4, 0, 0, 0, 0, [])) rfl).mpr ?_
      refine (rn_step (e := (.iload_n 2, 50, 2, 0, 0, 0, 0, [])) rfl).mpr ?_
      refine (rn_step (e := (.tableswitch 99 0 6 #[42, 44, 47, 55, 69, 85, 93], 92, 149, 0, 0, 0, 0, [92, 94, 97, 105, 119, 135, 143])) rfl).mpr (And.intro (fun c3 => ?_) (fun q => ?_))
      ·
        refine (rn_step (e := (.aload_n 0, 150, 0, 0, 0, 0, 0, [])) rfl).mpr ?_
        refine (rn_step (e := (.iload_n 3, 151, 3, 0, 0, 0, 0, [])) rfl).mpr ?_
        refine (rn_step (e := (.iload 4, 153, 4, 0, 0, 0, 0, [])) rfl).mpr ?_
        exact (rn_step (e := (.invokevirtual 176, 156, 180, 3, 1166, 0, 11, [0])) rfl).mpr (And.intro ((rn_ks466 (M := M) hM)) ((k3 c1 c2 c3)))
      ·
        obtain ⟨n, hn⟩ : ∃ n : Nat, xl2 = (n : Int) := ⟨(xl2).toNat, by omega⟩
        rw [show (xl2 - 0).toNat = n by omega]
        match n, hn with
        | 0, c3 =>
          refine (rn_step (e := (.iload_n 3, 93, 3, 0, 0, 0, 0, [])) rfl).mpr ?_
          exact (rn_step (e := (.ireturn, 94, 0, 0, 0, 0, 0, [])) rfl).mpr (And.intro (trivial) ((k4 c1 c2 c3)))
        | 1, c3 =>
          refine (rn_step (e := (.iload 4, 96, 4, 0, 0, 0, 0, [])) rfl).mpr ?_
          exact (rn_step (e := (.ireturn, 97, 0, 0, 0, 0, 0, [])) rfl).mpr (And.intro (trivial) ((k5 c1 c2 c3)))
        | 2, c3 =>
          refine (rn_step (e := (.aload_n 0, 98, 0, 0, 0, 0, 0, [])) rfl).mpr ?_
          refine (rn_step (e := (.iload_n 3, 99, 3, 0, 0, 0, 0, [])) rfl).mpr ?_
          refine (rn_step (e := (.iload 4, 101, 4, 0, 0, 0, 0, [])) rfl).mpr ?_
          exact (rn_step (e := (.invokevirtual 130, 104, 152, 3, 1095, 0, 11, [0])) rfl).mpr (And.intro ((rn_ks466 (M := M) hM)) ((k6 c1 c2 c3)))
        | 3, c3 =>
          refine (rn_step (e := (.aload_n 0, 106, 0, 0, 0, 0, 0, [])) rfl).mpr ?_
          refine (rn_step (e := (.iload_n 3, 107, 3, 0, 0, 0, 0, [])) rfl).mpr ?_
          refine (rn_step (e := (.iload 4, 109, 4, 0, 0, 0, 0, [])) rfl).mpr ?_
          refine (rn_step (e := (.aload_n 0, 110, 0, 0, 0, 0, 0, [])) rfl).mpr ?_
          refine (rn_step (e := (.iload_n 3, 111, 3, 0, 0, 0, 0, [])) rfl).mpr ?_
          refine (rn_step (e := (.iconst 0, 112, 0, 0, 0, 0, 0, [])) rfl).mpr ?_
          refine (rn_step (e := (.invokevirtual 49, 115, 129, 3, 1002, 0, 11, [0])) rfl).mpr (And.intro ((rn_ks466 (M := M) hM)) ((rc_Mo_of hM ((hr3 c1 c2 c3).1) ((hr3 c1 c2 c3).2) ?_)))
          exact (rn_step (e := (.invokevirtual 104, 118, 150, 4, 1099, 0, 11, [0])) rfl).mpr (And.intro ((rn_ks466 (M := M) hM)) ((k7 c1 c2 c3)))
        | 4, c3 =>
          refine (rn_step (e := (.aload_n 0, 120, 0, 0, 0, 0, 0, [])) rfl).mpr ?_
          refine (rn_step (e := (.iload_n 3, 121, 3, 0, 0, 0, 0, [])) rfl).mpr ?_
          refine (rn_step (e := (.iload 4, 123, 4, 0, 0, 0, 0, [])) rfl).mpr ?_
          exact (rn_step (e := (.invokevirtual 173, 126, 153, 3, 1162, 0, 11, [0])) rfl).mpr (And.intro ((rn_ks466 (M := M) hM)) ((k8 c1 c2 c3)))
        | 5, c3 =>
          refine (rn_step (e := (.aload_n 0, 136, 0, 0, 0, 0, 0, [])) rfl).mpr ?_
          refine (rn_step (e := (.iload_n 3, 137, 3, 0, 0, 0, 0, [])) rfl).mpr ?_
          refine (rn_step (e := (.iload 4, 139, 4, 0, 0, 0, 0, [])) rfl).mpr ?_
          exact (rn_step (e := (.invokevirtual 117, 142, 154, 3, 1055, 0, 11, [0])) rfl).mpr (And.intro ((rn_ks466 (M := M) hM)) ((k9 c1 c2 c3)))
        | 6, c3 =>
          refine (rn_step (e := (.aload_n 0, 144, 0, 0, 0, 0, 0, [])) rfl).mpr ?_
          refine (rn_step (e := (.iload_n 1, 145, 1, 0, 0, 0, 0, [])) rfl).mpr ?_
          exact (rn_step (e := (.invokevirtual 148, 148, 159, 2, 1110, 0, 11, [0])) rfl).mpr (And.intro ((rn_ks466 (M := M) hM)) ((k10 c1 c2 c3)))
        | n + 7, hn => exact absurd (Or.inr (by omega)) q
set_option maxRecDepth 4000 in
theorem rb_Mo_label_104 {M : rn_M} {Q : rn_Q} {vl0 : rn_V} {vl1 : rn_V} {vl2 : rn_V} {vl3 : rn_V} {vl4 : rn_V} {xs0 : Int}   (k1 : Q (some (rn_I xs0)) M) : rn_WP 181 104 [vl0, vl1, vl2, vl3, vl4] [rn_I xs0] M Q := by
  exact (rn_step (e := (.ireturn, 105, 0, 0, 0, 0, 0, [])) rfl).mpr (And.intro (trivial) (k1))
set_option maxRecDepth 4000 in
theorem rb_Mo_label_118 {M : rn_M} {Q : rn_Q} {vl0 : rn_V} {vl1 : rn_V} {vl2 : rn_V} {vl3 : rn_V} {vl4 : rn_V} {xs0 : Int}   (k1 : Q (some (rn_I xs0)) M) : rn_WP 181 118 [vl0, vl1, vl2, vl3, vl4] [rn_I xs0] M Q := by
  exact (rn_step (e := (.ireturn, 119, 0, 0, 0, 0, 0, [])) rfl).mpr (And.intro (trivial) (k1))
set_option maxRecDepth 4000 in
theorem rb_Mo_label_126 {M : rn_M} {Q : rn_Q} {vl0 : rn_V} {vl1 : rn_V} {vl2 : rn_V} {vl3 : rn_V} {vl4 : rn_V} {xs0 : Int}   (k1 : (xs0 = 0) → Q (some (rn_I 0)) M) (k2 : (¬ (xs0 = 0)) → Q (some (rn_I 1)) M) : rn_WP 181 126 [vl0, vl1, vl2, vl3, vl4] [rn_I xs0] M Q := by
  refine (rn_step (e := (.ifCond .eq 7, 129, 133, 0, 0, 0, 0, [])) rfl).mpr (And.intro (fun c1 => ?_) (fun c1 => ?_))
  ·
    refine (rn_step (e := (.iconst 0, 134, 0, 0, 0, 0, 0, [])) rfl).mpr ?_
    exact (rn_step (e := (.ireturn, 135, 0, 0, 0, 0, 0, [])) rfl).mpr (And.intro (trivial) ((k1 c1)))
  ·
    refine (rn_step (e := (.iconst 1, 130, 0, 0, 0, 0, 0, [])) rfl).mpr ?_
    refine (rn_step (e := (.goto 4, 133, 134, 0, 0, 0, 0, [])) rfl).mpr ?_
    exact (rn_step (e := (.ireturn, 135, 0, 0, 0, 0, 0, [])) rfl).mpr (And.intro (trivial) ((k2 c1)))
set_option maxRecDepth 4000 in
theorem rb_Mo_label_142 {M : rn_M} {Q : rn_Q} {vl0 : rn_V} {vl1 : rn_V} {vl2 : rn_V} {vl3 : rn_V} {vl4 : rn_V} {xs0 : Int}   (k1 : Q (some (rn_I xs0)) M) : rn_WP 181 142 [vl0, vl1, vl2, vl3, vl4] [rn_I xs0] M Q := by
  exact (rn_step (e := (.ireturn, 143, 0, 0, 0, 0, 0, [])) rfl).mpr (And.intro (trivial) (k1))
set_option maxRecDepth 4000 in
theorem rb_Mo_label_148 {M : rn_M} {Q : rn_Q} {vl0 : rn_V} {vl1 : rn_V} {vl2 : rn_V} {vl3 : rn_V} {vl4 : rn_V} {xs0 : Int}   (k1 : Q (some (rn_I xs0)) M) : rn_WP 181 148 [vl0, vl1, vl2, vl3, vl4] [rn_I xs0] M Q := by
  exact (rn_step (e := (.ireturn, 149, 0, 0, 0, 0, 0, [])) rfl).mpr (And.intro (trivial) (k1))
set_option maxRecDepth 4000 in
theorem rb_Mo_label_156 {M : rn_M} {Q : rn_Q} {vl0 : rn_V} {vl1 : rn_V} {vl2 : rn_V} {vl3 : rn_V} {vl4 : rn_V} {xs0 : Int}   (k1 : Q (some (rn_I xs0)) M) : rn_WP 181 156 [vl0, vl1, vl2, vl3, vl4] [rn_I xs0] M Q := by
  exact (rn_step (e := (.ireturn, 157, 0, 0, 0, 0, 0, [])) rfl).mpr (And.intro (trivial) (k1))
theorem re_Mo_placeOn {M : rn_M} {Q : rn_Q} {v0 v1 v2 v3 : rn_V} (h : rn_WP 182 0 [v0, v1, v2, v3, rn_J, rn_J, rn_J] [] M Q) : rn_ME 182 [v0, v1, v2, v3] M Q := h
set_option maxRecDepth 4000 in
theorem rb_Mo_placeOn_0 {M : rn_M} {Q : rn_Q} {xl1 : Int} {vl2 : rn_V} {vl3 : rn_V} {vl4 : rn_V} {vl5 : rn_V} {vl6 : rn_V} (hM : rn_sh M)   (hr1 : (-2147483648 : Int) ≤ 2 * xl1 ∧ 2 * xl1 ≤ 2147483647 ∧ (-2147483648 : Int) ≤ 522 + (2 * xl1) ∧ 522 + (2 * xl1) ≤ 2147483647 ∧ (0 : Int) ≤ 522 + (2 * xl1) ∧ 522 + (2 * xl1) < (562 : Int) ∧ (-2147483648 : Int) ≤ (522 + (2 * xl1)) + 1 ∧ (522 + (2 * xl1)) + 1 ≤ 2147483647 ∧ (0 : Int) ≤ (522 + (2 * xl1)) + 1 ∧ (522 + (2 * xl1)) + 1 < (562 : Int)) (k1 : rn_ME 133 [rn_R 466, rn_I (rn_gi M 467 (522 + (2 * xl1)).toNat)] M (fun r M1 => rn_WP 182 36 [rn_R 466, rn_I xl1, vl2, vl3, rn_I (rn_gi M 467 (522 + (2 * xl1)).toNat), rn_I (rn_gi M 467 ((522 + (2 * xl1)) + 1).toNat), vl6] (r.toList ++ []) M1 Q)) : rn_WP 182 0 [rn_R 466, rn_I xl1, vl2, vl3, vl4, vl5, vl6] [] M Q := by
  refine (rn_step (e := (.aload_n 0, 1, 0, 0, 0, 0, 0, [])) rfl).mpr ?_
  refine (rn_step (e := (.getfield 7, 4, 10, 0, 902, 2, 11, [])) rfl).mpr (And.intro ((rn_ks466 (M := M) hM)) (rn_cg (rn_g466_0 (M := M) hM) ?_))
  refine (rn_step (e := (.sipush 522, 7, 0, 0, 0, 0, 0, [])) rfl).mpr ?_
  refine (rn_step (e := (.iconst 2, 8, 0, 0, 0, 0, 0, [])) rfl).mpr ?_
  refine (rn_step (e := (.iload_n 1, 9, 1, 0, 0, 0, 0, [])) rfl).mpr ?_
  refine (rn_step (e := (.imul, 10, 0, 0, 0, 0, 0, [])) rfl).mpr (rn_cw hr1.1 hr1.2.1 ?_)
  refine (rn_step (e := (.iadd, 11, 0, 0, 0, 0, 0, [])) rfl).mpr (rn_cw hr1.2.2.1 hr1.2.2.2.1 ?_)
  refine (rn_step (e := (.iaload, 12, 0, 0, 0, 0, 0, [])) rfl).mpr (And.intro (Or.inl (rn_w467 (M := M) hM).1) (And.intro ((And.intro (hr1.2.2.2.2.1) (rn_lt (rn_w467 (M := M) hM).2 hr1.2.2.2.2.2.1))) (?_)))
  refine (rn_step (e := (.istore 4, 14, 4, 0, 0, 0, 0, [])) rfl).mpr ?_
  refine (rn_step (e := (.aload_n 0, 15, 0, 0, 0, 0, 0, [])) rfl).mpr ?_
  refine (rn_step (e := (.getfield 7, 18, 10, 0, 902, 2, 11, [])) rfl).mpr (And.intro ((rn_ks466 (M := M) hM)) (rn_cg (rn_g466_0 (M := M) hM) ?_))
  refine (rn_step (e := (.sipush 522, 21, 0, 0, 0, 0, 0, [])) rfl).mpr ?_
  refine (rn_step (e := (.iconst 2, 22, 0, 0, 0, 0, 0, [])) rfl).mpr ?_
  refine (rn_step (e := (.iload_n 1, 23, 1, 0, 0, 0, 0, [])) rfl).mpr ?_
  refine (rn_step (e := (.imul, 24, 0, 0, 0, 0, 0, [])) rfl).mpr (rn_cw hr1.1 hr1.2.1 ?_)
  refine (rn_step (e := (.iadd, 25, 0, 0, 0, 0, 0, [])) rfl).mpr (rn_cw hr1.2.2.1 hr1.2.2.2.1 ?_)
  refine (rn_step (e := (.iconst 1, 26, 0, 0, 0, 0, 0, [])) rfl).mpr ?_
  refine (rn_step (e := (.iadd, 27, 0, 0, 0, 0, 0, [])) rfl).mpr (rn_cw hr1.2.2.2.2.2.2.1 hr1.2.2.2.2.2.2.2.1 ?_)
  refine (rn_step (e := (.iaload, 28, 0, 0, 0, 0, 0, [])) rfl).mpr (And.intro (Or.inl (rn_w467 (M := M) hM).1) (And.intro ((And.intro (hr1.2.2.2.2.2.2.2.2.1) (rn_lt (rn_w467 (M := M) hM).2 hr1.2.2.2.2.2.2.2.2.2))) (?_)))
  refine (rn_step (e := (.istore 5, 30, 5, 0, 0, 0, 0, [])) rfl).mpr ?_
  refine (rn_step (e := (.aload_n 0, 31, 0, 0, 0, 0, 0, [])) rfl).mpr ?_
  refine (rn_step (e := (.iload 4, 33, 4, 0, 0, 0, 0, [])) rfl).mpr ?_
  exact (rn_step (e := (.invokevirtual 87, 36, 133, 2, 998, 0, 11, [0])) rfl).mpr (And.intro ((rn_ks466 (M := M) hM)) (k1))
set_option maxRecDepth 4000 in
theorem rb_Mo_placeOn_36 {M : rn_M} {Q : rn_Q} {vl0 : rn_V} {vl1 : rn_V} {vl2 : rn_V} {vl3 : rn_V} {vl4 : rn_V} {xl5 : Int} {vl6 : rn_V}   (k1 : rn_WP 182 40 [vl0, vl1, vl2, vl3, vl4, rn_I xl5, rn_I xl5] [] M Q) : rn_WP 182 36 [vl0, vl1, vl2, vl3, vl4, rn_I xl5, vl6] [] M Q := by
  refine (rn_step (e := (.iload 5, 38, 5, 0, 0, 0, 0, [])) rfl).mpr ?_
  refine (rn_step (e := (.istore 6, 40, 6, 0, 0, 0, 0, [])) rfl).mpr ?_
  exact k1
set_option maxRecDepth 4000 in
theorem rb_Mo_placeOn_40 {M : rn_M} {Q : rn_Q} {vl1 : rn_V} {xl2 : Int} {xl3 : Int} {xl4 : Int} {xl5 : Int} {xl6 : Int} (hM : rn_sh M)   (hr1 : ((0 : Int) ≤ xl4 ∧ (xl4 : Int) ≤ 5) ∧ ((0 : Int) ≤ 0 ∧ (0 : Int) ≤ 77) ∧ (-2147483648 : Int) ≤ xl5 + (rn_o (rn_gi M 467) xl4 0) ∧ xl5 + (rn_o (rn_gi M 467) xl4 0) ≤ 2147483647) (hr2 : (xl6 < xl5 + (rn_o (rn_gi M 467) xl4 0)) → (0 : Int) ≤ xl6 ∧ xl6 < (61 : Int)) (hr3 : (xl6 < xl5 + (rn_o (rn_gi M 467) xl4 0)) → (rn_gi M 470 (xl6).toNat = xl2) → (0 : Int) ≤ xl6 ∧ xl6 < (61 : Int)) (hr4 : (xl6 < xl5 + (rn_o (rn_gi M 467) xl4 0)) → (rn_gi M 470 (xl6).toNat = xl2) → (¬ (rn_gi M 471 (xl6).toNat = xl3)) → (-2147483648 : Int) ≤ xl6 + 1 ∧ xl6 + 1 ≤ 2147483647) (hr5 : (xl6 < xl5 + (rn_o (rn_gi M 467) xl4 0)) → (¬ (rn_gi M 470 (xl6).toNat = xl2)) → (-2147483648 : Int) ≤ xl6 + 1 ∧ xl6 + 1 ≤ 2147483647) (k1 : (xl6 < xl5 + (rn_o (rn_gi M 467) xl4 0)) → (rn_gi M 470 (xl6).toNat = xl2) → (rn_gi M 471 (xl6).toNat = xl3) → Q (some (rn_I xl6)) M) (k2 : (xl6 < xl5 + (rn_o (rn_gi M 467) xl4 0)) → (rn_gi M 470 (xl6).toNat = xl2) → (¬ (rn_gi M 471 (xl6).toNat = xl3)) → rn_WP 182 40 [rn_R 466, vl1, rn_I xl2, rn_I xl3, rn_I xl4, rn_I xl5, rn_I (xl6 + 1)] [] M Q) (k3 : (xl6 < xl5 + (rn_o (rn_gi M 467) xl4 0)) → (¬ (rn_gi M 470 (xl6).toNat = xl2)) → rn_WP 182 40 [rn_R 466, vl1, rn_I xl2, rn_I xl3, rn_I xl4, rn_I xl5, rn_I (xl6 + 1)] [] M Q) (k4 : (¬ (xl6 < xl5 + (rn_o (rn_gi M 467) xl4 0))) → Q (some (rn_I (-9))) M) : rn_WP 182 40 [rn_R 466, vl1, rn_I xl2, rn_I xl3, rn_I xl4, rn_I xl5, rn_I xl6] [] M Q := by
  refine (rn_step (e := (.iload 6, 42, 6, 0, 0, 0, 0, [])) rfl).mpr ?_
  refine (rn_step (e := (.iload 5, 44, 5, 0, 0, 0, 0, [])) rfl).mpr ?_
  refine (rn_step (e := (.aload_n 0, 45, 0, 0, 0, 0, 0, [])) rfl).mpr ?_
  refine (rn_step (e := (.iload 4, 47, 4, 0, 0, 0, 0, [])) rfl).mpr ?_
  refine (rn_step (e := (.iconst 0, 48, 0, 0, 0, 0, 0, [])) rfl).mpr ?_
  refine (rn_step (e := (.invokevirtual 49, 51, 129, 3, 1002, 0, 11, [0])) rfl).mpr (And.intro ((rn_ks466 (M := M) hM)) ((rc_Mo_of hM (hr1.1) (hr1.2.1) ?_)))
  refine (rn_step (e := (.iadd, 52, 0, 0, 0, 0, 0, [])) rfl).mpr (rn_cw hr1.2.2.1 hr1.2.2.2 ?_)
  refine (rn_step (e := (.if_icmp .ge 34, 55, 86, 0, 0, 0, 0, [])) rfl).mpr (And.intro (fun c1 => ?_) (fun c1 => ?_))
  ·
    refine (rn_step (e := (.aload_n 0, 56, 0, 0, 0, 0, 0, [])) rfl).mpr ?_
    refine (rn_step (e := (.getfield 19, 59, 10, 5, 907, 2, 11, [])) rfl).mpr (And.intro ((rn_ks466 (M := M) hM)) (rn_cg (rn_g466_5 (M := M) hM) ?_))
    refine (rn_step (e := (.iload 6, 61, 6, 0, 0, 0, 0, [])) rfl).mpr ?_
    refine (rn_step (e := (.iaload, 62, 0, 0, 0, 0, 0, [])) rfl).mpr (And.intro (Or.inl (rn_w470 (M := M) hM).1) (And.intro ((And.intro ((hr2 c1).1) (rn_lt (rn_w470 (M := M) hM).2 (hr2 c1).2))) (?_)))
    refine (rn_step (e := (.iload_n 2, 63, 2, 0, 0, 0, 0, [])) rfl).mpr ?_
    refine (rn_step (e := (.if_icmp .ne 17, 66, 80, 0, 0, 0, 0, [])) rfl).mpr (And.intro (fun c2 => ?_) (fun c2 => ?_))
    ·
      refine (rn_step (e := (.aload_n 0, 67, 0, 0, 0, 0, 0, [])) rfl).mpr ?_
      refine (rn_step (e := (.getfield 22, 70, 10, 6, 908, 2, 11, [])) rfl).mpr (And.intro ((rn_ks466 (M := M) hM)) (rn_cg (rn_g466_6 (M := M) hM) ?_))
      refine (rn_step (e := (.iload 6, 72, 6, 0, 0, 0, 0, [])) rfl).mpr ?_
      refine (rn_step (e := (.iaload, 73, 0, 0, 0, 0, 0, [])) rfl).mpr (And.intro (Or.inl (rn_w471 (M := M) hM).1) (And.intro ((And.intro ((hr3 c1 c2).1) (rn_lt (rn_w471 (M := M) hM).2 (hr3 c1 c2).2))) (?_)))
      refine (rn_step (e := (.iload_n 3, 74, 3, 0, 0, 0, 0, [])) rfl).mpr ?_
      refine (rn_step (e := (.if_icmp .ne 6, 77, 80, 0, 0, 0, 0, [])) rfl).mpr (And.intro (fun c3 => ?_) (fun c3 => ?_))
      ·
        refine (rn_step (e := (.iload 6, 79, 6, 0, 0, 0, 0, [])) rfl).mpr ?_
        exact (rn_step (e := (.ireturn, 80, 0, 0, 0, 0, 0, [])) rfl).mpr (And.intro (trivial) ((k1 c1 c2 c3)))
      ·
        refine (rn_step (e := (.iinc 6 1, 83, 6, 0, 0, 0, 0, [])) rfl).mpr (rn_ci (hr4 c1 c2 c3).1 (hr4 c1 c2 c3).2 ?_)
        refine (rn_step (e := (.goto (-43), 86, 40, 0, 0, 0, 0, [])) rfl).mpr ?_
        exact (k2 c1 c2 c3)
    ·
      refine (rn_step (e := (.iinc 6 1, 83, 6, 0, 0, 0, 0, [])) rfl).mpr (rn_ci (hr5 c1 c2).1 (hr5 c1 c2).2 ?_)
      refine (rn_step (e := (.goto (-43), 86, 40, 0, 0, 0, 0, [])) rfl).mpr ?_
      exact (k3 c1 c2)
  ·
    refine (rn_step (e := (.bipush (-9), 88, 0, 0, 0, 0, 0, [])) rfl).mpr ?_
    exact (rn_step (e := (.ireturn, 89, 0, 0, 0, 0, 0, [])) rfl).mpr (And.intro (trivial) ((k4 c1)))
theorem re_Mo_written {M : rn_M} {Q : rn_Q} {v0 v1 v2 : rn_V} (h : rn_WP 183 0 [v0, v1, v2, rn_J, rn_J, rn_J, rn_J] [] M Q) : rn_ME 183 [v0, v1, v2] M Q := h
set_option maxRecDepth 4000 in
theorem rb_Mo_written_0 {M : rn_M} {Q : rn_Q} {vl0 : rn_V} {xl1 : Int} {xl2 : Int} {vl3 : rn_V} {vl4 : rn_V} {vl5 : rn_V} {vl6 : rn_V}   (k1 : (¬ ((0 ≤ xl1 ∧ xl1 < 60) ∧ 0 ≤ xl2 ∧ xl2 < 40)) → Q (some (rn_I (-1))) M) (k2 : ((0 ≤ xl1 ∧ xl1 < 60) ∧ 0 ≤ xl2 ∧ xl2 < 40) → rn_WP 183 16 [vl0, rn_I xl1, rn_I xl2, rn_I (-9), rn_I 0, vl5, vl6] [] M Q) : rn_WP 183 0 [vl0, rn_I xl1, rn_I xl2, vl3, vl4, vl5, vl6] [] M Q := by
  refine (rn_step (e := (.iload_n 1, 1, 1, 0, 0, 0, 0, [])) rfl).mpr ?_
  refine (rn_step (e := (.iload_n 2, 2, 2, 0, 0, 0, 0, [])) rfl).mpr ?_
  refine (rn_step (e := (.invokestatic 59, 5, 132, 2, 959, 0, 11, [0])) rfl).mpr (rc_Mo_isOnMap  ?_)
  refine (rn_step (e := (.ifCond .ne 5, 8, 10, 0, 0, 0, 0, [])) rfl).mpr (And.intro (fun q => ?_) (fun q => ?_))
  · have c1 := rn_b0 q
    refine (rn_step (e := (.iconst (-1), 9, 0, 0, 0, 0, 0, [])) rfl).mpr ?_
    exact (rn_step (e := (.ireturn, 10, 0, 0, 0, 0, 0, [])) rfl).mpr (And.intro (trivial) ((k1 c1)))
  · have c1 := rn_b1 q
    refine (rn_step (e := (.bipush (-9), 12, 0, 0, 0, 0, 0, [])) rfl).mpr ?_
    refine (rn_step (e := (.istore_n 3, 13, 3, 0, 0, 0, 0, [])) rfl).mpr ?_
    refine (rn_step (e := (.iconst 0, 14, 0, 0, 0, 0, 0, [])) rfl).mpr ?_
    refine (rn_step (e := (.istore 4, 16, 4, 0, 0, 0, 0, [])) rfl).mpr ?_
    exact (k2 c1)
set_option maxRecDepth 4000 in
theorem rb_Mo_written_16 {M : rn_M} {Q : rn_Q} {xl1 : Int} {xl2 : Int} {xl3 : Int} {xl4 : Int} {vl5 : rn_V} {vl6 : rn_V} (hM : rn_sh M)   (hr1 : (xl4 < rn_gi M 467 2) → (¬ (xl3 = (-9))) → (-2147483648 : Int) ≤ 2 * xl4 ∧ 2 * xl4 ≤ 2147483647 ∧ (-2147483648 : Int) ≤ 522 + (2 * xl4) ∧ 522 + (2 * xl4) ≤ 2147483647 ∧ (0 : Int) ≤ 522 + (2 * xl4) ∧ 522 + (2 * xl4) < (562 : Int) ∧ ((0 : Int) ≤ rn_gi M 467 (522 + (2 * xl4)).toNat ∧ (rn_gi M 467 (522 + (2 * xl4)).toNat : Int) ≤ 5) ∧ ((0 : Int) ≤ 1 ∧ (1 : Int) ≤ 77) ∧ (-2147483648 : Int) ≤ 2 * xl3 ∧ 2 * xl3 ≤ 2147483647 ∧ (-2147483648 : Int) ≤ 522 + (2 * xl3) ∧ 522 + (2 * xl3) ≤ 2147483647 ∧ (0 : Int) ≤ 522 + (2 * xl3) ∧ 522 + (2 * xl3) < (562 : Int) ∧ ((0 : Int) ≤ rn_gi M 467 (522 + (2 * xl3)).toNat ∧ (rn_gi M 467 (522 + (2 * xl3)).toNat : Int) ≤ 5)) (hr2 : (xl4 < rn_gi M 467 2) → (¬ (xl3 = (-9))) → (rn_o (rn_gi M 467) (rn_gi M 467 (522 + (2 * xl4)).toNat) 1 ≤ rn_o (rn_gi M 467) (rn_gi M 467 (522 + (2 * xl3)).toNat) 1) → (-2147483648 : Int) ≤ xl4 + 1 ∧ xl4 + 1 ≤ 2147483647) (hr3 : (¬ (xl4 < rn_gi M 467 2)) → (¬ (xl3 = (-9))) → (-2147483648 : Int) ≤ 2 * xl3 ∧ 2 * xl3 ≤ 2147483647 ∧ (-2147483648 : Int) ≤ 522 + (2 * xl3) ∧ 522 + (2 * xl3) ≤ 2147483647 ∧ (0 : Int) ≤ 522 + (2 * xl3) ∧ 522 + (2 * xl3) < (562 : Int) ∧ (-2147483648 : Int) ≤ (522 + (2 * xl3)) + 1 ∧ (522 + (2 * xl3)) + 1 ≤ 2147483647 ∧ (0 : Int) ≤ (522 + (2 * xl3)) + 1 ∧ (522 + (2 * xl3)) + 1 < (562 : Int)) (k1 : (xl4 < rn_gi M 467 2) → (xl3 = (-9)) → rn_ME 182 [rn_R 466, rn_I xl4, rn_I xl1, rn_I xl2] M (fun r M1 => rn_WP 183 91 [rn_R 466, rn_I xl1, rn_I xl2, rn_I xl3, rn_I xl4, rn_I 1, vl6] (r.toList ++ []) M1 Q)) (k2 : (xl4 < rn_gi M 467 2) → (¬ (xl3 = (-9))) → (rn_o (rn_gi M 467) (rn_gi M 467 (522 + (2 * xl4)).toNat) 1 ≤ rn_o (rn_gi M 467) (rn_gi M 467 (522 + (2 * xl3)).toNat) 1) → rn_WP 183 16 [rn_R 466, rn_I xl1, rn_I xl2, rn_I xl3, rn_I (xl4 + 1), rn_I 0, vl6] [] M Q) (k3 : (xl4 < rn_gi M 467 2) → (¬ (xl3 = (-9))) → (¬ (rn_o (rn_gi M 467) (rn_gi M 467 (522 + (2 * xl4)).toNat) 1 ≤ rn_o (rn_gi M 467) (rn_gi M 467 (522 + (2 * xl3)).toNat) 1)) → rn_ME 182 [rn_R 466, rn_I xl4, rn_I xl1, rn_I xl2] M (fun r M1 => rn_WP 183 91 [rn_R 466, rn_I xl1, rn_I xl2, rn_I xl3, rn_I xl4, rn_I 1, vl6] (r.toList ++ []) M1 Q)) (k4 : (¬ (xl4 < rn_gi M 467 2)) → (xl3 = (-9)) → Q (some (rn_I (-9))) M) (k5 : (¬ (xl4 < rn_gi M 467 2)) → (¬ (xl3 = (-9))) → rn_ME 182 [rn_R 466, rn_I xl3, rn_I xl1, rn_I xl2] M (fun r M1 => rn_WP 183 155 [rn_R 466, rn_I xl1, rn_I xl2, rn_I xl3, rn_I (rn_gi M 467 (522 + (2 * xl3)).toNat), rn_I (rn_gi M 467 ((522 + (2 * xl3)) + 1).toNat), vl6] (r.toList ++ []) M1 Q)) : rn_WP 183 16 [rn_R 466, rn_I xl1, rn_I xl2, rn_I xl3, rn_I xl4, vl5, vl6] [] M Q := by
  refine (rn_step (e := (.iload 4, 18, 4, 0, 0, 0, 0, [])) rfl).mpr ?_
  refine (rn_step (e := (.aload_n 0, 19, 0, 0, 0, 0, 0, [])) rfl).mpr ?_
  refine (rn_step (e := (.getfield 7, 22, 10, 0, 902, 2, 11, [])) rfl).mpr (And.intro ((rn_ks466 (M := M) hM)) (rn_cg (rn_g466_0 (M := M) hM) ?_))
  refine (rn_step (e := (.iconst 2, 23, 0, 0, 0, 0, 0, [])) rfl).mpr ?_
  refine (rn_step (e := (.iaload, 24, 0, 0, 0, 0, 0, [])) rfl).mpr (And.intro (Or.inl (rn_w467 (M := M) hM).1) (And.intro ((And.intro ((by decide)) (rn_lt (rn_w467 (M := M) hM).2 (by decide)))) (?_)))
  refine (rn_step (e := (.if_icmp .ge 85, 27, 109, 0, 0, 0, 0, [])) rfl).mpr (And.intro (fun c1 => ?_) (fun c1 => ?_))
  ·
    refine (rn_step (e := (.iload_n 3, 28, 3, 0, 0, 0, 0, [])) rfl).mpr ?_
    refine (rn_step (e := (.bipush (-9), 30, 0, 0, 0, 0, 0, [])) rfl).mpr ?_
    refine (rn_step (e := (.if_icmp .eq 41, 33, 71, 0, 0, 0, 0, [])) rfl).mpr (And.intro (fun c2 => ?_) (fun c2 => ?_))
    ·
      refine (rn_step (e := (.iconst 1, 72, 0, 0, 0, 0, 0, [])) rfl).mpr ?_
      refine (rn_step (e := (.goto 4, 75, 76, 0, 0, 0, 0, [])) rfl).mpr ?_
      refine (rn_step (e := (.istore 5, 78, 5, 0, 0, 0, 0, [])) rfl).mpr ?_
      refine (rn_step (e := (.iload 5, 80, 5, 0, 0, 0, 0, [])) rfl).mpr ?_
      refine (rn_step (e := (.ifCond .eq 21, 83, 101, 0, 0, 0, 0, [])) rfl).mpr (And.intro (fun q => absurd q (by decide)) (fun q => ?_))
      refine (rn_step (e := (.aload_n 0, 84, 0, 0, 0, 0, 0, [])) rfl).mpr ?_
      refine (rn_step (e := (.iload 4, 86, 4, 0, 0, 0, 0, [])) rfl).mpr ?_
      refine (rn_step (e := (.iload_n 1, 87, 1, 0, 0, 0, 0, [])) rfl).mpr ?_
      refine (rn_step (e := (.iload_n 2, 88, 2, 0, 0, 0, 0, [])) rfl).mpr ?_
      exact (rn_step (e := (.invokevirtual 179, 91, 182, 4, 1174, 0, 11, [0])) rfl).mpr (And.intro ((rn_ks466 (M := M) hM)) ((k1 c1 c2)))
    ·
      refine (rn_step (e := (.aload_n 0, 34, 0, 0, 0, 0, 0, [])) rfl).mpr ?_
      refine (rn_step (e := (.aload_n 0, 35, 0, 0, 0, 0, 0, [])) rfl).mpr ?_
      refine (rn_step (e := (.getfield 7, 38, 10, 0, 902, 2, 11, [])) rfl).mpr (And.intro ((rn_ks466 (M := M) hM)) (rn_cg (rn_g466_0 (M := M) hM) ?_))
      refine (rn_step (e := (.sipush 522, 41, 0, 0, 0, 0, 0, [])) rfl).mpr ?_
      refine (rn_step (e := (.iconst 2, 42, 0, 0, 0, 0, 0, [])) rfl).mpr ?_
      refine (rn_step (e := (.iload 4, 44, 4, 0, 0, 0, 0, [])) rfl).mpr ?_
      refine (rn_step (e := (.imul, 45, 0, 0, 0, 0, 0, [])) rfl).mpr (rn_cw (hr1 c1 c2).1 (hr1 c1 c2).2.1 ?_)
      refine (rn_step (e := (.iadd, 46, 0, 0, 0, 0, 0, [])) rfl).mpr (rn_cw (hr1 c1 c2).2.2.1 (hr1 c1 c2).2.2.2.1 ?_)
      refine (rn_step (e := (.iaload, 47, 0, 0, 0, 0, 0, [])) rfl).mpr (And.intro (Or.inl (rn_w467 (M := M) hM).1) (And.intro ((And.intro ((hr1 c1 c2).2.2.2.2.1) (rn_lt (rn_w467 (M := M) hM).2 (hr1 c1 c2).2.2.2.2.2.1))) (?_)))
      refine (rn_step (e := (.iconst 1, 48, 0, 0, 0, 0, 0, [])) rfl).mpr ?_
      refine (rn_step (e := (.invokevirtual 49, 51, 129, 3, 1002, 0, 11, [0])) rfl).mpr (And.intro ((rn_ks466 (M := M) hM)) ((rc_Mo_of hM ((hr1 c1 c2).2.2.2.2.2.2.1) ((hr1 c1 c2).2.2.2.2.2.2.2.1) ?_)))
      refine (rn_step (e := (.aload_n 0, 52, 0, 0, 0, 0, 0, [])) rfl).mpr ?_
      refine (rn_step (e := (.aload_n 0, 53, 0, 0, 0, 0, 0, [])) rfl).mpr ?_
      refine (rn_step (e := (.getfield 7, 56, 10, 0, 902, 2, 11, [])) rfl).mpr (And.intro ((rn_ks466 (M := M) hM)) (rn_cg (rn_g466_0 (M := M) hM) ?_))
      refine (rn_step (e := (.sipush 522, 59, 0, 0, 0, 0, 0, [])) rfl).mpr ?_
      refine (rn_step (e := (.iconst 2, 60, 0, 0, 0, 0, 0, [])) rfl).mpr ?_
      refine (rn_step (e := (.iload_n 3, 61, 3, 0, 0, 0, 0, [])) rfl).mpr ?_
      refine (rn_step (e := (.imul, 62, 0, 0, 0, 0, 0, [])) rfl).mpr (rn_cw (hr1 c1 c2).2.2.2.2.2.2.2.2.1 (hr1 c1 c2).2.2.2.2.2.2.2.2.2.1 ?_)
      refine (rn_step (e := (.iadd, 63, 0, 0, 0, 0, 0, [])) rfl).mpr (rn_cw (hr1 c1 c2).2.2.2.2.2.2.2.2.2.2.1 (hr1 c1 c2).2.2.2.2.2.2.2.2.2.2.2.1 ?_)
      refine (rn_step (e := (.iaload, 64, 0, 0, 0, 0, 0, [])) rfl).mpr (And.intro (Or.inl (rn_w467 (M := M) hM).1) (And.intro ((And.intro ((hr1 c1 c2).2.2.2.2.2.2.2.2.2.2.2.2.1) (rn_lt (rn_w467 (M := M) hM).2 (hr1 c1 c2).2.2.2.2.2.2.2.2.2.2.2.2.2.1))) (?_)))
      refine (rn_step (e := (.iconst 1, 65, 0, 0, 0, 0, 0, [])) rfl).mpr ?_
      refine (rn_step (e := (.invokevirtual 49, 68, 129, 3, 1002, 0, 11, [0])) rfl).mpr (And.intro ((rn_ks466 (M := M) hM)) ((rc_Mo_of hM ((hr1 c1 c2).2.2.2.2.2.2.2.2.2.2.2.2.2.2) ((hr1 c1 c2).2.2.2.2.2.2.2.1) ?_)))
      refine (rn_step (e := (.if_icmp .le 7, 71, 75, 0, 0, 0, 0, [])) rfl).mpr (And.intro (fun c3 => ?_) (fun c3 => ?_))
      ·
        refine (rn_step (e := (.iconst 0, 76, 0, 0, 0, 0, 0, [])) rfl).mpr ?_
        refine (rn_step (e := (.istore 5, 78, 5, 0, 0, 0, 0, [])) rfl).mpr ?_
        refine (rn_step (e := (.iload 5, 80, 5, 0, 0, 0, 0, [])) rfl).mpr ?_
        refine (rn_step (e := (.ifCond .eq 21, 83, 101, 0, 0, 0, 0, [])) rfl).mpr (And.intro (fun q => ?_) (fun q => absurd (by decide) q))
        refine (rn_step (e := (.iload_n 3, 102, 3, 0, 0, 0, 0, [])) rfl).mpr ?_
        refine (rn_step (e := (.istore_n 3, 103, 3, 0, 0, 0, 0, [])) rfl).mpr ?_
        refine (rn_step (e := (.iinc 4 1, 106, 4, 0, 0, 0, 0, [])) rfl).mpr (rn_ci (hr2 c1 c2 c3).1 (hr2 c1 c2 c3).2 ?_)
        refine (rn_step (e := (.goto (-90), 109, 16, 0, 0, 0, 0, [])) rfl).mpr ?_
        exact (k2 c1 c2 c3)
      ·
        refine (rn_step (e := (.iconst 1, 72, 0, 0, 0, 0, 0, [])) rfl).mpr ?_
        refine (rn_step (e := (.goto 4, 75, 76, 0, 0, 0, 0, [])) rfl).mpr ?_
        refine (rn_step (e := (.istore 5, 78, 5, 0, 0, 0, 0, [])) rfl).mpr ?_
        refine (rn_step (e := (.iload 5, 80, 5, 0, 0, 0, 0, [])) rfl).mpr ?_
        refine (rn_step (e := (.ifCond .eq 21, 83, 101, 0, 0, 0, 0, [])) rfl).mpr (And.intro (fun q => absurd q (by decide)) (fun q => ?_))
        refine (rn_step (e := (.aload_n 0, 84, 0, 0, 0, 0, 0, [])) rfl).mpr ?_
        refine (rn_step (e := (.iload 4, 86, 4, 0, 0, 0, 0, [])) rfl).mpr ?_
        refine (rn_step (e := (.iload_n 1, 87, 1, 0, 0, 0, 0, [])) rfl).mpr ?_
        refine (rn_step (e := (.iload_n 2, 88, 2, 0, 0, 0, 0, [])) rfl).mpr ?_
        exact (rn_step (e := (.invokevirtual 179, 91, 182, 4, 1174, 0, 11, [0])) rfl).mpr (And.intro ((rn_ks466 (M := M) hM)) ((k3 c1 c2 c3)))
  ·
    refine (rn_step (e := (.iload_n 3, 110, 3, 0, 0, 0, 0, [])) rfl).mpr ?_
    refine (rn_step (e := (.bipush (-9), 112, 0, 0, 0, 0, 0, [])) rfl).mpr ?_
    refine (rn_step (e := (.if_icmp .ne 6, 115, 118, 0, 0, 0, 0, [])) rfl).mpr (And.intro (fun c2 => ?_) (fun c2 => ?_))
    ·
      refine (rn_step (e := (.bipush (-9), 117, 0, 0, 0, 0, 0, [])) rfl).mpr ?_
      exact (rn_step (e := (.ireturn, 118, 0, 0, 0, 0, 0, [])) rfl).mpr (And.intro (trivial) ((k4 c1 c2)))
    ·
      refine (rn_step (e := (.aload_n 0, 119, 0, 0, 0, 0, 0, [])) rfl).mpr ?_
      refine (rn_step (e := (.getfield 7, 122, 10, 0, 902, 2, 11, [])) rfl).mpr (And.intro ((rn_ks466 (M := M) hM)) (rn_cg (rn_g466_0 (M := M) hM) ?_))
      refine (rn_step (e := (.sipush 522, 125, 0, 0, 0, 0, 0, [])) rfl).mpr ?_
      refine (rn_step (e := (.iconst 2, 126, 0, 0, 0, 0, 0, [])) rfl).mpr ?_
      refine (rn_step (e := (.iload_n 3, 127, 3, 0, 0, 0, 0, [])) rfl).mpr ?_
      refine (rn_step (e := (.imul, 128, 0, 0, 0, 0, 0, [])) rfl).mpr (rn_cw (hr3 c1 c2).1 (hr3 c1 c2).2.1 ?_)
      refine (rn_step (e := (.iadd, 129, 0, 0, 0, 0, 0, [])) rfl).mpr (rn_cw (hr3 c1 c2).2.2.1 (hr3 c1 c2).2.2.2.1 ?_)
      refine (rn_step (e := (.iaload, 130, 0, 0, 0, 0, 0, [])) rfl).mpr (And.intro (Or.inl (rn_w467 (M := M) hM).1) (And.intro ((And.intro ((hr3 c1 c2).2.2.2.2.1) (rn_lt (rn_w467 (M := M) hM).2 (hr3 c1 c2).2.2.2.2.2.1))) (?_)))
      refine (rn_step (e := (.istore 4, 132, 4, 0, 0, 0, 0, [])) rfl).mpr ?_
      refine (rn_step (e := (.aload_n 0, 133, 0, 0, 0, 0, 0, [])) rfl).mpr ?_
      refine (rn_step (e := (.getfield 7, 136, 10, 0, 902, 2, 11, [])) rfl).mpr (And.intro ((rn_ks466 (M := M) hM)) (rn_cg (rn_g466_0 (M := M) hM) ?_))
      refine (rn_step (e := (.sipush 522, 139, 0, 0, 0, 0, 0, [])) rfl).mpr ?_
      refine (rn_step (e := (.iconst 2, 140, 0, 0, 0, 0, 0, [])) rfl).mpr ?_
      refine (rn_step (e := (.iload_n 3, 141, 3, 0, 0, 0, 0, [])) rfl).mpr ?_
      refine (rn_step (e := (.imul, 142, 0, 0, 0, 0, 0, [])) rfl).mpr (rn_cw (hr3 c1 c2).1 (hr3 c1 c2).2.1 ?_)
      refine (rn_step (e := (.iadd, 143, 0, 0, 0, 0, 0, [])) rfl).mpr (rn_cw (hr3 c1 c2).2.2.1 (hr3 c1 c2).2.2.2.1 ?_)
      refine (rn_step (e := (.iconst 1, 144, 0, 0, 0, 0, 0, [])) rfl).mpr ?_
      refine (rn_step (e := (.iadd, 145, 0, 0, 0, 0, 0, [])) rfl).mpr (rn_cw (hr3 c1 c2).2.2.2.2.2.2.1 (hr3 c1 c2).2.2.2.2.2.2.2.1 ?_)
      refine (rn_step (e := (.iaload, 146, 0, 0, 0, 0, 0, [])) rfl).mpr (And.intro (Or.inl (rn_w467 (M := M) hM).1) (And.intro ((And.intro ((hr3 c1 c2).2.2.2.2.2.2.2.2.1) (rn_lt (rn_w467 (M := M) hM).2 (hr3 c1 c2).2.2.2.2.2.2.2.2.2))) (?_)))
      refine (rn_step (e := (.istore 5, 148, 5, 0, 0, 0, 0, [])) rfl).mpr ?_
      refine (rn_step (e := (.aload_n 0, 149, 0, 0, 0, 0, 0, [])) rfl).mpr ?_
      refine (rn_step (e := (.iload_n 3, 150, 3, 0, 0, 0, 0, [])) rfl).mpr ?_
      refine (rn_step (e := (.iload_n 1, 151, 1, 0, 0, 0, 0, [])) rfl).mpr ?_
      refine (rn_step (e := (.iload_n 2, 152, 2, 0, 0, 0, 0, [])) rfl).mpr ?_
      exact (rn_step (e := (.invokevirtual 179, 155, 182, 4, 1174, 0, 11, [0])) rfl).mpr (And.intro ((rn_ks466 (M := M) hM)) ((k5 c1 c2)))
set_option maxRecDepth 4000 in
theorem rb_Mo_written_91 {M : rn_M} {Q : rn_Q} {vl0 : rn_V} {vl1 : rn_V} {vl2 : rn_V} {xl3 : Int} {xl4 : Int} {vl5 : rn_V} {vl6 : rn_V} {xs0 : Int}   (hr1 : (xs0 = (-9)) → (-2147483648 : Int) ≤ xl4 + 1 ∧ xl4 + 1 ≤ 2147483647) (hr2 : (¬ (xs0 = (-9))) → (-2147483648 : Int) ≤ xl4 + 1 ∧ xl4 + 1 ≤ 2147483647) (k1 : (xs0 = (-9)) → rn_WP 183 16 [vl0, vl1, vl2, rn_I xl3, rn_I (xl4 + 1), vl5, vl6] [] M Q) (k2 : (¬ (xs0 = (-9))) → rn_WP 183 16 [vl0, vl1, vl2, rn_I xl4, rn_I (xl4 + 1), vl5, vl6] [] M Q) : rn_WP 183 91 [vl0, vl1, vl2, rn_I xl3, rn_I xl4, vl5, vl6] [rn_I xs0] M Q := by
  refine (rn_step (e := (.bipush (-9), 93, 0, 0, 0, 0, 0, [])) rfl).mpr ?_
  refine (rn_step (e := (.if_icmp .eq 8, 96, 101, 0, 0, 0, 0, [])) rfl).mpr (And.intro (fun c1 => ?_) (fun c1 => ?_))
  ·
    refine (rn_step (e := (.iload_n 3, 102, 3, 0, 0, 0, 0, [])) rfl).mpr ?_
    refine (rn_step (e := (.istore_n 3, 103, 3, 0, 0, 0, 0, [])) rfl).mpr ?_
    refine (rn_step (e := (.iinc 4 1, 106, 4, 0, 0, 0, 0, [])) rfl).mpr (rn_ci (hr1 c1).1 (hr1 c1).2 ?_)
    refine (rn_step (e := (.goto (-90), 109, 16, 0, 0, 0, 0, [])) rfl).mpr ?_
    exact (k1 c1)
  ·
    refine (rn_step (e := (.iload 4, 98, 4, 0, 0, 0, 0, [])) rfl).mpr ?_
    refine (rn_step (e := (.goto 4, 101, 102, 0, 0, 0, 0, [])) rfl).mpr ?_
    refine (rn_step (e := (.istore_n 3, 103, 3, 0, 0, 0, 0, [])) rfl).mpr ?_
    refine (rn_step (e := (.iinc 4 1, 106, 4, 0, 0, 0, 0, [])) rfl).mpr (rn_ci (hr2 c1).1 (hr2 c1).2 ?_)
    refine (rn_step (e := (.goto (-90), 109, 16, 0, 0, 0, 0, [])) rfl).mpr ?_
    exact (k2 c1)
set_option maxRecDepth 4000 in
theorem rb_Mo_written_155 {M : rn_M} {Q : rn_Q} {vl1 : rn_V} {vl2 : rn_V} {vl3 : rn_V} {xl4 : Int} {xl5 : Int} {vl6 : rn_V} {xs0 : Int} (hM : rn_sh M)   (hr1 : (-2147483648 : Int) ≤ xs0 - xl5 ∧ xs0 - xl5 ≤ 2147483647) (k1 : rn_ME 153 [rn_R 466, rn_I xl4, rn_I xl5] M (fun r M1 => rn_WP 183 173 [rn_R 466, vl1, vl2, vl3, rn_I xl4, rn_I xl5, rn_I (xs0 - xl5)] (r.toList ++ [rn_I 6, rn_I xl4, rn_R 466]) M1 Q)) : rn_WP 183 155 [rn_R 466, vl1, vl2, vl3, rn_I xl4, rn_I xl5, vl6] [rn_I xs0] M Q := by
  refine (rn_step (e := (.iload 5, 157, 5, 0, 0, 0, 0, [])) rfl).mpr ?_
  refine (rn_step (e := (.isub, 158, 0, 0, 0, 0, 0, [])) rfl).mpr (rn_cw hr1.1 hr1.2 ?_)
  refine (rn_step (e := (.istore 6, 160, 6, 0, 0, 0, 0, [])) rfl).mpr ?_
  refine (rn_step (e := (.aload_n 0, 161, 0, 0, 0, 0, 0, [])) rfl).mpr ?_
  refine (rn_step (e := (.iload 4, 163, 4, 0, 0, 0, 0, [])) rfl).mpr ?_
  refine (rn_step (e := (.bipush 6, 165, 0, 0, 0, 0, 0, [])) rfl).mpr ?_
  refine (rn_step (e := (.aload_n 0, 166, 0, 0, 0, 0, 0, [])) rfl).mpr ?_
  refine (rn_step (e := (.iload 4, 168, 4, 0, 0, 0, 0, [])) rfl).mpr ?_
  refine (rn_step (e := (.iload 5, 170, 5, 0, 0, 0, 0, [])) rfl).mpr ?_
  exact (rn_step (e := (.invokevirtual 173, 173, 153, 3, 1162, 0, 11, [0])) rfl).mpr (And.intro ((rn_ks466 (M := M) hM)) (k1))
set_option maxRecDepth 4000 in
theorem rb_Mo_written_173 {M : rn_M} {Q : rn_Q} {vl1 : rn_V} {vl2 : rn_V} {vl3 : rn_V} {xl4 : Int} {vl5 : rn_V} {xl6 : Int} {xs0 : Int} {xs1 : Int} {xs2 : Int} (hM : rn_sh M)   (hr1 : (xs0 = 0) → (-2147483648 : Int) ≤ xs1 + xl6 ∧ xs1 + xl6 ≤ 2147483647 ∧ ((0 : Int) ≤ xs2 ∧ (xs2 : Int) ≤ 5) ∧ ((0 : Int) ≤ xs1 + xl6 ∧ (xs1 + xl6 : Int) ≤ 77)) (hr2 : (¬ (xs0 = 0)) → ((0 : Int) ≤ xl4 ∧ (xl4 : Int) ≤ 5) ∧ ((0 : Int) ≤ 0 ∧ (0 : Int) ≤ 77) ∧ (-2147483648 : Int) ≤ (rn_o (rn_gi M 467) xl4 0) - 1 ∧ (rn_o (rn_gi M 467) xl4 0) - 1 ≤ 2147483647 ∧ (-2147483648 : Int) ≤ ((rn_o (rn_gi M 467) xl4 0) - 1) - xl6 ∧ ((rn_o (rn_gi M 467) xl4 0) - 1) - xl6 ≤ 2147483647 ∧ (-2147483648 : Int) ≤ xs1 + (((rn_o (rn_gi M 467) xl4 0) - 1) - xl6) ∧ xs1 + (((rn_o (rn_gi M 467) xl4 0) - 1) - xl6) ≤ 2147483647 ∧ ((0 : Int) ≤ xs2 ∧ (xs2 : Int) ≤ 5) ∧ ((0 : Int) ≤ xs1 + (((rn_o (rn_gi M 467) xl4 0) - 1) - xl6) ∧ (xs1 + (((rn_o (rn_gi M 467) xl4 0) - 1) - xl6) : Int) ≤ 77)) (k1 : (xs0 = 0) → Q (some (rn_I (rn_o (rn_gi M 467) xs2 (xs1 + xl6)))) M) (k2 : (¬ (xs0 = 0)) → Q (some (rn_I (rn_o (rn_gi M 467) xs2 (xs1 + (((rn_o (rn_gi M 467) xl4 0) - 1) - xl6))))) M) : rn_WP 183 173 [rn_R 466, vl1, vl2, vl3, rn_I xl4, vl5, rn_I xl6] [rn_I xs0, rn_I xs1, rn_I xs2, rn_R 466] M Q := by
  refine (rn_step (e := (.ifCond .eq 18, 176, 191, 0, 0, 0, 0, [])) rfl).mpr (And.intro (fun c1 => ?_) (fun c1 => ?_))
  ·
    refine (rn_step (e := (.iload 6, 193, 6, 0, 0, 0, 0, [])) rfl).mpr ?_
    refine (rn_step (e := (.iadd, 194, 0, 0, 0, 0, 0, [])) rfl).mpr (rn_cw (hr1 c1).1 (hr1 c1).2.1 ?_)
    refine (rn_step (e := (.invokevirtual 49, 197, 129, 3, 1002, 0, 11, [0])) rfl).mpr (And.intro ((rn_ks466 (M := M) hM)) ((rc_Mo_of hM ((hr1 c1).2.2.1) ((hr1 c1).2.2.2) ?_)))
    exact (rn_step (e := (.ireturn, 198, 0, 0, 0, 0, 0, [])) rfl).mpr (And.intro (trivial) ((k1 c1)))
  ·
    refine (rn_step (e := (.aload_n 0, 177, 0, 0, 0, 0, 0, [])) rfl).mpr ?_
    refine (rn_step (e := (.iload 4, 179, 4, 0, 0, 0, 0, [])) rfl).mpr ?_
    refine (rn_step (e := (.iconst 0, 180, 0, 0, 0, 0, 0, [])) rfl).mpr ?_
    refine (rn_step (e := (.invokevirtual 49, 183, 129, 3, 1002, 0, 11, [0])) rfl).mpr (And.intro ((rn_ks466 (M := M) hM)) ((rc_Mo_of hM ((hr2 c1).1) ((hr2 c1).2.1) ?_)))
    refine (rn_step (e := (.iconst 1, 184, 0, 0, 0, 0, 0, [])) rfl).mpr ?_
    refine (rn_step (e := (.isub, 185, 0, 0, 0, 0, 0, [])) rfl).mpr (rn_cw (hr2 c1).2.2.1 (hr2 c1).2.2.2.1 ?_)
    refine (rn_step (e := (.iload 6, 187, 6, 0, 0, 0, 0, [])) rfl).mpr ?_
    refine (rn_step (e := (.isub, 188, 0, 0, 0, 0, 0, [])) rfl).mpr (rn_cw (hr2 c1).2.2.2.2.1 (hr2 c1).2.2.2.2.2.1 ?_)
    refine (rn_step (e := (.goto 5, 191, 193, 0, 0, 0, 0, [])) rfl).mpr ?_
    refine (rn_step (e := (.iadd, 194, 0, 0, 0, 0, 0, [])) rfl).mpr (rn_cw (hr2 c1).2.2.2.2.2.2.1 (hr2 c1).2.2.2.2.2.2.2.1 ?_)
    refine (rn_step (e := (.invokevirtual 49, 197, 129, 3, 1002, 0, 11, [0])) rfl).mpr (And.intro ((rn_ks466 (M := M) hM)) ((rc_Mo_of hM ((hr2 c1).2.2.2.2.2.2.2.2.1) ((hr2 c1).2.2.2.2.2.2.2.2.2) ?_)))
    exact (rn_step (e := (.ireturn, 198, 0, 0, 0, 0, 0, [])) rfl).mpr (And.intro (trivial) ((k2 c1)))
theorem re_Mo_bend {M : rn_M} {Q : rn_Q} {v0 v1 v2 v3 : rn_V} (h : rn_WP 184 0 [v0, v1, v2, v3] [] M Q) : rn_ME 184 [v0, v1, v2, v3] M Q := h
set_option maxRecDepth 4000 in
theorem rb_Mo_bend_0 {M : rn_M} {Q : rn_Q} {xl1 : Int} {xl2 : Int} {xl3 : Int} (hM : rn_sh M)   (hr1 : (0 ≤ rn_gi M 467 0 ∧ rn_gi M 467 0 ≤ 100)) (hr2 : (0 ≤ xl1 ∧ xl1 ≤ rn_gi M 467 0 - 1) → (0 ≤ xl2 ∧ xl2 ≤ 60) → (1 ≤ xl3 ∧ xl3 ≤ 61) → ((0 : Int) ≤ xl1 ∧ (xl1 : Int) ≤ 5) ∧ ((-1000 : Int) ≤ xl2 + xl3 ∧ (xl2 + xl3 : Int) ≤ 1000) ∧ (-1000 ≤ rn_o (rn_gi M 467) xl1 5 ∧ rn_o (rn_gi M 467) xl1 5 ≤ 1000)) (k1 : (¬ (0 ≤ xl1 ∧ xl1 ≤ rn_gi M 467 0 - 1)) → Q (some (rn_I (-1))) M) (k2 : (0 ≤ xl1 ∧ xl1 ≤ rn_gi M 467 0 - 1) → (¬ (0 ≤ xl2 ∧ xl2 ≤ 60)) → Q (some (rn_I (-1))) M) (k3 : (0 ≤ xl1 ∧ xl1 ≤ rn_gi M 467 0 - 1) → (0 ≤ xl2 ∧ xl2 ≤ 60) → (¬ (1 ≤ xl3 ∧ xl3 ≤ 61)) → Q (some (rn_I (-1))) M) (k4 : (0 ≤ xl1 ∧ xl1 ≤ rn_gi M 467 0 - 1) → (0 ≤ xl2 ∧ xl2 ≤ 60) → (1 ≤ xl3 ∧ xl3 ≤ 61) → (¬ (xl2 + xl3 ≤ rn_o (rn_gi M 467) xl1 5 + 1)) → Q (some (rn_I (-9))) M) (k5 : (0 ≤ xl1 ∧ xl1 ≤ rn_gi M 467 0 - 1) → (0 ≤ xl2 ∧ xl2 ≤ 60) → (1 ≤ xl3 ∧ xl3 ≤ 61) → (xl2 + xl3 ≤ rn_o (rn_gi M 467) xl1 5 + 1) → rn_ME 150 [rn_R 466, rn_I xl1, rn_I xl2, rn_I xl3] M (fun r M1 => rn_WP 184 44 [rn_R 466, rn_I xl1, rn_I xl2, rn_I xl3] (r.toList ++ []) M1 Q)) : rn_WP 184 0 [rn_R 466, rn_I xl1, rn_I xl2, rn_I xl3] [] M Q := by
  refine (rn_step (e := (.aload_n 0, 1, 0, 0, 0, 0, 0, [])) rfl).mpr ?_
  refine (rn_step (e := (.iload_n 1, 2, 1, 0, 0, 0, 0, [])) rfl).mpr ?_
  refine (rn_step (e := (.invokevirtual 84, 5, 127, 2, 994, 0, 11, [0])) rfl).mpr (And.intro ((rn_ks466 (M := M) hM)) ((rc_Mo_isRiver hM (hr1) ?_)))
  refine (rn_step (e := (.ifCond .eq 20, 8, 25, 0, 0, 0, 0, [])) rfl).mpr (And.intro (fun q => ?_) (fun q => ?_))
  · have c1 := rn_b0 q
    refine (rn_step (e := (.iconst (-1), 26, 0, 0, 0, 0, 0, [])) rfl).mpr ?_
    exact (rn_step (e := (.ireturn, 27, 0, 0, 0, 0, 0, [])) rfl).mpr (And.intro (trivial) ((k1 c1)))
  · have c1 := rn_b1 q
    refine (rn_step (e := (.iload_n 2, 9, 2, 0, 0, 0, 0, [])) rfl).mpr ?_
    refine (rn_step (e := (.invokestatic 133, 12, 163, 1, 1044, 0, 11, [0])) rfl).mpr (rc_Mo_isStart  ?_)
    refine (rn_step (e := (.ifCond .eq 13, 15, 25, 0, 0, 0, 0, [])) rfl).mpr (And.intro (fun q => ?_) (fun q => ?_))
    · have c2 := rn_b0 q
      refine (rn_step (e := (.iconst (-1), 26, 0, 0, 0, 0, 0, [])) rfl).mpr ?_
      exact (rn_step (e := (.ireturn, 27, 0, 0, 0, 0, 0, [])) rfl).mpr (And.intro (trivial) ((k2 c1 c2)))
    · have c2 := rn_b1 q
      refine (rn_step (e := (.iload_n 3, 16, 3, 0, 0, 0, 0, [])) rfl).mpr ?_
      refine (rn_step (e := (.iconst 1, 17, 0, 0, 0, 0, 0, [])) rfl).mpr ?_
      refine (rn_step (e := (.bipush 61, 19, 0, 0, 0, 0, 0, [])) rfl).mpr ?_
      refine (rn_step (e := (.invokestatic 41, 22, 124, 3, 956, 0, 11, [0])) rfl).mpr (rc_Mo_in  ?_)
      refine (rn_step (e := (.ifCond .ne 5, 25, 27, 0, 0, 0, 0, [])) rfl).mpr (And.intro (fun q => ?_) (fun q => ?_))
      · have c3 := rn_b0 q
        refine (rn_step (e := (.iconst (-1), 26, 0, 0, 0, 0, 0, [])) rfl).mpr ?_
        exact (rn_step (e := (.ireturn, 27, 0, 0, 0, 0, 0, [])) rfl).mpr (And.intro (trivial) ((k3 c1 c2 c3)))
      · have c3 := rn_b1 q
        refine (rn_step (e := (.aload_n 0, 28, 0, 0, 0, 0, 0, [])) rfl).mpr ?_
        refine (rn_step (e := (.iload_n 1, 29, 1, 0, 0, 0, 0, [])) rfl).mpr ?_
        refine (rn_step (e := (.iload_n 2, 30, 2, 0, 0, 0, 0, [])) rfl).mpr ?_
        refine (rn_step (e := (.iload_n 3, 31, 3, 0, 0, 0, 0, [])) rfl).mpr ?_
        refine (rn_step (e := (.invokevirtual 114, 34, 151, 4, 1051, 0, 11, [0])) rfl).mpr (And.intro ((rn_ks466 (M := M) hM)) ((rc_Mo_hasPlaces hM ((hr2 c1 c2 c3).1) ((hr2 c1 c2 c3).2.1) ((hr2 c1 c2 c3).2.2) ?_)))
        refine (rn_step (e := (.ifCond .eq 13, 37, 47, 0, 0, 0, 0, [])) rfl).mpr (And.intro (fun q => ?_) (fun q => ?_))
        · have c4 := rn_b0 q
          refine (rn_step (e := (.bipush (-9), 49, 0, 0, 0, 0, 0, [])) rfl).mpr ?_
          exact (rn_step (e := (.ireturn, 50, 0, 0, 0, 0, 0, [])) rfl).mpr (And.intro (trivial) ((k4 c1 c2 c3 c4)))
        · have c4 := rn_b1 q
          refine (rn_step (e := (.aload_n 0, 38, 0, 0, 0, 0, 0, [])) rfl).mpr ?_
          refine (rn_step (e := (.iload_n 1, 39, 1, 0, 0, 0, 0, [])) rfl).mpr ?_
          refine (rn_step (e := (.iload_n 2, 40, 2, 0, 0, 0, 0, [])) rfl).mpr ?_
          refine (rn_step (e := (.iload_n 3, 41, 3, 0, 0, 0, 0, [])) rfl).mpr ?_
          exact (rn_step (e := (.invokevirtual 104, 44, 150, 4, 1099, 0, 11, [0])) rfl).mpr (And.intro ((rn_ks466 (M := M) hM)) ((k5 c1 c2 c3 c4)))
set_option maxRecDepth 4000 in
theorem rb_Mo_bend_44 {M : rn_M} {Q : rn_Q} {vl0 : rn_V} {vl1 : rn_V} {vl2 : rn_V} {vl3 : rn_V} {xs0 : Int}   (k1 : Q (some (rn_I xs0)) M) : rn_WP 184 44 [vl0, vl1, vl2, vl3] [rn_I xs0] M Q := by
  refine (rn_step (e := (.goto 5, 47, 49, 0, 0, 0, 0, [])) rfl).mpr ?_
  exact (rn_step (e := (.ireturn, 50, 0, 0, 0, 0, 0, [])) rfl).mpr (And.intro (trivial) (k1))
theorem re_Mo_straightest {M : rn_M} {Q : rn_Q} {v0 v1 v2 : rn_V} (h : rn_WP 185 0 [v0, v1, v2, rn_J, rn_J] [] M Q) : rn_ME 185 [v0, v1, v2] M Q := h
set_option maxRecDepth 4000 in
theorem rb_Mo_straightest_0 {M : rn_M} {Q : rn_Q} {xl1 : Int} {xl2 : Int} {vl3 : rn_V} {vl4 : rn_V} (hM : rn_sh M)   (hr1 : (0 ≤ rn_gi M 467 0 ∧ rn_gi M 467 0 ≤ 100)) (k1 : (¬ (0 ≤ xl1 ∧ xl1 ≤ rn_gi M 467 0 - 1)) → Q (some (rn_I (-1))) M) (k2 : (0 ≤ xl1 ∧ xl1 ≤ rn_gi M 467 0 - 1) → (¬ (1 ≤ xl2 ∧ xl2 ≤ 61)) → Q (some (rn_I (-1))) M) (k3 : (0 ≤ xl1 ∧ xl1 ≤ rn_gi M 467 0 - 1) → (1 ≤ xl2 ∧ xl2 ≤ 61) → rn_WP 185 26 [rn_R 466, rn_I xl1, rn_I xl2, rn_I (-9), rn_I 0] [] M Q) : rn_WP 185 0 [rn_R 466, rn_I xl1, rn_I xl2, vl3, vl4] [] M Q := by
  refine (rn_step (e := (.aload_n 0, 1, 0, 0, 0, 0, 0, [])) rfl).mpr ?_
  refine (rn_step (e := (.iload_n 1, 2, 1, 0, 0, 0, 0, [])) rfl).mpr ?_
  refine (rn_step (e := (.invokevirtual 84, 5, 127, 2, 994, 0, 11, [0])) rfl).mpr (And.intro ((rn_ks466 (M := M) hM)) ((rc_Mo_isRiver hM (hr1) ?_)))
  refine (rn_step (e := (.ifCond .eq 13, 8, 18, 0, 0, 0, 0, [])) rfl).mpr (And.intro (fun q => ?_) (fun q => ?_))
  · have c1 := rn_b0 q
    refine (rn_step (e := (.iconst (-1), 19, 0, 0, 0, 0, 0, [])) rfl).mpr ?_
    exact (rn_step (e := (.ireturn, 20, 0, 0, 0, 0, 0, [])) rfl).mpr (And.intro (trivial) ((k1 c1)))
  · have c1 := rn_b1 q
    refine (rn_step (e := (.iload_n 2, 9, 2, 0, 0, 0, 0, [])) rfl).mpr ?_
    refine (rn_step (e := (.iconst 1, 10, 0, 0, 0, 0, 0, [])) rfl).mpr ?_
    refine (rn_step (e := (.bipush 61, 12, 0, 0, 0, 0, 0, [])) rfl).mpr ?_
    refine (rn_step (e := (.invokestatic 41, 15, 124, 3, 956, 0, 11, [0])) rfl).mpr (rc_Mo_in  ?_)
    refine (rn_step (e := (.ifCond .ne 5, 18, 20, 0, 0, 0, 0, [])) rfl).mpr (And.intro (fun q => ?_) (fun q => ?_))
    · have c2 := rn_b0 q
      refine (rn_step (e := (.iconst (-1), 19, 0, 0, 0, 0, 0, [])) rfl).mpr ?_
      exact (rn_step (e := (.ireturn, 20, 0, 0, 0, 0, 0, [])) rfl).mpr (And.intro (trivial) ((k2 c1 c2)))
    · have c2 := rn_b1 q
      refine (rn_step (e := (.bipush (-9), 22, 0, 0, 0, 0, 0, [])) rfl).mpr ?_
      refine (rn_step (e := (.istore_n 3, 23, 3, 0, 0, 0, 0, [])) rfl).mpr ?_
      refine (rn_step (e := (.iconst 0, 24, 0, 0, 0, 0, 0, [])) rfl).mpr ?_
      refine (rn_step (e := (.istore 4, 26, 4, 0, 0, 0, 0, [])) rfl).mpr ?_
      exact (k3 c1 c2)
set_option maxRecDepth 4000 in
theorem rb_Mo_straightest_26 {M : rn_M} {Q : rn_Q} {xl1 : Int} {xl2 : Int} {xl3 : Int} {xl4 : Int} (hM : rn_sh M)   (hr1 : ((0 : Int) ≤ xl1 ∧ (xl1 : Int) ≤ 5) ∧ ((-1000 : Int) ≤ xl4 + xl2 ∧ (xl4 + xl2 : Int) ≤ 1000) ∧ (-1000 ≤ rn_o (rn_gi M 467) xl1 5 ∧ rn_o (rn_gi M 467) xl1 5 ≤ 1000)) (hr2 : (xl4 + xl2 ≤ rn_o (rn_gi M 467) xl1 5 + 1) → (xl3 = (-9)) → (-2147483648 : Int) ≤ xl4 + 1 ∧ xl4 + 1 ≤ 2147483647) (k1 : (¬ (xl4 + xl2 ≤ rn_o (rn_gi M 467) xl1 5 + 1)) → Q (some (rn_I xl3)) M) (k2 : (xl4 + xl2 ≤ rn_o (rn_gi M 467) xl1 5 + 1) → (xl3 = (-9)) → rn_WP 185 26 [rn_R 466, rn_I xl1, rn_I xl2, rn_I xl4, rn_I (xl4 + 1)] [] M Q) (k3 : (xl4 + xl2 ≤ rn_o (rn_gi M 467) xl1 5 + 1) → (¬ (xl3 = (-9))) → rn_ME 150 [rn_R 466, rn_I xl1, rn_I xl4, rn_I xl2] M (fun r M1 => rn_WP 185 51 [rn_R 466, rn_I xl1, rn_I xl2, rn_I xl3, rn_I xl4] (r.toList ++ []) M1 Q)) : rn_WP 185 26 [rn_R 466, rn_I xl1, rn_I xl2, rn_I xl3, rn_I xl4] [] M Q := by
  refine (rn_step (e := (.aload_n 0, 27, 0, 0, 0, 0, 0, [])) rfl).mpr ?_
  refine (rn_step (e := (.iload_n 1, 28, 1, 0, 0, 0, 0, [])) rfl).mpr ?_
  refine (rn_step (e := (.iload 4, 30, 4, 0, 0, 0, 0, [])) rfl).mpr ?_
  refine (rn_step (e := (.iload_n 2, 31, 2, 0, 0, 0, 0, [])) rfl).mpr ?_
  refine (rn_step (e := (.invokevirtual 114, 34, 151, 4, 1051, 0, 11, [0])) rfl).mpr (And.intro ((rn_ks466 (M := M) hM)) ((rc_Mo_hasPlaces hM (hr1.1) (hr1.2.1) (hr1.2.2) ?_)))
  refine (rn_step (e := (.ifCond .eq 40, 37, 74, 0, 0, 0, 0, [])) rfl).mpr (And.intro (fun q => ?_) (fun q => ?_))
  · have c1 := rn_b0 q
    refine (rn_step (e := (.iload_n 3, 75, 3, 0, 0, 0, 0, [])) rfl).mpr ?_
    exact (rn_step (e := (.ireturn, 76, 0, 0, 0, 0, 0, [])) rfl).mpr (And.intro (trivial) ((k1 c1)))
  · have c1 := rn_b1 q
    refine (rn_step (e := (.iload_n 3, 38, 3, 0, 0, 0, 0, [])) rfl).mpr ?_
    refine (rn_step (e := (.bipush (-9), 40, 0, 0, 0, 0, 0, [])) rfl).mpr ?_
    refine (rn_step (e := (.if_icmp .eq 21, 43, 61, 0, 0, 0, 0, [])) rfl).mpr (And.intro (fun c2 => ?_) (fun c2 => ?_))
    ·
      refine (rn_step (e := (.iload 4, 63, 4, 0, 0, 0, 0, [])) rfl).mpr ?_
      refine (rn_step (e := (.goto 4, 66, 67, 0, 0, 0, 0, [])) rfl).mpr ?_
      refine (rn_step (e := (.istore_n 3, 68, 3, 0, 0, 0, 0, [])) rfl).mpr ?_
      refine (rn_step (e := (.iinc 4 1, 71, 4, 0, 0, 0, 0, [])) rfl).mpr (rn_ci (hr2 c1 c2).1 (hr2 c1 c2).2 ?_)
      refine (rn_step (e := (.goto (-45), 74, 26, 0, 0, 0, 0, [])) rfl).mpr ?_
      exact (k2 c1 c2)
    ·
      refine (rn_step (e := (.aload_n 0, 44, 0, 0, 0, 0, 0, [])) rfl).mpr ?_
      refine (rn_step (e := (.iload_n 1, 45, 1, 0, 0, 0, 0, [])) rfl).mpr ?_
      refine (rn_step (e := (.iload 4, 47, 4, 0, 0, 0, 0, [])) rfl).mpr ?_
      refine (rn_step (e := (.iload_n 2, 48, 2, 0, 0, 0, 0, [])) rfl).mpr ?_
      exact (rn_step (e := (.invokevirtual 104, 51, 150, 4, 1099, 0, 11, [0])) rfl).mpr (And.intro ((rn_ks466 (M := M) hM)) ((k3 c1 c2)))
set_option maxRecDepth 4000 in
theorem rb_Mo_straightest_51 {M : rn_M} {Q : rn_Q} {xl1 : Int} {xl2 : Int} {xl3 : Int} {vl4 : rn_V} {vs0 : rn_V} (hM : rn_sh M)   (k1 : rn_ME 150 [rn_R 466, rn_I xl1, rn_I xl3, rn_I xl2] M (fun r M1 => rn_WP 185 58 [rn_R 466, rn_I xl1, rn_I xl2, rn_I xl3, vl4] (r.toList ++ [vs0]) M1 Q)) : rn_WP 185 51 [rn_R 466, rn_I xl1, rn_I xl2, rn_I xl3, vl4] [vs0] M Q := by
  refine (rn_step (e := (.aload_n 0, 52, 0, 0, 0, 0, 0, [])) rfl).mpr ?_
  refine (rn_step (e := (.iload_n 1, 53, 1, 0, 0, 0, 0, [])) rfl).mpr ?_
  refine (rn_step (e := (.iload_n 3, 54, 3, 0, 0, 0, 0, [])) rfl).mpr ?_
  refine (rn_step (e := (.iload_n 2, 55, 2, 0, 0, 0, 0, [])) rfl).mpr ?_
  exact (rn_step (e := (.invokevirtual 104, 58, 150, 4, 1099, 0, 11, [0])) rfl).mpr (And.intro ((rn_ks466 (M := M) hM)) (k1))
set_option maxRecDepth 4000 in
theorem rb_Mo_straightest_58 {M : rn_M} {Q : rn_Q} {vl0 : rn_V} {vl1 : rn_V} {vl2 : rn_V} {xl3 : Int} {xl4 : Int} {xs0 : Int} {xs1 : Int}   (hr1 : (xs1 < xs0) → (-2147483648 : Int) ≤ xl4 + 1 ∧ xl4 + 1 ≤ 2147483647) (hr2 : (¬ (xs1 < xs0)) → (-2147483648 : Int) ≤ xl4 + 1 ∧ xl4 + 1 ≤ 2147483647) (k1 : (xs1 < xs0) → rn_WP 185 26 [vl0, vl1, vl2, rn_I xl4, rn_I (xl4 + 1)] [] M Q) (k2 : (¬ (xs1 < xs0)) → rn_WP 185 26 [vl0, vl1, vl2, rn_I xl3, rn_I (xl4 + 1)] [] M Q) : rn_WP 185 58 [vl0, vl1, vl2, rn_I xl3, rn_I xl4] [rn_I xs0, rn_I xs1] M Q := by
  refine (rn_step (e := (.if_icmp .ge 8, 61, 66, 0, 0, 0, 0, [])) rfl).mpr (And.intro (fun c1 => ?_) (fun c1 => ?_))
  ·
    refine (rn_step (e := (.iload 4, 63, 4, 0, 0, 0, 0, [])) rfl).mpr ?_
    refine (rn_step (e := (.goto 4, 66, 67, 0, 0, 0, 0, [])) rfl).mpr ?_
    refine (rn_step (e := (.istore_n 3, 68, 3, 0, 0, 0, 0, [])) rfl).mpr ?_
    refine (rn_step (e := (.iinc 4 1, 71, 4, 0, 0, 0, 0, [])) rfl).mpr (rn_ci (hr1 c1).1 (hr1 c1).2 ?_)
    refine (rn_step (e := (.goto (-45), 74, 26, 0, 0, 0, 0, [])) rfl).mpr ?_
    exact (k1 c1)
  ·
    refine (rn_step (e := (.iload_n 3, 67, 3, 0, 0, 0, 0, [])) rfl).mpr ?_
    refine (rn_step (e := (.istore_n 3, 68, 3, 0, 0, 0, 0, [])) rfl).mpr ?_
    refine (rn_step (e := (.iinc 4 1, 71, 4, 0, 0, 0, 0, [])) rfl).mpr (rn_ci (hr2 c1).1 (hr2 c1).2 ?_)
    refine (rn_step (e := (.goto (-45), 74, 26, 0, 0, 0, 0, [])) rfl).mpr ?_
    exact (k2 c1)
theorem re_Mo_reason {M : rn_M} {Q : rn_Q} {v0 v1 v2 : rn_V} (h : rn_WP 186 0 [v0, v1, v2] [] M Q) : rn_ME 186 [v0, v1, v2] M Q := h
set_option maxRecDepth 4000 in
theorem rb_Mo_reason_0 {M : rn_M} {Q : rn_Q} {xl1 : Int} {xl2 : Int} (hM : rn_sh M)   (hr1 : (0 ≤ rn_gi M 467 0 ∧ rn_gi M 467 0 ≤ 100)) (hr2 : (0 ≤ xl1 ∧ xl1 ≤ rn_gi M 467 0 - 1) → (0 ≤ xl2 ∧ xl2 ≤ 60) → ((0 : Int) ≤ xl1 ∧ (xl1 : Int) ≤ 5) ∧ ((0 : Int) ≤ 1 ∧ (1 : Int) ≤ 77)) (k1 : (¬ (0 ≤ xl1 ∧ xl1 ≤ rn_gi M 467 0 - 1)) → Q (some (rn_I (-1))) M) (k2 : (0 ≤ xl1 ∧ xl1 ≤ rn_gi M 467 0 - 1) → (¬ (0 ≤ xl2 ∧ xl2 ≤ 60)) → Q (some (rn_I (-1))) M) (k3 : (0 ≤ xl1 ∧ xl1 ≤ rn_gi M 467 0 - 1) → (0 ≤ xl2 ∧ xl2 ≤ 60) → rn_ME 158 [rn_R 466, rn_I xl1, rn_I xl2, rn_I (rn_o (rn_gi M 467) xl1 1), rn_I (-9)] M (fun r M1 => rn_WP 186 29 [rn_R 466, rn_I xl1, rn_I xl2] (r.toList ++ []) M1 Q)) : rn_WP 186 0 [rn_R 466, rn_I xl1, rn_I xl2] [] M Q := by
  refine (rn_step (e := (.aload_n 0, 1, 0, 0, 0, 0, 0, [])) rfl).mpr ?_
  refine (rn_step (e := (.iload_n 1, 2, 1, 0, 0, 0, 0, [])) rfl).mpr ?_
  refine (rn_step (e := (.invokevirtual 84, 5, 127, 2, 994, 0, 11, [0])) rfl).mpr (And.intro ((rn_ks466 (M := M) hM)) ((rc_Mo_isRiver hM (hr1) ?_)))
  refine (rn_step (e := (.ifCond .eq 27, 8, 32, 0, 0, 0, 0, [])) rfl).mpr (And.intro (fun q => ?_) (fun q => ?_))
  · have c1 := rn_b0 q
    refine (rn_step (e := (.iconst (-1), 33, 0, 0, 0, 0, 0, [])) rfl).mpr ?_
    exact (rn_step (e := (.ireturn, 34, 0, 0, 0, 0, 0, [])) rfl).mpr (And.intro (trivial) ((k1 c1)))
  · have c1 := rn_b1 q
    refine (rn_step (e := (.iload_n 2, 9, 2, 0, 0, 0, 0, [])) rfl).mpr ?_
    refine (rn_step (e := (.invokestatic 133, 12, 163, 1, 1044, 0, 11, [0])) rfl).mpr (rc_Mo_isStart  ?_)
    refine (rn_step (e := (.ifCond .eq 20, 15, 32, 0, 0, 0, 0, [])) rfl).mpr (And.intro (fun q => ?_) (fun q => ?_))
    · have c2 := rn_b0 q
      refine (rn_step (e := (.iconst (-1), 33, 0, 0, 0, 0, 0, [])) rfl).mpr ?_
      exact (rn_step (e := (.ireturn, 34, 0, 0, 0, 0, 0, [])) rfl).mpr (And.intro (trivial) ((k2 c1 c2)))
    · have c2 := rn_b1 q
      refine (rn_step (e := (.aload_n 0, 16, 0, 0, 0, 0, 0, [])) rfl).mpr ?_
      refine (rn_step (e := (.iload_n 1, 17, 1, 0, 0, 0, 0, [])) rfl).mpr ?_
      refine (rn_step (e := (.iload_n 2, 18, 2, 0, 0, 0, 0, [])) rfl).mpr ?_
      refine (rn_step (e := (.aload_n 0, 19, 0, 0, 0, 0, 0, [])) rfl).mpr ?_
      refine (rn_step (e := (.iload_n 1, 20, 1, 0, 0, 0, 0, [])) rfl).mpr ?_
      refine (rn_step (e := (.iconst 1, 21, 0, 0, 0, 0, 0, [])) rfl).mpr ?_
      refine (rn_step (e := (.invokevirtual 49, 24, 129, 3, 1002, 0, 11, [0])) rfl).mpr (And.intro ((rn_ks466 (M := M) hM)) ((rc_Mo_of hM ((hr2 c1 c2).1) ((hr2 c1 c2).2) ?_)))
      refine (rn_step (e := (.bipush (-9), 26, 0, 0, 0, 0, 0, [])) rfl).mpr ?_
      exact (rn_step (e := (.invokevirtual 126, 29, 158, 5, 1047, 0, 11, [0])) rfl).mpr (And.intro ((rn_ks466 (M := M) hM)) ((k3 c1 c2)))
set_option maxRecDepth 4000 in
theorem rb_Mo_reason_29 {M : rn_M} {Q : rn_Q} {vl0 : rn_V} {vl1 : rn_V} {vl2 : rn_V} {xs0 : Int}   (k1 : Q (some (rn_I xs0)) M) : rn_WP 186 29 [vl0, vl1, vl2] [rn_I xs0] M Q := by
  refine (rn_step (e := (.goto 4, 32, 33, 0, 0, 0, 0, [])) rfl).mpr ?_
  exact (rn_step (e := (.ireturn, 34, 0, 0, 0, 0, 0, [])) rfl).mpr (And.intro (trivial) (k1))
theorem re_Mo_best {M : rn_M} {Q : rn_Q} {v0 v1 v2 : rn_V} (h : rn_WP 187 0 [v0, v1, v2, rn_J] [] M Q) : rn_ME 187 [v0, v1, v2] M Q := h
set_option maxRecDepth 4000 in
theorem rb_Mo_best_0 {M : rn_M} {Q : rn_Q} {xl1 : Int} {xl2 : Int} {vl3 : rn_V} (hM : rn_sh M)   (hr1 : (0 ≤ rn_gi M 467 0 ∧ rn_gi M 467 0 ≤ 100)) (k1 : (¬ (0 ≤ xl1 ∧ xl1 ≤ rn_gi M 467 0 - 1)) → Q (some (rn_I (-1))) M) (k2 : (0 ≤ xl1 ∧ xl1 ≤ rn_gi M 467 0 - 1) → (¬ (0 ≤ xl2 ∧ xl2 ≤ 1)) → Q (some (rn_I (-1))) M) (k3 : (0 ≤ xl1 ∧ xl1 ≤ rn_gi M 467 0 - 1) → (0 ≤ xl2 ∧ xl2 ≤ 1) → rn_ME 160 [rn_R 466, rn_I xl1] M (fun r M1 => rn_WP 187 24 [rn_R 466, rn_I xl1, rn_I xl2, vl3] (r.toList ++ []) M1 Q)) : rn_WP 187 0 [rn_R 466, rn_I xl1, rn_I xl2, vl3] [] M Q := by
  refine (rn_step (e := (.aload_n 0, 1, 0, 0, 0, 0, 0, [])) rfl).mpr ?_
  refine (rn_step (e := (.iload_n 1, 2, 1, 0, 0, 0, 0, [])) rfl).mpr ?_
  refine (rn_step (e := (.invokevirtual 84, 5, 127, 2, 994, 0, 11, [0])) rfl).mpr (And.intro ((rn_ks466 (M := M) hM)) ((rc_Mo_isRiver hM (hr1) ?_)))
  refine (rn_step (e := (.ifCond .eq 12, 8, 17, 0, 0, 0, 0, [])) rfl).mpr (And.intro (fun q => ?_) (fun q => ?_))
  · have c1 := rn_b0 q
    refine (rn_step (e := (.iconst (-1), 18, 0, 0, 0, 0, 0, [])) rfl).mpr ?_
    exact (rn_step (e := (.ireturn, 19, 0, 0, 0, 0, 0, [])) rfl).mpr (And.intro (trivial) ((k1 c1)))
  · have c1 := rn_b1 q
    refine (rn_step (e := (.iload_n 2, 9, 2, 0, 0, 0, 0, [])) rfl).mpr ?_
    refine (rn_step (e := (.iconst 0, 10, 0, 0, 0, 0, 0, [])) rfl).mpr ?_
    refine (rn_step (e := (.iconst 1, 11, 0, 0, 0, 0, 0, [])) rfl).mpr ?_
    refine (rn_step (e := (.invokestatic 41, 14, 124, 3, 956, 0, 11, [0])) rfl).mpr (rc_Mo_in  ?_)
    refine (rn_step (e := (.ifCond .ne 5, 17, 19, 0, 0, 0, 0, [])) rfl).mpr (And.intro (fun q => ?_) (fun q => ?_))
    · have c2 := rn_b0 q
      refine (rn_step (e := (.iconst (-1), 18, 0, 0, 0, 0, 0, [])) rfl).mpr ?_
      exact (rn_step (e := (.ireturn, 19, 0, 0, 0, 0, 0, [])) rfl).mpr (And.intro (trivial) ((k2 c1 c2)))
    · have c2 := rn_b1 q
      refine (rn_step (e := (.aload_n 0, 20, 0, 0, 0, 0, 0, [])) rfl).mpr ?_
      refine (rn_step (e := (.iload_n 1, 21, 1, 0, 0, 0, 0, [])) rfl).mpr ?_
      exact (rn_step (e := (.invokevirtual 145, 24, 160, 2, 1091, 0, 11, [0])) rfl).mpr (And.intro ((rn_ks466 (M := M) hM)) ((k3 c1 c2)))
set_option maxRecDepth 4000 in
theorem rb_Mo_best_24 {M : rn_M} {Q : rn_Q} {xl1 : Int} {xl2 : Int} {vl3 : rn_V} {xs0 : Int} (hM : rn_sh M)   (k1 : (xs0 = (-9)) → Q (some (rn_I xs0)) M) (k2 : (¬ (xs0 = (-9))) → (xl2 = 0) → Q (some (rn_I xs0)) M) (k3 : (¬ (xs0 = (-9))) → (¬ (xl2 = 0)) → rn_ME 152 [rn_R 466, rn_I xl1, rn_I xs0] M (fun r M1 => rn_WP 187 45 [rn_R 466, rn_I xl1, rn_I xl2, rn_I xs0] (r.toList ++ []) M1 Q)) : rn_WP 187 24 [rn_R 466, rn_I xl1, rn_I xl2, vl3] [rn_I xs0] M Q := by
  refine (rn_step (e := (.istore_n 3, 25, 3, 0, 0, 0, 0, [])) rfl).mpr ?_
  refine (rn_step (e := (.iload_n 3, 26, 3, 0, 0, 0, 0, [])) rfl).mpr ?_
  refine (rn_step (e := (.bipush (-9), 28, 0, 0, 0, 0, 0, [])) rfl).mpr ?_
  refine (rn_step (e := (.if_icmp .eq 7, 31, 35, 0, 0, 0, 0, [])) rfl).mpr (And.intro (fun c1 => ?_) (fun c1 => ?_))
  ·
    refine (rn_step (e := (.iload_n 3, 36, 3, 0, 0, 0, 0, [])) rfl).mpr ?_
    refine (rn_step (e := (.goto 9, 39, 45, 0, 0, 0, 0, [])) rfl).mpr ?_
    exact (rn_step (e := (.ireturn, 46, 0, 0, 0, 0, 0, [])) rfl).mpr (And.intro (trivial) ((k1 c1)))
  ·
    refine (rn_step (e := (.iload_n 2, 32, 2, 0, 0, 0, 0, [])) rfl).mpr ?_
    refine (rn_step (e := (.ifCond .ne 7, 35, 39, 0, 0, 0, 0, [])) rfl).mpr (And.intro (fun c2 => ?_) (fun c2 => ?_))
    ·
      refine (rn_step (e := (.iload_n 3, 36, 3, 0, 0, 0, 0, [])) rfl).mpr ?_
      refine (rn_step (e := (.goto 9, 39, 45, 0, 0, 0, 0, [])) rfl).mpr ?_
      exact (rn_step (e := (.ireturn, 46, 0, 0, 0, 0, 0, [])) rfl).mpr (And.intro (trivial) ((k2 c1 c2)))
    ·
      refine (rn_step (e := (.aload_n 0, 40, 0, 0, 0, 0, 0, [])) rfl).mpr ?_
      refine (rn_step (e := (.iload_n 1, 41, 1, 0, 0, 0, 0, [])) rfl).mpr ?_
      refine (rn_step (e := (.iload_n 3, 42, 3, 0, 0, 0, 0, [])) rfl).mpr ?_
      exact (rn_step (e := (.invokevirtual 130, 45, 152, 3, 1095, 0, 11, [0])) rfl).mpr (And.intro ((rn_ks466 (M := M) hM)) ((k3 c1 c2)))
set_option maxRecDepth 4000 in
theorem rb_Mo_best_45 {M : rn_M} {Q : rn_Q} {vl0 : rn_V} {vl1 : rn_V} {vl2 : rn_V} {vl3 : rn_V} {xs0 : Int}   (k1 : Q (some (rn_I xs0)) M) : rn_WP 187 45 [vl0, vl1, vl2, vl3] [rn_I xs0] M Q := by
  exact (rn_step (e := (.ireturn, 46, 0, 0, 0, 0, 0, [])) rfl).mpr (And.intro (trivial) (k1))
theorem re_Mo_rankFor {M : rn_M} {Q : rn_Q} {v0 v1 : rn_V} (h : rn_WP 188 0 [v0, v1, rn_J, rn_J] [] M Q) : rn_ME 188 [v0, v1] M Q := h
set_option maxRecDepth 4000 in
theorem rb_Mo_rankFor_0 {M : rn_M} {Q : rn_Q} {xl1 : Int} {vl2 : rn_V} {vl3 : rn_V} (hM : rn_sh M)   (hr1 : (0 ≤ rn_gi M 467 0 ∧ rn_gi M 467 0 ≤ 100)) (k1 : (¬ (0 ≤ xl1 ∧ xl1 ≤ rn_gi M 467 0 - 1)) → Q (some (rn_I (-1))) M) (k2 : (0 ≤ xl1 ∧ xl1 ≤ rn_gi M 467 0 - 1) → rn_WP 188 12 [rn_R 466, rn_I xl1, rn_I 1, vl3] [] M Q) : rn_WP 188 0 [rn_R 466, rn_I xl1, vl2, vl3] [] M Q := by
  refine (rn_step (e := (.aload_n 0, 1, 0, 0, 0, 0, 0, [])) rfl).mpr ?_
  refine (rn_step (e := (.iload_n 1, 2, 1, 0, 0, 0, 0, [])) rfl).mpr ?_
  refine (rn_step (e := (.invokevirtual 84, 5, 127, 2, 994, 0, 11, [0])) rfl).mpr (And.intro ((rn_ks466 (M := M) hM)) ((rc_Mo_isRiver hM (hr1) ?_)))
  refine (rn_step (e := (.ifCond .ne 5, 8, 10, 0, 0, 0, 0, [])) rfl).mpr (And.intro (fun q => ?_) (fun q => ?_))
  · have c1 := rn_b0 q
    refine (rn_step (e := (.iconst (-1), 9, 0, 0, 0, 0, 0, [])) rfl).mpr ?_
    exact (rn_step (e := (.ireturn, 10, 0, 0, 0, 0, 0, [])) rfl).mpr (And.intro (trivial) ((k1 c1)))
  · have c1 := rn_b1 q
    refine (rn_step (e := (.iconst 1, 11, 0, 0, 0, 0, 0, [])) rfl).mpr ?_
    refine (rn_step (e := (.istore_n 2, 12, 2, 0, 0, 0, 0, [])) rfl).mpr ?_
    exact (k2 c1)
set_option maxRecDepth 4000 in
theorem rb_Mo_rankFor_12 {M : rn_M} {Q : rn_Q} {vl0 : rn_V} {vl1 : rn_V} {xl2 : Int} {vl3 : rn_V}   (k1 : (9 < xl2) → Q (some (rn_I (-9))) M) (k2 : (¬ (9 < xl2)) → rn_WP 188 20 [vl0, vl1, rn_I xl2, rn_I 0] [] M Q) : rn_WP 188 12 [vl0, vl1, rn_I xl2, vl3] [] M Q := by
  refine (rn_step (e := (.iload_n 2, 13, 2, 0, 0, 0, 0, [])) rfl).mpr ?_
  refine (rn_step (e := (.bipush 9, 15, 0, 0, 0, 0, 0, [])) rfl).mpr ?_
  refine (rn_step (e := (.if_icmp .gt 41, 18, 56, 0, 0, 0, 0, [])) rfl).mpr (And.intro (fun c1 => ?_) (fun c1 => ?_))
  ·
    refine (rn_step (e := (.bipush (-9), 58, 0, 0, 0, 0, 0, [])) rfl).mpr ?_
    exact (rn_step (e := (.ireturn, 59, 0, 0, 0, 0, 0, [])) rfl).mpr (And.intro (trivial) ((k1 c1)))
  ·
    refine (rn_step (e := (.iconst 0, 19, 0, 0, 0, 0, 0, [])) rfl).mpr ?_
    refine (rn_step (e := (.istore_n 3, 20, 3, 0, 0, 0, 0, [])) rfl).mpr ?_
    exact (k2 c1)
set_option maxRecDepth 4000 in
theorem rb_Mo_rankFor_20 {M : rn_M} {Q : rn_Q} {xl1 : Int} {xl2 : Int} {xl3 : Int} (hM : rn_sh M)   (hr1 : ((0 : Int) ≤ xl1 ∧ (xl1 : Int) ≤ 5) ∧ ((0 : Int) ≤ 5 ∧ (5 : Int) ≤ 77)) (hr2 : (rn_o (rn_gi M 467) xl1 5 < xl3) → (-2147483648 : Int) ≤ xl2 + 1 ∧ xl2 + 1 ≤ 2147483647) (k1 : (rn_o (rn_gi M 467) xl1 5 < xl3) → rn_WP 188 12 [rn_R 466, rn_I xl1, rn_I (xl2 + 1), rn_I xl3] [] M Q) (k2 : (¬ (rn_o (rn_gi M 467) xl1 5 < xl3)) → rn_ME 158 [rn_R 466, rn_I xl1, rn_I xl3, rn_I xl2, rn_I (-9)] M (fun r M1 => rn_WP 188 39 [rn_R 466, rn_I xl1, rn_I xl2, rn_I xl3] (r.toList ++ []) M1 Q)) : rn_WP 188 20 [rn_R 466, rn_I xl1, rn_I xl2, rn_I xl3] [] M Q := by
  refine (rn_step (e := (.iload_n 3, 21, 3, 0, 0, 0, 0, [])) rfl).mpr ?_
  refine (rn_step (e := (.aload_n 0, 22, 0, 0, 0, 0, 0, [])) rfl).mpr ?_
  refine (rn_step (e := (.iload_n 1, 23, 1, 0, 0, 0, 0, [])) rfl).mpr ?_
  refine (rn_step (e := (.iconst 5, 24, 0, 0, 0, 0, 0, [])) rfl).mpr ?_
  refine (rn_step (e := (.invokevirtual 49, 27, 129, 3, 1002, 0, 11, [0])) rfl).mpr (And.intro ((rn_ks466 (M := M) hM)) ((rc_Mo_of hM (hr1.1) (hr1.2) ?_)))
  refine (rn_step (e := (.if_icmp .gt 23, 30, 50, 0, 0, 0, 0, [])) rfl).mpr (And.intro (fun c1 => ?_) (fun c1 => ?_))
  ·
    refine (rn_step (e := (.iinc 2 1, 53, 2, 0, 0, 0, 0, [])) rfl).mpr (rn_ci (hr2 c1).1 (hr2 c1).2 ?_)
    refine (rn_step (e := (.goto (-41), 56, 12, 0, 0, 0, 0, [])) rfl).mpr ?_
    exact (k1 c1)
  ·
    refine (rn_step (e := (.aload_n 0, 31, 0, 0, 0, 0, 0, [])) rfl).mpr ?_
    refine (rn_step (e := (.iload_n 1, 32, 1, 0, 0, 0, 0, [])) rfl).mpr ?_
    refine (rn_step (e := (.iload_n 3, 33, 3, 0, 0, 0, 0, [])) rfl).mpr ?_
    refine (rn_step (e := (.iload_n 2, 34, 2, 0, 0, 0, 0, [])) rfl).mpr ?_
    refine (rn_step (e := (.bipush (-9), 36, 0, 0, 0, 0, 0, [])) rfl).mpr ?_
    exact (rn_step (e := (.invokevirtual 126, 39, 158, 5, 1047, 0, 11, [0])) rfl).mpr (And.intro ((rn_ks466 (M := M) hM)) ((k2 c1)))
set_option maxRecDepth 4000 in
theorem rb_Mo_rankFor_39 {M : rn_M} {Q : rn_Q} {vl0 : rn_V} {vl1 : rn_V} {xl2 : Int} {xl3 : Int} {xs0 : Int}   (hr1 : (¬ (xs0 = 0)) → (-2147483648 : Int) ≤ xl3 + 1 ∧ xl3 + 1 ≤ 2147483647) (k1 : (xs0 = 0) → Q (some (rn_I xl2)) M) (k2 : (¬ (xs0 = 0)) → rn_WP 188 20 [vl0, vl1, rn_I xl2, rn_I (xl3 + 1)] [] M Q) : rn_WP 188 39 [vl0, vl1, rn_I xl2, rn_I xl3] [rn_I xs0] M Q := by
  refine (rn_step (e := (.ifCond .ne 5, 42, 44, 0, 0, 0, 0, [])) rfl).mpr (And.intro (fun c1 => ?_) (fun c1 => ?_))
  ·
    refine (rn_step (e := (.iload_n 2, 43, 2, 0, 0, 0, 0, [])) rfl).mpr ?_
    exact (rn_step (e := (.ireturn, 44, 0, 0, 0, 0, 0, [])) rfl).mpr (And.intro (trivial) ((k1 c1)))
  ·
    refine (rn_step (e := (.iinc 3 1, 47, 3, 0, 0, 0, 0, [])) rfl).mpr (rn_ci (hr1 c1).1 (hr1 c1).2 ?_)
    refine (rn_step (e := (.goto (-27), 50, 20, 0, 0, 0, 0, [])) rfl).mpr ?_
    exact (k2 c1)
theorem re_Mo_append {M : rn_M} {Q : rn_Q} {v0 v1 : rn_V} (h : rn_WP 189 0 [v0, v1] [] M Q) : rn_ME 189 [v0, v1] M Q := h
set_option maxRecDepth 4000 in
theorem rb_Mo_append_0 {M : rn_M} {Q : rn_Q} {xl1 : Int} (hM : rn_sh M)   (hr1 : (1 ≤ xl1 ∧ xl1 ≤ 255) → (¬ (rn_gi M 466 4 = 150)) → (0 : Int) ≤ rn_gi M 466 4 ∧ rn_gi M 466 4 < (150 : Int) ∧ (-2147483648 : Int) ≤ rn_gi M 466 4 + 1 ∧ rn_gi M 466 4 + 1 ≤ 2147483647) (k1 : (¬ (1 ≤ xl1 ∧ xl1 ≤ 255)) → Q (some (rn_I (-1))) M) (k2 : (1 ≤ xl1 ∧ xl1 ≤ 255) → (rn_gi M 466 4 = 150) → Q (some (rn_I (-3))) M) (k3 : (1 ≤ xl1 ∧ xl1 ≤ 255) → (¬ (rn_gi M 466 4 = 150)) → Q (some (rn_I (rn_gi M 466 4 + 1))) (rn_si (rn_si M 469 (rn_gi M 466 4).toNat xl1) 466 4 (rn_gi M 466 4 + 1))) : rn_WP 189 0 [rn_R 466, rn_I xl1] [] M Q := by
  refine (rn_step (e := (.iload_n 1, 1, 1, 0, 0, 0, 0, [])) rfl).mpr ?_
  refine (rn_step (e := (.iconst 1, 2, 0, 0, 0, 0, 0, [])) rfl).mpr ?_
  refine (rn_step (e := (.sipush 255, 5, 0, 0, 0, 0, 0, [])) rfl).mpr ?_
  refine (rn_step (e := (.invokestatic 41, 8, 124, 3, 956, 0, 11, [0])) rfl).mpr (rc_Mo_in  ?_)
  refine (rn_step (e := (.ifCond .ne 5, 11, 13, 0, 0, 0, 0, [])) rfl).mpr (And.intro (fun q => ?_) (fun q => ?_))
  · have c1 := rn_b0 q
    refine (rn_step (e := (.iconst (-1), 12, 0, 0, 0, 0, 0, [])) rfl).mpr ?_
    exact (rn_step (e := (.ireturn, 13, 0, 0, 0, 0, 0, [])) rfl).mpr (And.intro (trivial) ((k1 c1)))
  · have c1 := rn_b1 q
    refine (rn_step (e := (.aload_n 0, 14, 0, 0, 0, 0, 0, [])) rfl).mpr ?_
    refine (rn_step (e := (.getfield 167, 17, 10, 4, 906, 0, 11, [])) rfl).mpr (And.intro ((rn_ks466 (M := M) hM)) (?_))
    refine (rn_step (e := (.sipush 150, 20, 0, 0, 0, 0, 0, [])) rfl).mpr ?_
    refine (rn_step (e := (.if_icmp .ne 6, 23, 26, 0, 0, 0, 0, [])) rfl).mpr (And.intro (fun c2 => ?_) (fun c2 => ?_))
    ·
      refine (rn_step (e := (.bipush (-3), 25, 0, 0, 0, 0, 0, [])) rfl).mpr ?_
      exact (rn_step (e := (.ireturn, 26, 0, 0, 0, 0, 0, [])) rfl).mpr (And.intro (trivial) ((k2 c1 c2)))
    ·
      refine (rn_step (e := (.aload_n 0, 27, 0, 0, 0, 0, 0, [])) rfl).mpr ?_
      refine (rn_step (e := (.getfield 16, 30, 10, 3, 905, 2, 11, [])) rfl).mpr (And.intro ((rn_ks466 (M := M) hM)) (rn_cg (rn_g466_3 (M := M) hM) ?_))
      refine (rn_step (e := (.aload_n 0, 31, 0, 0, 0, 0, 0, [])) rfl).mpr ?_
      refine (rn_step (e := (.getfield 167, 34, 10, 4, 906, 0, 11, [])) rfl).mpr (And.intro ((rn_ks466 (M := M) hM)) (?_))
      refine (rn_step (e := (.iload_n 1, 35, 1, 0, 0, 0, 0, [])) rfl).mpr ?_
      refine (rn_step (e := (.iastore, 36, 0, 0, 0, 0, 0, [])) rfl).mpr (And.intro ((rn_w469 (M := M) hM).1) (And.intro ((And.intro ((hr1 c1 c2).1) (rn_lt (rn_w469 (M := M) hM).2 (hr1 c1 c2).2.1))) (?_)))
      refine (rn_step (e := (.aload_n 0, 37, 0, 0, 0, 0, 0, [])) rfl).mpr ?_
      refine (rn_step (e := (.dup, 38, 0, 0, 0, 0, 0, [])) rfl).mpr ?_
      refine (rn_step (e := (.getfield 167, 41, 10, 4, 906, 0, 11, [])) rfl).mpr (And.intro ((rn_ks466 (M := M) hM)) (rn_cv (by rw [rn_si_gif (a := 469) (b := 466) (by decide)]) ?_))
      refine (rn_step (e := (.iconst 1, 42, 0, 0, 0, 0, 0, [])) rfl).mpr ?_
      refine (rn_step (e := (.iadd, 43, 0, 0, 0, 0, 0, [])) rfl).mpr (rn_cw (hr1 c1 c2).2.2.1 (hr1 c1 c2).2.2.2 ?_)
      refine (rn_step (e := (.putfield 167, 46, 10, 4, 906, 0, 11, [])) rfl).mpr (And.intro ((rn_ks466 (M := M) hM)) (?_))
      refine (rn_step (e := (.aload_n 0, 47, 0, 0, 0, 0, 0, [])) rfl).mpr ?_
      refine (rn_step (e := (.getfield 167, 50, 10, 4, 906, 0, 11, [])) rfl).mpr (And.intro ((rn_ks466 (M := M) hM)) (rn_cv (by rw [rn_si_eq]) ?_))
      exact (rn_step (e := (.ireturn, 51, 0, 0, 0, 0, 0, [])) rfl).mpr (And.intro (trivial) ((k3 c1 c2)))
theorem re_Mo_clearText {M : rn_M} {Q : rn_Q} {v0 : rn_V} (h : rn_WP 190 0 [v0, rn_J] [] M Q) : rn_ME 190 [v0] M Q := h
set_option maxRecDepth 4000 in
theorem rb_Mo_clearText_0 {M : rn_M} {Q : rn_Q} {vl1 : rn_V} (hM : rn_sh M)   (k1 : Q (some (rn_I (rn_gi M 466 4))) (rn_si M 466 4 0)) : rn_WP 190 0 [rn_R 466, vl1] [] M Q := by
  refine (rn_step (e := (.aload_n 0, 1, 0, 0, 0, 0, 0, [])) rfl).mpr ?_
  refine (rn_step (e := (.getfield 167, 4, 10, 4, 906, 0, 11, [])) rfl).mpr (And.intro ((rn_ks466 (M := M) hM)) (?_))
  refine (rn_step (e := (.istore_n 1, 5, 1, 0, 0, 0, 0, [])) rfl).mpr ?_
  refine (rn_step (e := (.aload_n 0, 6, 0, 0, 0, 0, 0, [])) rfl).mpr ?_
  refine (rn_step (e := (.iconst 0, 7, 0, 0, 0, 0, 0, [])) rfl).mpr ?_
  refine (rn_step (e := (.putfield 167, 10, 10, 4, 906, 0, 11, [])) rfl).mpr (And.intro ((rn_ks466 (M := M) hM)) (?_))
  refine (rn_step (e := (.iload_n 1, 11, 1, 0, 0, 0, 0, [])) rfl).mpr ?_
  exact (rn_step (e := (.ireturn, 12, 0, 0, 0, 0, 0, [])) rfl).mpr (And.intro (trivial) (k1))
theorem re_Mo_nextToken {M : rn_M} {Q : rn_Q} {v0 : rn_V} (h : rn_WP 192 0 [v0] [] M Q) : rn_ME 192 [v0] M Q := h
set_option maxRecDepth 4000 in
theorem rb_Mo_nextToken_0 {M : rn_M} {Q : rn_Q}  (hM : rn_sh M)   (k1 : rn_WP 192 8 [rn_R 466] [] (rn_si M 466 9 (rn_gi M 466 10)) Q) : rn_WP 192 0 [rn_R 466] [] M Q := by
  refine (rn_step (e := (.aload_n 0, 1, 0, 0, 0, 0, 0, [])) rfl).mpr ?_
  refine (rn_step (e := (.aload_n 0, 2, 0, 0, 0, 0, 0, [])) rfl).mpr ?_
  refine (rn_step (e := (.getfield 182, 5, 10, 10, 912, 0, 11, [])) rfl).mpr (And.intro ((rn_ks466 (M := M) hM)) (?_))
  refine (rn_step (e := (.putfield 185, 8, 10, 9, 911, 0, 11, [])) rfl).mpr (And.intro ((rn_ks466 (M := M) hM)) (?_))
  exact k1
set_option maxRecDepth 4000 in
theorem rb_Mo_nextToken_8 {M : rn_M} {Q : rn_Q}  (hM : rn_sh M)   (hr1 : (0 : Int) ≤ rn_gi M 466 9 ∧ rn_gi M 466 4 ≤ 150) (hr2 : (¬ (rn_gi M 466 9 < rn_gi M 466 4 ∧ 32 ≤ rn_gi M 469 (rn_gi M 466 9).toNat ∧ rn_gi M 469 (rn_gi M 466 9).toNat ≤ 32)) → (0 : Int) ≤ rn_gi M 466 9 ∧ rn_gi (rn_si M 466 10 (rn_gi M 466 9)) 466 4 ≤ 150) (hr3 : (¬ (rn_gi M 466 9 < rn_gi M 466 4 ∧ 32 ≤ rn_gi M 469 (rn_gi M 466 9).toNat ∧ rn_gi M 469 (rn_gi M 466 9).toNat ≤ 32)) → (¬ (rn_gi M 466 9 < rn_gi (rn_si M 466 10 (rn_gi M 466 9)) 466 4 ∧ 97 ≤ rn_gi M 469 (rn_gi M 466 9).toNat ∧ rn_gi M 469 (rn_gi M 466 9).toNat ≤ 122)) → (0 : Int) ≤ rn_gi M 466 9 ∧ rn_gi (rn_si M 466 10 (rn_gi M 466 9)) 466 4 ≤ 150) (hr4 : (¬ (rn_gi M 466 9 < rn_gi M 466 4 ∧ 32 ≤ rn_gi M 469 (rn_gi M 466 9).toNat ∧ rn_gi M 469 (rn_gi M 466 9).toNat ≤ 32)) → (¬ (rn_gi M 466 9 < rn_gi (rn_si M 466 10 (rn_gi M 466 9)) 466 4 ∧ 97 ≤ rn_gi M 469 (rn_gi M 466 9).toNat ∧ rn_gi M 469 (rn_gi M 466 9).toNat ≤ 122)) → (¬ (rn_gi M 466 9 < rn_gi (rn_si M 466 10 (rn_gi M 466 9)) 466 4 ∧ 48 ≤ rn_gi M 469 (rn_gi M 466 9).toNat ∧ rn_gi M 469 (rn_gi M 466 9).toNat ≤ 57)) → (rn_gi M 466 9 < rn_gi M 466 4) → (-2147483648 : Int) ≤ rn_gi M 466 9 + 1 ∧ rn_gi M 466 9 + 1 ≤ 2147483647) (hr5 : (rn_gi M 466 9 < rn_gi M 466 4 ∧ 32 ≤ rn_gi M 469 (rn_gi M 466 9).toNat ∧ rn_gi M 469 (rn_gi M 466 9).toNat ≤ 32) → (-2147483648 : Int) ≤ rn_gi M 466 9 + 1 ∧ rn_gi M 466 9 + 1 ≤ 2147483647) (k1 : (¬ (rn_gi M 466 9 < rn_gi M 466 4 ∧ 32 ≤ rn_gi M 469 (rn_gi M 466 9).toNat ∧ rn_gi M 469 (rn_gi M 466 9).toNat ≤ 32)) → (¬ (rn_gi M 466 9 < rn_gi (rn_si M 466 10 (rn_gi M 466 9)) 466 4 ∧ 97 ≤ rn_gi M 469 (rn_gi M 466 9).toNat ∧ rn_gi M 469 (rn_gi M 466 9).toNat ≤ 122)) → (¬ (rn_gi M 466 9 < rn_gi (rn_si M 466 10 (rn_gi M 466 9)) 466 4 ∧ 48 ≤ rn_gi M 469 (rn_gi M 466 9).toNat ∧ rn_gi M 469 (rn_gi M 466 9).toNat ≤ 57)) → (rn_gi M 466 9 < rn_gi M 466 4) → Q none (rn_si (rn_si M 466 10 (rn_gi M 466 9)) 466 10 (rn_gi M 466 9 + 1))) (k2 : (¬ (rn_gi M 466 9 < rn_gi M 466 4 ∧ 32 ≤ rn_gi M 469 (rn_gi M 466 9).toNat ∧ rn_gi M 469 (rn_gi M 466 9).toNat ≤ 32)) → (¬ (rn_gi M 466 9 < rn_gi (rn_si M 466 10 (rn_gi M 466 9)) 466 4 ∧ 97 ≤ rn_gi M 469 (rn_gi M 466 9).toNat ∧ rn_gi M 469 (rn_gi M 466 9).toNat ≤ 122)) → (¬ (rn_gi M 466 9 < rn_gi (rn_si M 466 10 (rn_gi M 466 9)) 466 4 ∧ 48 ≤ rn_gi M 469 (rn_gi M 466 9).toNat ∧ rn_gi M 469 (rn_gi M 466 9).toNat ≤ 57)) → (¬ (rn_gi M 466 9 < rn_gi M 466 4)) → Q none (rn_si M 466 10 (rn_gi M 466 9))) (k3 : (¬ (rn_gi M 466 9 < rn_gi M 466 4 ∧ 32 ≤ rn_gi M 469 (rn_gi M 466 9).toNat ∧ rn_gi M 469 (rn_gi M 466 9).toNat ≤ 32)) → (¬ (rn_gi M 466 9 < rn_gi (rn_si M 466 10 (rn_gi M 466 9)) 466 4 ∧ 97 ≤ rn_gi M 469 (rn_gi M 466 9).toNat ∧ rn_gi M 469 (rn_gi M 466 9).toNat ≤ 122)) → (rn_gi M 466 9 < rn_gi (rn_si M 466 10 (rn_gi M 466 9)) 466 4 ∧ 48 ≤ rn_gi M 469 (rn_gi M 466 9).toNat ∧ rn_gi M 469 (rn_gi M 466 9).toNat ≤ 57) → rn_WP 192 102 [rn_R 466] [] (rn_si M 466 10 (rn_gi M 466 9)) Q) (k4 : (¬ (rn_gi M 466 9 < rn_gi M 466 4 ∧ 32 ≤ rn_gi M 469 (rn_gi M 466 9).toNat ∧ rn_gi M 469 (rn_gi M 466 9).toNat ≤ 32)) → (rn_gi M 466 9 < rn_gi (rn_si M 466 10 (rn_gi M 466 9)) 466 4 ∧ 97 ≤ rn_gi M 469 (rn_gi M 466 9).toNat ∧ rn_gi M 469 (rn_gi M 466 9).toNat ≤ 122) → rn_WP 192 59 [rn_R 466] [] (rn_si M 466 10 (rn_gi M 466 9)) Q) (k5 : (rn_gi M 466 9 < rn_gi M 466 4 ∧ 32 ≤ rn_gi M 469 (rn_gi M 466 9).toNat ∧ rn_gi M 469 (rn_gi M 466 9).toNat ≤ 32) → rn_WP 192 8 [rn_R 466] [] (rn_si M 466 9 (rn_gi M 466 9 + 1)) Q) : rn_WP 192 8 [rn_R 466] [] M Q := by
  refine (rn_step (e := (.aload_n 0, 9, 0, 0, 0, 0, 0, [])) rfl).mpr ?_
  refine (rn_step (e := (.aload_n 0, 10, 0, 0, 0, 0, 0, [])) rfl).mpr ?_
  refine (rn_step (e := (.getfield 185, 13, 10, 9, 911, 0, 11, [])) rfl).mpr (And.intro ((rn_ks466 (M := M) hM)) (?_))
  refine (rn_step (e := (.bipush 32, 15, 0, 0, 0, 0, 0, [])) rfl).mpr ?_
  refine (rn_step (e := (.bipush 32, 17, 0, 0, 0, 0, 0, [])) rfl).mpr ?_
  refine (rn_step (e := (.invokevirtual 188, 20, 191, 4, 1218, 0, 11, [0])) rfl).mpr (And.intro ((rn_ks466 (M := M) hM)) ((rc_Mo_isSort hM (hr1.1) (hr1.2) ?_)))
  refine (rn_step (e := (.ifCond .eq 16, 23, 36, 0, 0, 0, 0, [])) rfl).mpr (And.intro (fun q => ?_) (fun q => ?_))
  · have c1 := rn_b0 q
    refine (rn_step (e := (.aload_n 0, 37, 0, 0, 0, 0, 0, [])) rfl).mpr ?_
    refine (rn_step (e := (.aload_n 0, 38, 0, 0, 0, 0, 0, [])) rfl).mpr ?_
    refine (rn_step (e := (.getfield 185, 41, 10, 9, 911, 0, 11, [])) rfl).mpr (And.intro ((rn_ks466 (M := M) hM)) (?_))
    refine (rn_step (e := (.putfield 182, 44, 10, 10, 912, 0, 11, [])) rfl).mpr (And.intro ((rn_ks466 (M := M) hM)) (?_))
    refine (rn_step (e := (.aload_n 0, 45, 0, 0, 0, 0, 0, [])) rfl).mpr ?_
    refine (rn_step (e := (.aload_n 0, 46, 0, 0, 0, 0, 0, [])) rfl).mpr ?_
    refine (rn_step (e := (.getfield 185, 49, 10, 9, 911, 0, 11, [])) rfl).mpr (And.intro ((rn_ks466 (M := M) hM)) (rn_cv (by rw [rn_si_ne (by omega)]) ?_))
    refine (rn_step (e := (.bipush 97, 51, 0, 0, 0, 0, 0, [])) rfl).mpr ?_
    refine (rn_step (e := (.bipush 122, 53, 0, 0, 0, 0, 0, [])) rfl).mpr ?_
    refine (rn_step (e := (.invokevirtual 188, 56, 191, 4, 1218, 0, 11, [0])) rfl).mpr (And.intro ((rn_ks466 (M := M) hM)) ((rc_Mo_isSort (M := (rn_si M 466 10 (rn_gi M 466 9))) hM ((hr2 c1).1) ((hr2 c1).2) (rn_cv (by rw [rn_si_gif (a := 466) (b := 469) (by decide)]) ?_))))
    refine (rn_step (e := (.ifCond .eq 31, 59, 87, 0, 0, 0, 0, [])) rfl).mpr (And.intro (fun q => ?_) (fun q => ?_))
    · have c2 := rn_b0 q
      refine (rn_step (e := (.aload_n 0, 88, 0, 0, 0, 0, 0, [])) rfl).mpr ?_
      refine (rn_step (e := (.aload_n 0, 89, 0, 0, 0, 0, 0, [])) rfl).mpr ?_
      refine (rn_step (e := (.getfield 185, 92, 10, 9, 911, 0, 11, [])) rfl).mpr (And.intro ((rn_ks466 (M := M) hM)) (rn_cv (by rw [rn_si_ne (by omega)]) ?_))
      refine (rn_step (e := (.bipush 48, 94, 0, 0, 0, 0, 0, [])) rfl).mpr ?_
      refine (rn_step (e := (.bipush 57, 96, 0, 0, 0, 0, 0, [])) rfl).mpr ?_
      refine (rn_step (e := (.invokevirtual 188, 99, 191, 4, 1218, 0, 11, [0])) rfl).mpr (And.intro ((rn_ks466 (M := M) hM)) ((rc_Mo_isSort (M := (rn_si M 466 10 (rn_gi M 466 9))) hM ((hr3 c1 c2).1) ((hr3 c1 c2).2) (rn_cv (by rw [rn_si_gif (a := 466) (b := 469) (by decide)]) ?_))))
      refine (rn_step (e := (.ifCond .eq 31, 102, 130, 0, 0, 0, 0, [])) rfl).mpr (And.intro (fun q => ?_) (fun q => ?_))
      · have c3 := rn_b0 q
        refine (rn_step (e := (.aload_n 0, 131, 0, 0, 0, 0, 0, [])) rfl).mpr ?_
        refine (rn_step (e := (.getfield 185, 134, 10, 9, 911, 0, 11, [])) rfl).mpr (And.intro ((rn_ks466 (M := M) hM)) (rn_cv (by rw [rn_si_ne (by omega)]) ?_))
        refine (rn_step (e := (.aload_n 0, 135, 0, 0, 0, 0, 0, [])) rfl).mpr ?_
        refine (rn_step (e := (.getfield 167, 138, 10, 4, 906, 0, 11, [])) rfl).mpr (And.intro ((rn_ks466 (M := M) hM)) (rn_cv (by rw [rn_si_ne (by omega)]) ?_))
        refine (rn_step (e := (.if_icmp .ge 13, 141, 151, 0, 0, 0, 0, [])) rfl).mpr (And.intro (fun c4 => ?_) (fun c4 => ?_))
        ·
          refine (rn_step (e := (.aload_n 0, 142, 0, 0, 0, 0, 0, [])) rfl).mpr ?_
          refine (rn_step (e := (.dup, 143, 0, 0, 0, 0, 0, [])) rfl).mpr ?_
          refine (rn_step (e := (.getfield 182, 146, 10, 10, 912, 0, 11, [])) rfl).mpr (And.intro ((rn_ks466 (M := M) hM)) (rn_cv (by rw [rn_si_eq]) ?_))
          refine (rn_step (e := (.iconst 1, 147, 0, 0, 0, 0, 0, [])) rfl).mpr ?_
          refine (rn_step (e := (.iadd, 148, 0, 0, 0, 0, 0, [])) rfl).mpr (rn_cw (hr4 c1 c2 c3 c4).1 (hr4 c1 c2 c3 c4).2 ?_)
          refine (rn_step (e := (.putfield 182, 151, 10, 10, 912, 0, 11, [])) rfl).mpr (And.intro ((rn_ks466 (M := M) hM)) (?_))
          exact (rn_step (e := (.return_, 152, 0, 0, 0, 0, 0, [])) rfl).mpr (k1 c1 c2 c3 c4)
        ·
          exact (rn_step (e := (.return_, 152, 0, 0, 0, 0, 0, [])) rfl).mpr (k2 c1 c2 c3 c4)
      · have c3 := rn_b1 q
        exact (k3 c1 c2 c3)
    · have c2 := rn_b1 q
      exact (k4 c1 c2)
  · have c1 := rn_b1 q
    refine (rn_step (e := (.aload_n 0, 24, 0, 0, 0, 0, 0, [])) rfl).mpr ?_
    refine (rn_step (e := (.dup, 25, 0, 0, 0, 0, 0, [])) rfl).mpr ?_
    refine (rn_step (e := (.getfield 185, 28, 10, 9, 911, 0, 11, [])) rfl).mpr (And.intro ((rn_ks466 (M := M) hM)) (?_))
    refine (rn_step (e := (.iconst 1, 29, 0, 0, 0, 0, 0, [])) rfl).mpr ?_
    refine (rn_step (e := (.iadd, 30, 0, 0, 0, 0, 0, [])) rfl).mpr (rn_cw (hr5 c1).1 (hr5 c1).2 ?_)
    refine (rn_step (e := (.putfield 185, 33, 10, 9, 911, 0, 11, [])) rfl).mpr (And.intro ((rn_ks466 (M := M) hM)) (?_))
    refine (rn_step (e := (.goto (-25), 36, 8, 0, 0, 0, 0, [])) rfl).mpr ?_
    exact (k5 c1)
set_option maxRecDepth 4000 in
theorem rb_Mo_nextToken_59 {M : rn_M} {Q : rn_Q}  (hM : rn_sh M)   (hr1 : (0 : Int) ≤ rn_gi M 466 10 ∧ rn_gi M 466 4 ≤ 150) (hr2 : (rn_gi M 466 10 < rn_gi M 466 4 ∧ 97 ≤ rn_gi M 469 (rn_gi M 466 10).toNat ∧ rn_gi M 469 (rn_gi M 466 10).toNat ≤ 122) → (-2147483648 : Int) ≤ rn_gi M 466 10 + 1 ∧ rn_gi M 466 10 + 1 ≤ 2147483647) (k1 : (¬ (rn_gi M 466 10 < rn_gi M 466 4 ∧ 97 ≤ rn_gi M 469 (rn_gi M 466 10).toNat ∧ rn_gi M 469 (rn_gi M 466 10).toNat ≤ 122)) → Q none M) (k2 : (rn_gi M 466 10 < rn_gi M 466 4 ∧ 97 ≤ rn_gi M 469 (rn_gi M 466 10).toNat ∧ rn_gi M 469 (rn_gi M 466 10).toNat ≤ 122) → rn_WP 192 59 [rn_R 466] [] (rn_si M 466 10 (rn_gi M 466 10 + 1)) Q) : rn_WP 192 59 [rn_R 466] [] M Q := by
  refine (rn_step (e := (.aload_n 0, 60, 0, 0, 0, 0, 0, [])) rfl).mpr ?_
  refine (rn_step (e := (.aload_n 0, 61, 0, 0, 0, 0, 0, [])) rfl).mpr ?_
  refine (rn_step (e := (.getfield 182, 64, 10, 10, 912, 0, 11, [])) rfl).mpr (And.intro ((rn_ks466 (M := M) hM)) (?_))
  refine (rn_step (e := (.bipush 97, 66, 0, 0, 0, 0, 0, [])) rfl).mpr ?_
  refine (rn_step (e := (.bipush 122, 68, 0, 0, 0, 0, 0, [])) rfl).mpr ?_
  refine (rn_step (e := (.invokevirtual 188, 71, 191, 4, 1218, 0, 11, [0])) rfl).mpr (And.intro ((rn_ks466 (M := M) hM)) ((rc_Mo_isSort hM (hr1.1) (hr1.2) ?_)))
  refine (rn_step (e := (.ifCond .eq 80, 74, 151, 0, 0, 0, 0, [])) rfl).mpr (And.intro (fun q => ?_) (fun q => ?_))
  · have c1 := rn_b0 q
    exact (rn_step (e := (.return_, 152, 0, 0, 0, 0, 0, [])) rfl).mpr (k1 c1)
  · have c1 := rn_b1 q
    refine (rn_step (e := (.aload_n 0, 75, 0, 0, 0, 0, 0, [])) rfl).mpr ?_
    refine (rn_step (e := (.dup, 76, 0, 0, 0, 0, 0, [])) rfl).mpr ?_
    refine (rn_step (e := (.getfield 182, 79, 10, 10, 912, 0, 11, [])) rfl).mpr (And.intro ((rn_ks466 (M := M) hM)) (?_))
    refine (rn_step (e := (.iconst 1, 80, 0, 0, 0, 0, 0, [])) rfl).mpr ?_
    refine (rn_step (e := (.iadd, 81, 0, 0, 0, 0, 0, [])) rfl).mpr (rn_cw (hr2 c1).1 (hr2 c1).2 ?_)
    refine (rn_step (e := (.putfield 182, 84, 10, 10, 912, 0, 11, [])) rfl).mpr (And.intro ((rn_ks466 (M := M) hM)) (?_))
    refine (rn_step (e := (.goto (-25), 87, 59, 0, 0, 0, 0, [])) rfl).mpr ?_
    exact (k2 c1)
set_option maxRecDepth 4000 in
theorem rb_Mo_nextToken_102 {M : rn_M} {Q : rn_Q}  (hM : rn_sh M)   (hr1 : (0 : Int) ≤ rn_gi M 466 10 ∧ rn_gi M 466 4 ≤ 150) (hr2 : (rn_gi M 466 10 < rn_gi M 466 4 ∧ 48 ≤ rn_gi M 469 (rn_gi M 466 10).toNat ∧ rn_gi M 469 (rn_gi M 466 10).toNat ≤ 57) → (-2147483648 : Int) ≤ rn_gi M 466 10 + 1 ∧ rn_gi M 466 10 + 1 ≤ 2147483647) (k1 : (¬ (rn_gi M 466 10 < rn_gi M 466 4 ∧ 48 ≤ rn_gi M 469 (rn_gi M 466 10).toNat ∧ rn_gi M 469 (rn_gi M 466 10).toNat ≤ 57)) → Q none M) (k2 : (rn_gi M 466 10 < rn_gi M 466 4 ∧ 48 ≤ rn_gi M 469 (rn_gi M 466 10).toNat ∧ rn_gi M 469 (rn_gi M 466 10).toNat ≤ 57) → rn_WP 192 102 [rn_R 466] [] (rn_si M 466 10 (rn_gi M 466 10 + 1)) Q) : rn_WP 192 102 [rn_R 466] [] M Q := by
  refine (rn_step (e := (.aload_n 0, 103, 0, 0, 0, 0, 0, [])) rfl).mpr ?_
  refine (rn_step (e := (.aload_n 0, 104, 0, 0, 0, 0, 0, [])) rfl).mpr ?_
  refine (rn_step (e := (.getfield 182, 107, 10, 10, 912, 0, 11, [])) rfl).mpr (And.intro ((rn_ks466 (M := M) hM)) (?_))
  refine (rn_step (e := (.bipush 48, 109, 0, 0, 0, 0, 0, [])) rfl).mpr ?_
  refine (rn_step (e := (.bipush 57, 111, 0, 0, 0, 0, 0, [])) rfl).mpr ?_
  refine (rn_step (e := (.invokevirtual 188, 114, 191, 4, 1218, 0, 11, [0])) rfl).mpr (And.intro ((rn_ks466 (M := M) hM)) ((rc_Mo_isSort hM (hr1.1) (hr1.2) ?_)))
  refine (rn_step (e := (.ifCond .eq 37, 117, 151, 0, 0, 0, 0, [])) rfl).mpr (And.intro (fun q => ?_) (fun q => ?_))
  · have c1 := rn_b0 q
    exact (rn_step (e := (.return_, 152, 0, 0, 0, 0, 0, [])) rfl).mpr (k1 c1)
  · have c1 := rn_b1 q
    refine (rn_step (e := (.aload_n 0, 118, 0, 0, 0, 0, 0, [])) rfl).mpr ?_
    refine (rn_step (e := (.dup, 119, 0, 0, 0, 0, 0, [])) rfl).mpr ?_
    refine (rn_step (e := (.getfield 182, 122, 10, 10, 912, 0, 11, [])) rfl).mpr (And.intro ((rn_ks466 (M := M) hM)) (?_))
    refine (rn_step (e := (.iconst 1, 123, 0, 0, 0, 0, 0, [])) rfl).mpr ?_
    refine (rn_step (e := (.iadd, 124, 0, 0, 0, 0, 0, [])) rfl).mpr (rn_cw (hr2 c1).1 (hr2 c1).2 ?_)
    refine (rn_step (e := (.putfield 182, 127, 10, 10, 912, 0, 11, [])) rfl).mpr (And.intro ((rn_ks466 (M := M) hM)) (?_))
    refine (rn_step (e := (.goto (-25), 130, 102, 0, 0, 0, 0, [])) rfl).mpr ?_
    exact (k2 c1)
theorem re_Mo_isNameToken {M : rn_M} {Q : rn_Q} {v0 : rn_V} (h : rn_WP 193 0 [v0] [] M Q) : rn_ME 193 [v0] M Q := h
set_option maxRecDepth 4000 in
theorem rb_Mo_isNameToken_0 {M : rn_M} {Q : rn_Q}  (hM : rn_sh M)   (hr1 : (0 : Int) ≤ rn_gi M 466 9 ∧ rn_gi M 466 4 ≤ 150) (hr2 : (rn_gi M 466 9 < rn_gi M 466 4 ∧ 97 ≤ rn_gi M 469 (rn_gi M 466 9).toNat ∧ rn_gi M 469 (rn_gi M 466 9).toNat ≤ 122) → (-2147483648 : Int) ≤ (rn_gi M 466 10) - (rn_gi M 466 9) ∧ (rn_gi M 466 10) - (rn_gi M 466 9) ≤ 2147483647) (k1 : (¬ (rn_gi M 466 9 < rn_gi M 466 4 ∧ 97 ≤ rn_gi M 469 (rn_gi M 466 9).toNat ∧ rn_gi M 469 (rn_gi M 466 9).toNat ≤ 122)) → Q (some (rn_I 0)) M) (k2 : (rn_gi M 466 9 < rn_gi M 466 4 ∧ 97 ≤ rn_gi M 469 (rn_gi M 466 9).toNat ∧ rn_gi M 469 (rn_gi M 466 9).toNat ≤ 122) → (12 < (rn_gi M 466 10) - (rn_gi M 466 9)) → Q (some (rn_I 0)) M) (k3 : (rn_gi M 466 9 < rn_gi M 466 4 ∧ 97 ≤ rn_gi M 469 (rn_gi M 466 9).toNat ∧ rn_gi M 469 (rn_gi M 466 9).toNat ≤ 122) → (¬ (12 < (rn_gi M 466 10) - (rn_gi M 466 9))) → Q (some (rn_I 1)) M) : rn_WP 193 0 [rn_R 466] [] M Q := by
  refine (rn_step (e := (.aload_n 0, 1, 0, 0, 0, 0, 0, [])) rfl).mpr ?_
  refine (rn_step (e := (.aload_n 0, 2, 0, 0, 0, 0, 0, [])) rfl).mpr ?_
  refine (rn_step (e := (.getfield 185, 5, 10, 9, 911, 0, 11, [])) rfl).mpr (And.intro ((rn_ks466 (M := M) hM)) (?_))
  refine (rn_step (e := (.bipush 97, 7, 0, 0, 0, 0, 0, [])) rfl).mpr ?_
  refine (rn_step (e := (.bipush 122, 9, 0, 0, 0, 0, 0, [])) rfl).mpr ?_
  refine (rn_step (e := (.invokevirtual 188, 12, 191, 4, 1218, 0, 11, [0])) rfl).mpr (And.intro ((rn_ks466 (M := M) hM)) ((rc_Mo_isSort hM (hr1.1) (hr1.2) ?_)))
  refine (rn_step (e := (.ifCond .eq 21, 15, 33, 0, 0, 0, 0, [])) rfl).mpr (And.intro (fun q => ?_) (fun q => ?_))
  · have c1 := rn_b0 q
    refine (rn_step (e := (.iconst 0, 34, 0, 0, 0, 0, 0, [])) rfl).mpr ?_
    exact (rn_step (e := (.ireturn, 35, 0, 0, 0, 1, 0, [])) rfl).mpr (And.intro ((Or.inl rfl)) ((k1 c1)))
  · have c1 := rn_b1 q
    refine (rn_step (e := (.aload_n 0, 16, 0, 0, 0, 0, 0, [])) rfl).mpr ?_
    refine (rn_step (e := (.getfield 182, 19, 10, 10, 912, 0, 11, [])) rfl).mpr (And.intro ((rn_ks466 (M := M) hM)) (?_))
    refine (rn_step (e := (.aload_n 0, 20, 0, 0, 0, 0, 0, [])) rfl).mpr ?_
    refine (rn_step (e := (.getfield 185, 23, 10, 9, 911, 0, 11, [])) rfl).mpr (And.intro ((rn_ks466 (M := M) hM)) (?_))
    refine (rn_step (e := (.isub, 24, 0, 0, 0, 0, 0, [])) rfl).mpr (rn_cw (hr2 c1).1 (hr2 c1).2 ?_)
    refine (rn_step (e := (.bipush 12, 26, 0, 0, 0, 0, 0, [])) rfl).mpr ?_
    refine (rn_step (e := (.if_icmp .gt 7, 29, 33, 0, 0, 0, 0, [])) rfl).mpr (And.intro (fun c2 => ?_) (fun c2 => ?_))
    ·
      refine (rn_step (e := (.iconst 0, 34, 0, 0, 0, 0, 0, [])) rfl).mpr ?_
      exact (rn_step (e := (.ireturn, 35, 0, 0, 0, 1, 0, [])) rfl).mpr (And.intro ((Or.inl rfl)) ((k2 c1 c2)))
    ·
      refine (rn_step (e := (.iconst 1, 30, 0, 0, 0, 0, 0, [])) rfl).mpr ?_
      refine (rn_step (e := (.goto 4, 33, 34, 0, 0, 0, 0, [])) rfl).mpr ?_
      exact (rn_step (e := (.ireturn, 35, 0, 0, 0, 1, 0, [])) rfl).mpr (And.intro ((Or.inr rfl)) ((k3 c1 c2)))
theorem re_Mo_isRiverWord {M : rn_M} {Q : rn_Q} {v0 : rn_V} (h : rn_WP 194 0 [v0] [] M Q) : rn_ME 194 [v0] M Q := h
set_option maxRecDepth 4000 in
theorem rb_Mo_isRiverWord_0 {M : rn_M} {Q : rn_Q}  (hM : rn_sh M)   (hr1 : (-2147483648 : Int) ≤ (rn_gi M 466 10) - (rn_gi M 466 9) ∧ (rn_gi M 466 10) - (rn_gi M 466 9) ≤ 2147483647) (hr2 : ((rn_gi M 466 10) - (rn_gi M 466 9) = 5) → (0 : Int) ≤ rn_gi M 466 9 ∧ rn_gi M 466 9 < (150 : Int)) (hr3 : ((rn_gi M 466 10) - (rn_gi M 466 9) = 5) → (rn_gi M 469 (rn_gi M 466 9).toNat = 114) → (-2147483648 : Int) ≤ rn_gi M 466 9 + 1 ∧ rn_gi M 466 9 + 1 ≤ 2147483647 ∧ (0 : Int) ≤ rn_gi M 466 9 + 1 ∧ rn_gi M 466 9 + 1 < (150 : Int)) (hr4 : ((rn_gi M 466 10) - (rn_gi M 466 9) = 5) → (rn_gi M 469 (rn_gi M 466 9).toNat = 114) → (rn_gi M 469 (rn_gi M 466 9 + 1).toNat = 105) → (-2147483648 : Int) ≤ rn_gi M 466 9 + 2 ∧ rn_gi M 466 9 + 2 ≤ 2147483647 ∧ (0 : Int) ≤ rn_gi M 466 9 + 2 ∧ rn_gi M 466 9 + 2 < (150 : Int)) (hr5 : ((rn_gi M 466 10) - (rn_gi M 466 9) = 5) → (rn_gi M 469 (rn_gi M 466 9).toNat = 114) → (rn_gi M 469 (rn_gi M 466 9 + 1).toNat = 105) → (rn_gi M 469 (rn_gi M 466 9 + 2).toNat = 118) → (-2147483648 : Int) ≤ rn_gi M 466 9 + 3 ∧ rn_gi M 466 9 + 3 ≤ 2147483647 ∧ (0 : Int) ≤ rn_gi M 466 9 + 3 ∧ rn_gi M 466 9 + 3 < (150 : Int)) (hr6 : ((rn_gi M 466 10) - (rn_gi M 466 9) = 5) → (rn_gi M 469 (rn_gi M 466 9).toNat = 114) → (rn_gi M 469 (rn_gi M 466 9 + 1).toNat = 105) → (rn_gi M 469 (rn_gi M 466 9 + 2).toNat = 118) → (rn_gi M 469 (rn_gi M 466 9 + 3).toNat = 101) → (-2147483648 : Int) ≤ rn_gi M 466 9 + 4 ∧ rn_gi M 466 9 + 4 ≤ 2147483647 ∧ (0 : Int) ≤ rn_gi M 466 9 + 4 ∧ rn_gi M 466 9 + 4 < (150 : Int)) (k1 : ((rn_gi M 466 10) - (rn_gi M 466 9) = 5) → (rn_gi M 469 (rn_gi M 466 9).toNat = 114) → (rn_gi M 469 (rn_gi M 466 9 + 1).toNat = 105) → (rn_gi M 469 (rn_gi M 466 9 + 2).toNat = 118) → (rn_gi M 469 (rn_gi M 466 9 + 3).toNat = 101) → (rn_gi M 469 (rn_gi M 466 9 + 4).toNat = 114) → Q (some (rn_I 1)) M) (k2 : ((rn_gi M 466 10) - (rn_gi M 466 9) = 5) → (rn_gi M 469 (rn_gi M 466 9).toNat = 114) → (rn_gi M 469 (rn_gi M 466 9 + 1).toNat = 105) → (rn_gi M 469 (rn_gi M 466 9 + 2).toNat = 118) → (rn_gi M 469 (rn_gi M 466 9 + 3).toNat = 101) → (¬ (rn_gi M 469 (rn_gi M 466 9 + 4).toNat = 114)) → Q (some (rn_I 0)) M) (k3 : ((rn_gi M 466 10) - (rn_gi M 466 9) = 5) → (rn_gi M 469 (rn_gi M 466 9).toNat = 114) → (rn_gi M 469 (rn_gi M 466 9 + 1).toNat = 105) → (rn_gi M 469 (rn_gi M 466 9 + 2).toNat = 118) → (¬ (rn_gi M 469 (rn_gi M 466 9 + 3).toNat = 101)) → Q (some (rn_I 0)) M) (k4 : ((rn_gi M 466 10) - (rn_gi M 466 9) = 5) → (rn_gi M 469 (rn_gi M 466 9).toNat = 114) → (rn_gi M 469 (rn_gi M 466 9 + 1).toNat = 105) → (¬ (rn_gi M 469 (rn_gi M 466 9 + 2).toNat = 118)) → Q (some (rn_I 0)) M) (k5 : ((rn_gi M 466 10) - (rn_gi M 466 9) = 5) → (rn_gi M 469 (rn_gi M 466 9).toNat = 114) → (¬ (rn_gi M 469 (rn_gi M 466 9 + 1).toNat = 105)) → Q (some (rn_I 0)) M) (k6 : ((rn_gi M 466 10) - (rn_gi M 466 9) = 5) → (¬ (rn_gi M 469 (rn_gi M 466 9).toNat = 114)) → Q (some (rn_I 0)) M) (k7 : (¬ ((rn_gi M 466 10) - (rn_gi M 466 9) = 5)) → Q (some (rn_I 0)) M) : rn_WP 194 0 [rn_R 466] [] M Q := by
  refine (rn_step (e := (.aload_n 0, 1, 0, 0, 0, 0, 0, [])) rfl).mpr ?_
  refine (rn_step (e := (.getfield 182, 4, 10, 10, 912, 0, 11, [])) rfl).mpr (And.intro ((rn_ks466 (M := M) hM)) (?_))
  refine (rn_step (e := (.aload_n 0, 5, 0, 0, 0, 0, 0, [])) rfl).mpr ?_
  refine (rn_step (e := (.getfield 185, 8, 10, 9, 911, 0, 11, [])) rfl).mpr (And.intro ((rn_ks466 (M := M) hM)) (?_))
  refine (rn_step (e := (.isub, 9, 0, 0, 0, 0, 0, [])) rfl).mpr (rn_cw hr1.1 hr1.2 ?_)
  refine (rn_step (e := (.iconst 5, 10, 0, 0, 0, 0, 0, [])) rfl).mpr ?_
  refine (rn_step (e := (.if_icmp .ne 85, 13, 95, 0, 0, 0, 0, [])) rfl).mpr (And.intro (fun c1 => ?_) (fun c1 => ?_))
  ·
    refine (rn_step (e := (.aload_n 0, 14, 0, 0, 0, 0, 0, [])) rfl).mpr ?_
    refine (rn_step (e := (.getfield 16, 17, 10, 3, 905, 2, 11, [])) rfl).mpr (And.intro ((rn_ks466 (M := M) hM)) (rn_cg (rn_g466_3 (M := M) hM) ?_))
    refine (rn_step (e := (.aload_n 0, 18, 0, 0, 0, 0, 0, [])) rfl).mpr ?_
    refine (rn_step (e := (.getfield 185, 21, 10, 9, 911, 0, 11, [])) rfl).mpr (And.intro ((rn_ks466 (M := M) hM)) (?_))
    refine (rn_step (e := (.iaload, 22, 0, 0, 0, 0, 0, [])) rfl).mpr (And.intro (Or.inl (rn_w469 (M := M) hM).1) (And.intro ((And.intro ((hr2 c1).1) (rn_lt (rn_w469 (M := M) hM).2 (hr2 c1).2))) (?_)))
    refine (rn_step (e := (.bipush 114, 24, 0, 0, 0, 0, 0, [])) rfl).mpr ?_
    refine (rn_step (e := (.if_icmp .ne 71, 27, 95, 0, 0, 0, 0, [])) rfl).mpr (And.intro (fun c2 => ?_) (fun c2 => ?_))
    ·
      refine (rn_step (e := (.aload_n 0, 28, 0, 0, 0, 0, 0, [])) rfl).mpr ?_
      refine (rn_step (e := (.getfield 16, 31, 10, 3, 905, 2, 11, [])) rfl).mpr (And.intro ((rn_ks466 (M := M) hM)) (rn_cg (rn_g466_3 (M := M) hM) ?_))
      refine (rn_step (e := (.aload_n 0, 32, 0, 0, 0, 0, 0, [])) rfl).mpr ?_
      refine (rn_step (e := (.getfield 185, 35, 10, 9, 911, 0, 11, [])) rfl).mpr (And.intro ((rn_ks466 (M := M) hM)) (?_))
      refine (rn_step (e := (.iconst 1, 36, 0, 0, 0, 0, 0, [])) rfl).mpr ?_
      refine (rn_step (e := (.iadd, 37, 0, 0, 0, 0, 0, [])) rfl).mpr (rn_cw (hr3 c1 c2).1 (hr3 c1 c2).2.1 ?_)
      refine (rn_step (e := (.iaload, 38, 0, 0, 0, 0, 0, [])) rfl).mpr (And.intro (Or.inl (rn_w469 (M := M) hM).1) (And.intro ((And.intro ((hr3 c1 c2).2.2.1) (rn_lt (rn_w469 (M := M) hM).2 (hr3 c1 c2).2.2.2))) (?_)))
      refine (rn_step (e := (.bipush 105, 40, 0, 0, 0, 0, 0, [])) rfl).mpr ?_
      refine (rn_step (e := (.if_icmp .ne 55, 43, 95, 0, 0, 0, 0, [])) rfl).mpr (And.intro (fun c3 => ?_) (fun c3 => ?_))
      ·
        refine (rn_step (e := (.aload_n 0, 44, 0, 0, 0, 0, 0, [])) rfl).mpr ?_
        refine (rn_step (e := (.getfield 16, 47, 10, 3, 905, 2, 11, [])) rfl).mpr (And.intro ((rn_ks466 (M := M) hM)) (rn_cg (rn_g466_3 (M := M) hM) ?_))
        refine (rn_step (e := (.aload_n 0, 48, 0, 0, 0, 0, 0, [])) rfl).mpr ?_
        refine (rn_step (e := (.getfield 185, 51, 10, 9, 911, 0, 11, [])) rfl).mpr (And.intro ((rn_ks466 (M := M) hM)) (?_))
        refine (rn_step (e := (.iconst 2, 52, 0, 0, 0, 0, 0, [])) rfl).mpr ?_
        refine (rn_step (e := (.iadd, 53, 0, 0, 0, 0, 0, [])) rfl).mpr (rn_cw (hr4 c1 c2 c3).1 (hr4 c1 c2 c3).2.1 ?_)
        refine (rn_step (e := (.iaload, 54, 0, 0, 0, 0, 0, [])) rfl).mpr (And.intro (Or.inl (rn_w469 (M := M) hM).1) (And.intro ((And.intro ((hr4 c1 c2 c3).2.2.1) (rn_lt (rn_w469 (M := M) hM).2 (hr4 c1 c2 c3).2.2.2))) (?_)))
        refine (rn_step (e := (.bipush 118, 56, 0, 0, 0, 0, 0, [])) rfl).mpr ?_
        refine (rn_step (e := (.if_icmp .ne 39, 59, 95, 0, 0, 0, 0, [])) rfl).mpr (And.intro (fun c4 => ?_) (fun c4 => ?_))
        ·
          refine (rn_step (e := (.aload_n 0, 60, 0, 0, 0, 0, 0, [])) rfl).mpr ?_
          refine (rn_step (e := (.getfield 16, 63, 10, 3, 905, 2, 11, [])) rfl).mpr (And.intro ((rn_ks466 (M := M) hM)) (rn_cg (rn_g466_3 (M := M) hM) ?_))
          refine (rn_step (e := (.aload_n 0, 64, 0, 0, 0, 0, 0, [])) rfl).mpr ?_
          refine (rn_step (e := (.getfield 185, 67, 10, 9, 911, 0, 11, [])) rfl).mpr (And.intro ((rn_ks466 (M := M) hM)) (?_))
          refine (rn_step (e := (.iconst 3, 68, 0, 0, 0, 0, 0, [])) rfl).mpr ?_
          refine (rn_step (e := (.iadd, 69, 0, 0, 0, 0, 0, [])) rfl).mpr (rn_cw (hr5 c1 c2 c3 c4).1 (hr5 c1 c2 c3 c4).2.1 ?_)
          refine (rn_step (e := (.iaload, 70, 0, 0, 0, 0, 0, [])) rfl).mpr (And.intro (Or.inl (rn_w469 (M := M) hM).1) (And.intro ((And.intro ((hr5 c1 c2 c3 c4).2.2.1) (rn_lt (rn_w469 (M := M) hM).2 (hr5 c1 c2 c3 c4).2.2.2))) (?_)))
          refine (rn_step (e := (.bipush 101, 72, 0, 0, 0, 0, 0, [])) rfl).mpr ?_
          refine (rn_step (e := (.if_icmp .ne 23, 75, 95, 0, 0, 0, 0, [])) rfl).mpr (And.intro (fun c5 => ?_) (fun c5 => ?_))
          ·
            refine (rn_step (e := (.aload_n 0, 76, 0, 0, 0, 0, 0, [])) rfl).mpr ?_
            refine (rn_step (e := (.getfield 16, 79, 10, 3, 905, 2, 11, [])) rfl).mpr (And.intro ((rn_ks466 (M := M) hM)) (rn_cg (rn_g466_3 (M := M) hM) ?_))
            refine (rn_step (e := (.aload_n 0, 80, 0, 0, 0, 0, 0, [])) rfl).mpr ?_
            refine (rn_step (e := (.getfield 185, 83, 10, 9, 911, 0, 11, [])) rfl).mpr (And.intro ((rn_ks466 (M := M) hM)) (?_))
            refine (rn_step (e := (.iconst 4, 84, 0, 0, 0, 0, 0, [])) rfl).mpr ?_
            refine (rn_step (e := (.iadd, 85, 0, 0, 0, 0, 0, [])) rfl).mpr (rn_cw (hr6 c1 c2 c3 c4 c5).1 (hr6 c1 c2 c3 c4 c5).2.1 ?_)
            refine (rn_step (e := (.iaload, 86, 0, 0, 0, 0, 0, [])) rfl).mpr (And.intro (Or.inl (rn_w469 (M := M) hM).1) (And.intro ((And.intro ((hr6 c1 c2 c3 c4 c5).2.2.1) (rn_lt (rn_w469 (M := M) hM).2 (hr6 c1 c2 c3 c4 c5).2.2.2))) (?_)))
            refine (rn_step (e := (.bipush 114, 88, 0, 0, 0, 0, 0, [])) rfl).mpr ?_
            refine (rn_step (e := (.if_icmp .ne 7, 91, 95, 0, 0, 0, 0, [])) rfl).mpr (And.intro (fun c6 => ?_) (fun c6 => ?_))
            ·
              refine (rn_step (e := (.iconst 1, 92, 0, 0, 0, 0, 0, [])) rfl).mpr ?_
              refine (rn_step (e := (.goto 4, 95, 96, 0, 0, 0, 0, [])) rfl).mpr ?_
              exact (rn_step (e := (.ireturn, 97, 0, 0, 0, 1, 0, [])) rfl).mpr (And.intro ((Or.inr rfl)) ((k1 c1 c2 c3 c4 c5 c6)))
            ·
              refine (rn_step (e := (.iconst 0, 96, 0, 0, 0, 0, 0, [])) rfl).mpr ?_
              exact (rn_step (e := (.ireturn, 97, 0, 0, 0, 1, 0, [])) rfl).mpr (And.intro ((Or.inl rfl)) ((k2 c1 c2 c3 c4 c5 c6)))
          ·
            refine (rn_step (e := (.iconst 0, 96, 0, 0, 0, 0, 0, [])) rfl).mpr ?_
            exact (rn_step (e := (.ireturn, 97, 0, 0, 0, 1, 0, [])) rfl).mpr (And.intro ((Or.inl rfl)) ((k3 c1 c2 c3 c4 c5)))
        ·
          refine (rn_step (e := (.iconst 0, 96, 0, 0, 0, 0, 0, [])) rfl).mpr ?_
          exact (rn_step (e := (.ireturn, 97, 0, 0, 0, 1, 0, [])) rfl).mpr (And.intro ((Or.inl rfl)) ((k4 c1 c2 c3 c4)))
      ·
        refine (rn_step (e := (.iconst 0, 96, 0, 0, 0, 0, 0, [])) rfl).mpr ?_
        exact (rn_step (e := (.ireturn, 97, 0, 0, 0, 1, 0, [])) rfl).mpr (And.intro ((Or.inl rfl)) ((k5 c1 c2 c3)))
    ·
      refine (rn_step (e := (.iconst 0, 96, 0, 0, 0, 0, 0, [])) rfl).mpr ?_
      exact (rn_step (e := (.ireturn, 97, 0, 0, 0, 1, 0, [])) rfl).mpr (And.intro ((Or.inl rfl)) ((k6 c1 c2)))
  ·
    refine (rn_step (e := (.iconst 0, 96, 0, 0, 0, 0, 0, [])) rfl).mpr ?_
    exact (rn_step (e := (.ireturn, 97, 0, 0, 0, 1, 0, [])) rfl).mpr (And.intro ((Or.inl rfl)) ((k7 c1)))
theorem re_Mo_isTownWord {M : rn_M} {Q : rn_Q} {v0 : rn_V} (h : rn_WP 195 0 [v0] [] M Q) : rn_ME 195 [v0] M Q := h
set_option maxRecDepth 4000 in
theorem rb_Mo_isTownWord_0 {M : rn_M} {Q : rn_Q}  (hM : rn_sh M)   (hr1 : (-2147483648 : Int) ≤ (rn_gi M 466 10) - (rn_gi M 466 9) ∧ (rn_gi M 466 10) - (rn_gi M 466 9) ≤ 2147483647) (hr2 : ((rn_gi M 466 10) - (rn_gi M 466 9) = 4) → (0 : Int) ≤ rn_gi M 466 9 ∧ rn_gi M 466 9 < (150 : Int)) (hr3 : ((rn_gi M 466 10) - (rn_gi M 466 9) = 4) → (rn_gi M 469 (rn_gi M 466 9).toNat = 116) → (-2147483648 : Int) ≤ rn_gi M 466 9 + 1 ∧ rn_gi M 466 9 + 1 ≤ 2147483647 ∧ (0 : Int) ≤ rn_gi M 466 9 + 1 ∧ rn_gi M 466 9 + 1 < (150 : Int)) (hr4 : ((rn_gi M 466 10) - (rn_gi M 466 9) = 4) → (rn_gi M 469 (rn_gi M 466 9).toNat = 116) → (rn_gi M 469 (rn_gi M 466 9 + 1).toNat = 111) → (-2147483648 : Int) ≤ rn_gi M 466 9 + 2 ∧ rn_gi M 466 9 + 2 ≤ 2147483647 ∧ (0 : Int) ≤ rn_gi M 466 9 + 2 ∧ rn_gi M 466 9 + 2 < (150 : Int)) (hr5 : ((rn_gi M 466 10) - (rn_gi M 466 9) = 4) → (rn_gi M 469 (rn_gi M 466 9).toNat = 116) → (rn_gi M 469 (rn_gi M 466 9 + 1).toNat = 111) → (rn_gi M 469 (rn_gi M 466 9 + 2).toNat = 119) → (-2147483648 : Int) ≤ rn_gi M 466 9 + 3 ∧ rn_gi M 466 9 + 3 ≤ 2147483647 ∧ (0 : Int) ≤ rn_gi M 466 9 + 3 ∧ rn_gi M 466 9 + 3 < (150 : Int)) (k1 : ((rn_gi M 466 10) - (rn_gi M 466 9) = 4) → (rn_gi M 469 (rn_gi M 466 9).toNat = 116) → (rn_gi M 469 (rn_gi M 466 9 + 1).toNat = 111) → (rn_gi M 469 (rn_gi M 466 9 + 2).toNat = 119) → (rn_gi M 469 (rn_gi M 466 9 + 3).toNat = 110) → Q (some (rn_I 1)) M) (k2 : ((rn_gi M 466 10) - (rn_gi M 466 9) = 4) → (rn_gi M 469 (rn_gi M 466 9).toNat = 116) → (rn_gi M 469 (rn_gi M 466 9 + 1).toNat = 111) → (rn_gi M 469 (rn_gi M 466 9 + 2).toNat = 119) → (¬ (rn_gi M 469 (rn_gi M 466 9 + 3).toNat = 110)) → Q (some (rn_I 0)) M) (k3 : ((rn_gi M 466 10) - (rn_gi M 466 9) = 4) → (rn_gi M 469 (rn_gi M 466 9).toNat = 116) → (rn_gi M 469 (rn_gi M 466 9 + 1).toNat = 111) → (¬ (rn_gi M 469 (rn_gi M 466 9 + 2).toNat = 119)) → Q (some (rn_I 0)) M) (k4 : ((rn_gi M 466 10) - (rn_gi M 466 9) = 4) → (rn_gi M 469 (rn_gi M 466 9).toNat = 116) → (¬ (rn_gi M 469 (rn_gi M 466 9 + 1).toNat = 111)) → Q (some (rn_I 0)) M) (k5 : ((rn_gi M 466 10) - (rn_gi M 466 9) = 4) → (¬ (rn_gi M 469 (rn_gi M 466 9).toNat = 116)) → Q (some (rn_I 0)) M) (k6 : (¬ ((rn_gi M 466 10) - (rn_gi M 466 9) = 4)) → Q (some (rn_I 0)) M) : rn_WP 195 0 [rn_R 466] [] M Q := by
  refine (rn_step (e := (.aload_n 0, 1, 0, 0, 0, 0, 0, [])) rfl).mpr ?_
  refine (rn_step (e := (.getfield 182, 4, 10, 10, 912, 0, 11, [])) rfl).mpr (And.intro ((rn_ks466 (M := M) hM)) (?_))
  refine (rn_step (e := (.aload_n 0, 5, 0, 0, 0, 0, 0, [])) rfl).mpr ?_
  refine (rn_step (e := (.getfield 185, 8, 10, 9, 911, 0, 11, [])) rfl).mpr (And.intro ((rn_ks466 (M := M) hM)) (?_))
  refine (rn_step (e := (.isub, 9, 0, 0, 0, 0, 0, [])) rfl).mpr (rn_cw hr1.1 hr1.2 ?_)
  refine (rn_step (e := (.iconst 4, 10, 0, 0, 0, 0, 0, [])) rfl).mpr ?_
  refine (rn_step (e := (.if_icmp .ne 69, 13, 79, 0, 0, 0, 0, [])) rfl).mpr (And.intro (fun c1 => ?_) (fun c1 => ?_))
  ·
    refine (rn_step (e := (.aload_n 0, 14, 0, 0, 0, 0, 0, [])) rfl).mpr ?_
    refine (rn_step (e := (.getfield 16, 17, 10, 3, 905, 2, 11, [])) rfl).mpr (And.intro ((rn_ks466 (M := M) hM)) (rn_cg (rn_g466_3 (M := M) hM) ?_))
    refine (rn_step (e := (.aload_n 0, 18, 0, 0, 0, 0, 0, [])) rfl).mpr ?_
    refine (rn_step (e := (.getfield 185, 21, 10, 9, 911, 0, 11, [])) rfl).mpr (And.intro ((rn_ks466 (M := M) hM)) (?_))
    refine (rn_step (e := (.iaload, 22, 0, 0, 0, 0, 0, [])) rfl).mpr (And.intro (Or.inl (rn_w469 (M := M) hM).1) (And.intro ((And.intro ((hr2 c1).1) (rn_lt (rn_w469 (M := M) hM).2 (hr2 c1).2))) (?_)))
    refine (rn_step (e := (.bipush 116, 24, 0, 0, 0, 0, 0, [])) rfl).mpr ?_
    refine (rn_step (e := (.if_icmp .ne 55, 27, 79, 0, 0, 0, 0, [])) rfl).mpr (And.intro (fun c2 => ?_) (fun c2 => ?_))
    ·
      refine (rn_step (e := (.aload_n 0, 28, 0, 0, 0, 0, 0, [])) rfl).mpr ?_
      refine (rn_step (e := (.getfield 16, 31, 10, 3, 905, 2, 11, [])) rfl).mpr (And.intro ((rn_ks466 (M := M) hM)) (rn_cg (rn_g466_3 (M := M) hM) ?_))
      refine (rn_step (e := (.aload_n 0, 32, 0, 0, 0, 0, 0, [])) rfl).mpr ?_
      refine (rn_step (e := (.getfield 185, 35, 10, 9, 911, 0, 11, [])) rfl).mpr (And.intro ((rn_ks466 (M := M) hM)) (?_))
      refine (rn_step (e := (.iconst 1, 36, 0, 0, 0, 0, 0, [])) rfl).mpr ?_
      refine (rn_step (e := (.iadd, 37, 0, 0, 0, 0, 0, [])) rfl).mpr (rn_cw (hr3 c1 c2).1 (hr3 c1 c2).2.1 ?_)
      refine (rn_step (e := (.iaload, 38, 0, 0, 0, 0, 0, [])) rfl).mpr (And.intro (Or.inl (rn_w469 (M := M) hM).1) (And.intro ((And.intro ((hr3 c1 c2).2.2.1) (rn_lt (rn_w469 (M := M) hM).2 (hr3 c1 c2).2.2.2))) (?_)))
      refine (rn_step (e := (.bipush 111, 40, 0, 0, 0, 0, 0, [])) rfl).mpr ?_
      refine (rn_step (e := (.if_icmp .ne 39, 43, 79, 0, 0, 0, 0, [])) rfl).mpr (And.intro (fun c3 => ?_) (fun c3 => ?_))
      ·
        refine (rn_step (e := (.aload_n 0, 44, 0, 0, 0, 0, 0, [])) rfl).mpr ?_
        refine (rn_step (e := (.getfield 16, 47, 10, 3, 905, 2, 11, [])) rfl).mpr (And.intro ((rn_ks466 (M := M) hM)) (rn_cg (rn_g466_3 (M := M) hM) ?_))
        refine (rn_step (e := (.aload_n 0, 48, 0, 0, 0, 0, 0, [])) rfl).mpr ?_
        refine (rn_step (e := (.getfield 185, 51, 10, 9, 911, 0, 11, [])) rfl).mpr (And.intro ((rn_ks466 (M := M) hM)) (?_))
        refine (rn_step (e := (.iconst 2, 52, 0, 0, 0, 0, 0, [])) rfl).mpr ?_
        refine (rn_step (e := (.iadd, 53, 0, 0, 0, 0, 0, [])) rfl).mpr (rn_cw (hr4 c1 c2 c3).1 (hr4 c1 c2 c3).2.1 ?_)
        refine (rn_step (e := (.iaload, 54, 0, 0, 0, 0, 0, [])) rfl).mpr (And.intro (Or.inl (rn_w469 (M := M) hM).1) (And.intro ((And.intro ((hr4 c1 c2 c3).2.2.1) (rn_lt (rn_w469 (M := M) hM).2 (hr4 c1 c2 c3).2.2.2))) (?_)))
        refine (rn_step (e := (.bipush 119, 56, 0, 0, 0, 0, 0, [])) rfl).mpr ?_
        refine (rn_step (e := (.if_icmp .ne 23, 59, 79, 0, 0, 0, 0, [])) rfl).mpr (And.intro (fun c4 => ?_) (fun c4 => ?_))
        ·
          refine (rn_step (e := (.aload_n 0, 60, 0, 0, 0, 0, 0, [])) rfl).mpr ?_
          refine (rn_step (e := (.getfield 16, 63, 10, 3, 905, 2, 11, [])) rfl).mpr (And.intro ((rn_ks466 (M := M) hM)) (rn_cg (rn_g466_3 (M := M) hM) ?_))
          refine (rn_step (e := (.aload_n 0, 64, 0, 0, 0, 0, 0, [])) rfl).mpr ?_
          refine (rn_step (e := (.getfield 185, 67, 10, 9, 911, 0, 11, [])) rfl).mpr (And.intro ((rn_ks466 (M := M) hM)) (?_))
          refine (rn_step (e := (.iconst 3, 68, 0, 0, 0, 0, 0, [])) rfl).mpr ?_
          refine (rn_step (e := (.iadd, 69, 0, 0, 0, 0, 0, [])) rfl).mpr (rn_cw (hr5 c1 c2 c3 c4).1 (hr5 c1 c2 c3 c4).2.1 ?_)
          refine (rn_step (e := (.iaload, 70, 0, 0, 0, 0, 0, [])) rfl).mpr (And.intro (Or.inl (rn_w469 (M := M) hM).1) (And.intro ((And.intro ((hr5 c1 c2 c3 c4).2.2.1) (rn_lt (rn_w469 (M := M) hM).2 (hr5 c1 c2 c3 c4).2.2.2))) (?_)))
          refine (rn_step (e := (.bipush 110, 72, 0, 0, 0, 0, 0, [])) rfl).mpr ?_
          refine (rn_step (e := (.if_icmp .ne 7, 75, 79, 0, 0, 0, 0, [])) rfl).mpr (And.intro (fun c5 => ?_) (fun c5 => ?_))
          ·
            refine (rn_step (e := (.iconst 1, 76, 0, 0, 0, 0, 0, [])) rfl).mpr ?_
            refine (rn_step (e := (.goto 4, 79, 80, 0, 0, 0, 0, [])) rfl).mpr ?_
            exact (rn_step (e := (.ireturn, 81, 0, 0, 0, 1, 0, [])) rfl).mpr (And.intro ((Or.inr rfl)) ((k1 c1 c2 c3 c4 c5)))
          ·
            refine (rn_step (e := (.iconst 0, 80, 0, 0, 0, 0, 0, [])) rfl).mpr ?_
            exact (rn_step (e := (.ireturn, 81, 0, 0, 0, 1, 0, [])) rfl).mpr (And.intro ((Or.inl rfl)) ((k2 c1 c2 c3 c4 c5)))
        ·
          refine (rn_step (e := (.iconst 0, 80, 0, 0, 0, 0, 0, [])) rfl).mpr ?_
          exact (rn_step (e := (.ireturn, 81, 0, 0, 0, 1, 0, [])) rfl).mpr (And.intro ((Or.inl rfl)) ((k3 c1 c2 c3 c4)))
      ·
        refine (rn_step (e := (.iconst 0, 80, 0, 0, 0, 0, 0, [])) rfl).mpr ?_
        exact (rn_step (e := (.ireturn, 81, 0, 0, 0, 1, 0, [])) rfl).mpr (And.intro ((Or.inl rfl)) ((k4 c1 c2 c3)))
    ·
      refine (rn_step (e := (.iconst 0, 80, 0, 0, 0, 0, 0, [])) rfl).mpr ?_
      exact (rn_step (e := (.ireturn, 81, 0, 0, 0, 1, 0, [])) rfl).mpr (And.intro ((Or.inl rfl)) ((k5 c1 c2)))
  ·
    refine (rn_step (e := (.iconst 0, 80, 0, 0, 0, 0, 0, [])) rfl).mpr ?_
    exact (rn_step (e := (.ireturn, 81, 0, 0, 0, 1, 0, [])) rfl).mpr (And.intro ((Or.inl rfl)) ((k6 c1)))
theorem re_Mo_takesNumber {M : rn_M} {Q : rn_Q} {v0 v1 v2 : rn_V} (h : rn_WP 196 0 [v0, v1, v2, rn_J, rn_J] [] M Q) : rn_ME 196 [v0, v1, v2] M Q := h
set_option maxRecDepth 4000 in
theorem rb_Mo_takesNumber_0 {M : rn_M} {Q : rn_Q} {vl1 : rn_V} {vl2 : rn_V} {vl3 : rn_V} {vl4 : rn_V} (hM : rn_sh M)   (hr1 : (0 : Int) ≤ rn_gi M 466 9 ∧ rn_gi M 466 4 ≤ 150) (hr2 : (rn_gi M 466 9 < rn_gi M 466 4 ∧ 48 ≤ rn_gi M 469 (rn_gi M 466 9).toNat ∧ rn_gi M 469 (rn_gi M 466 9).toNat ≤ 57) → (0 : Int) ≤ rn_gi M 466 9 ∧ rn_gi M 466 9 < (150 : Int)) (hr3 : (rn_gi M 466 9 < rn_gi M 466 4 ∧ 48 ≤ rn_gi M 469 (rn_gi M 466 9).toNat ∧ rn_gi M 469 (rn_gi M 466 9).toNat ≤ 57) → (rn_gi M 469 (rn_gi M 466 9).toNat = 48) → (-2147483648 : Int) ≤ (rn_gi M 466 10) - (rn_gi M 466 9) ∧ (rn_gi M 466 10) - (rn_gi M 466 9) ≤ 2147483647) (hr4 : (rn_gi M 466 9 < rn_gi M 466 4 ∧ 48 ≤ rn_gi M 469 (rn_gi M 466 9).toNat ∧ rn_gi M 469 (rn_gi M 466 9).toNat ≤ 57) → (rn_gi M 469 (rn_gi M 466 9).toNat = 48) → (¬ (1 < (rn_gi M 466 10) - (rn_gi M 466 9))) → (-2147483648 : Int) ≤ (rn_gi M 466 10) - (rn_gi M 466 9) ∧ (rn_gi M 466 10) - (rn_gi M 466 9) ≤ 2147483647) (hr5 : (rn_gi M 466 9 < rn_gi M 466 4 ∧ 48 ≤ rn_gi M 469 (rn_gi M 466 9).toNat ∧ rn_gi M 469 (rn_gi M 466 9).toNat ≤ 57) → (¬ (rn_gi M 469 (rn_gi M 466 9).toNat = 48)) → (-2147483648 : Int) ≤ (rn_gi M 466 10) - (rn_gi M 466 9) ∧ (rn_gi M 466 10) - (rn_gi M 466 9) ≤ 2147483647) (k1 : (¬ (rn_gi M 466 9 < rn_gi M 466 4 ∧ 48 ≤ rn_gi M 469 (rn_gi M 466 9).toNat ∧ rn_gi M 469 (rn_gi M 466 9).toNat ≤ 57)) → Q (some (rn_I 0)) M) (k2 : (rn_gi M 466 9 < rn_gi M 466 4 ∧ 48 ≤ rn_gi M 469 (rn_gi M 466 9).toNat ∧ rn_gi M 469 (rn_gi M 466 9).toNat ≤ 57) → (rn_gi M 469 (rn_gi M 466 9).toNat = 48) → (1 < (rn_gi M 466 10) - (rn_gi M 466 9)) → Q (some (rn_I 0)) M) (k3 : (rn_gi M 466 9 < rn_gi M 466 4 ∧ 48 ≤ rn_gi M 469 (rn_gi M 466 9).toNat ∧ rn_gi M 469 (rn_gi M 466 9).toNat ≤ 57) → (rn_gi M 469 (rn_gi M 466 9).toNat = 48) → (¬ (1 < (rn_gi M 466 10) - (rn_gi M 466 9))) → ((rn_gi M 466 10) - (rn_gi M 466 9) ≤ 3) → rn_WP 196 65 [rn_R 466, vl1, vl2, rn_I 0, rn_I (rn_gi M 466 9)] [] M Q) (k4 : (rn_gi M 466 9 < rn_gi M 466 4 ∧ 48 ≤ rn_gi M 469 (rn_gi M 466 9).toNat ∧ rn_gi M 469 (rn_gi M 466 9).toNat ≤ 57) → (rn_gi M 469 (rn_gi M 466 9).toNat = 48) → (¬ (1 < (rn_gi M 466 10) - (rn_gi M 466 9))) → (¬ ((rn_gi M 466 10) - (rn_gi M 466 9) ≤ 3)) → Q (some (rn_I 0)) M) (k5 : (rn_gi M 466 9 < rn_gi M 466 4 ∧ 48 ≤ rn_gi M 469 (rn_gi M 466 9).toNat ∧ rn_gi M 469 (rn_gi M 466 9).toNat ≤ 57) → (¬ (rn_gi M 469 (rn_gi M 466 9).toNat = 48)) → ((rn_gi M 466 10) - (rn_gi M 466 9) ≤ 3) → rn_WP 196 65 [rn_R 466, vl1, vl2, rn_I 0, rn_I (rn_gi M 466 9)] [] M Q) (k6 : (rn_gi M 466 9 < rn_gi M 466 4 ∧ 48 ≤ rn_gi M 469 (rn_gi M 466 9).toNat ∧ rn_gi M 469 (rn_gi M 466 9).toNat ≤ 57) → (¬ (rn_gi M 469 (rn_gi M 466 9).toNat = 48)) → (¬ ((rn_gi M 466 10) - (rn_gi M 466 9) ≤ 3)) → Q (some (rn_I 0)) M) : rn_WP 196 0 [rn_R 466, vl1, vl2, vl3, vl4] [] M Q := by
  refine (rn_step (e := (.aload_n 0, 1, 0, 0, 0, 0, 0, [])) rfl).mpr ?_
  refine (rn_step (e := (.aload_n 0, 2, 0, 0, 0, 0, 0, [])) rfl).mpr ?_
  refine (rn_step (e := (.getfield 185, 5, 10, 9, 911, 0, 11, [])) rfl).mpr (And.intro ((rn_ks466 (M := M) hM)) (?_))
  refine (rn_step (e := (.bipush 48, 7, 0, 0, 0, 0, 0, [])) rfl).mpr ?_
  refine (rn_step (e := (.bipush 57, 9, 0, 0, 0, 0, 0, [])) rfl).mpr ?_
  refine (rn_step (e := (.invokevirtual 188, 12, 191, 4, 1218, 0, 11, [0])) rfl).mpr (And.intro ((rn_ks466 (M := M) hM)) ((rc_Mo_isSort hM (hr1.1) (hr1.2) ?_)))
  refine (rn_step (e := (.ifCond .eq 43, 15, 55, 0, 0, 0, 0, [])) rfl).mpr (And.intro (fun q => ?_) (fun q => ?_))
  · have c1 := rn_b0 q
    refine (rn_step (e := (.iconst 0, 56, 0, 0, 0, 0, 0, [])) rfl).mpr ?_
    exact (rn_step (e := (.ireturn, 57, 0, 0, 0, 1, 0, [])) rfl).mpr (And.intro ((Or.inl rfl)) ((k1 c1)))
  · have c1 := rn_b1 q
    refine (rn_step (e := (.aload_n 0, 16, 0, 0, 0, 0, 0, [])) rfl).mpr ?_
    refine (rn_step (e := (.getfield 16, 19, 10, 3, 905, 2, 11, [])) rfl).mpr (And.intro ((rn_ks466 (M := M) hM)) (rn_cg (rn_g466_3 (M := M) hM) ?_))
    refine (rn_step (e := (.aload_n 0, 20, 0, 0, 0, 0, 0, [])) rfl).mpr ?_
    refine (rn_step (e := (.getfield 185, 23, 10, 9, 911, 0, 11, [])) rfl).mpr (And.intro ((rn_ks466 (M := M) hM)) (?_))
    refine (rn_step (e := (.iaload, 24, 0, 0, 0, 0, 0, [])) rfl).mpr (And.intro (Or.inl (rn_w469 (M := M) hM).1) (And.intro ((And.intro ((hr2 c1).1) (rn_lt (rn_w469 (M := M) hM).2 (hr2 c1).2))) (?_)))
    refine (rn_step (e := (.bipush 48, 26, 0, 0, 0, 0, 0, [])) rfl).mpr ?_
    refine (rn_step (e := (.if_icmp .ne 16, 29, 42, 0, 0, 0, 0, [])) rfl).mpr (And.intro (fun c2 => ?_) (fun c2 => ?_))
    ·
      refine (rn_step (e := (.aload_n 0, 30, 0, 0, 0, 0, 0, [])) rfl).mpr ?_
      refine (rn_step (e := (.getfield 182, 33, 10, 10, 912, 0, 11, [])) rfl).mpr (And.intro ((rn_ks466 (M := M) hM)) (?_))
      refine (rn_step (e := (.aload_n 0, 34, 0, 0, 0, 0, 0, [])) rfl).mpr ?_
      refine (rn_step (e := (.getfield 185, 37, 10, 9, 911, 0, 11, [])) rfl).mpr (And.intro ((rn_ks466 (M := M) hM)) (?_))
      refine (rn_step (e := (.isub, 38, 0, 0, 0, 0, 0, [])) rfl).mpr (rn_cw (hr3 c1 c2).1 (hr3 c1 c2).2 ?_)
      refine (rn_step (e := (.iconst 1, 39, 0, 0, 0, 0, 0, [])) rfl).mpr ?_
      refine (rn_step (e := (.if_icmp .gt 16, 42, 55, 0, 0, 0, 0, [])) rfl).mpr (And.intro (fun c3 => ?_) (fun c3 => ?_))
      ·
        refine (rn_step (e := (.iconst 0, 56, 0, 0, 0, 0, 0, [])) rfl).mpr ?_
        exact (rn_step (e := (.ireturn, 57, 0, 0, 0, 1, 0, [])) rfl).mpr (And.intro ((Or.inl rfl)) ((k2 c1 c2 c3)))
      ·
        refine (rn_step (e := (.aload_n 0, 43, 0, 0, 0, 0, 0, [])) rfl).mpr ?_
        refine (rn_step (e := (.getfield 182, 46, 10, 10, 912, 0, 11, [])) rfl).mpr (And.intro ((rn_ks466 (M := M) hM)) (?_))
        refine (rn_step (e := (.aload_n 0, 47, 0, 0, 0, 0, 0, [])) rfl).mpr ?_
        refine (rn_step (e := (.getfield 185, 50, 10, 9, 911, 0, 11, [])) rfl).mpr (And.intro ((rn_ks466 (M := M) hM)) (?_))
        refine (rn_step (e := (.isub, 51, 0, 0, 0, 0, 0, [])) rfl).mpr (rn_cw (hr4 c1 c2 c3).1 (hr4 c1 c2 c3).2 ?_)
        refine (rn_step (e := (.iconst 3, 52, 0, 0, 0, 0, 0, [])) rfl).mpr ?_
        refine (rn_step (e := (.if_icmp .le 5, 55, 57, 0, 0, 0, 0, [])) rfl).mpr (And.intro (fun c4 => ?_) (fun c4 => ?_))
        ·
          refine (rn_step (e := (.iconst 0, 58, 0, 0, 0, 0, 0, [])) rfl).mpr ?_
          refine (rn_step (e := (.istore_n 3, 59, 3, 0, 0, 0, 0, [])) rfl).mpr ?_
          refine (rn_step (e := (.aload_n 0, 60, 0, 0, 0, 0, 0, [])) rfl).mpr ?_
          refine (rn_step (e := (.getfield 185, 63, 10, 9, 911, 0, 11, [])) rfl).mpr (And.intro ((rn_ks466 (M := M) hM)) (?_))
          refine (rn_step (e := (.istore 4, 65, 4, 0, 0, 0, 0, [])) rfl).mpr ?_
          exact (k3 c1 c2 c3 c4)
        ·
          refine (rn_step (e := (.iconst 0, 56, 0, 0, 0, 0, 0, [])) rfl).mpr ?_
          exact (rn_step (e := (.ireturn, 57, 0, 0, 0, 1, 0, [])) rfl).mpr (And.intro ((Or.inl rfl)) ((k4 c1 c2 c3 c4)))
    ·
      refine (rn_step (e := (.aload_n 0, 43, 0, 0, 0, 0, 0, [])) rfl).mpr ?_
      refine (rn_step (e := (.getfield 182, 46, 10, 10, 912, 0, 11, [])) rfl).mpr (And.intro ((rn_ks466 (M := M) hM)) (?_))
      refine (rn_step (e := (.aload_n 0, 47, 0, 0, 0, 0, 0, [])) rfl).mpr ?_
      refine (rn_step (e := (.getfield 185, 50, 10, 9, 911, 0, 11, [])) rfl).mpr (And.intro ((rn_ks466 (M := M) hM)) (?_))
      refine (rn_step (e := (.isub, 51, 0, 0, 0, 0, 0, [])) rfl).mpr (rn_cw (hr5 c1 c2).1 (hr5 c1 c2).2 ?_)
      refine (rn_step (e := (.iconst 3, 52, 0, 0, 0, 0, 0, [])) rfl).mpr ?_
      refine (rn_step (e := (.if_icmp .le 5, 55, 57, 0, 0, 0, 0, [])) rfl).mpr (And.intro (fun c3 => ?_) (fun c3 => ?_))
      ·
        refine (rn_step (e := (.iconst 0, 58, 0, 0, 0, 0, 0, [])) rfl).mpr ?_
        refine (rn_step (e := (.istore_n 3, 59, 3, 0, 0, 0, 0, [])) rfl).mpr ?_
        refine (rn_step (e := (.aload_n 0, 60, 0, 0, 0, 0, 0, [])) rfl).mpr ?_
        refine (rn_step (e := (.getfield 185, 63, 10, 9, 911, 0, 11, [])) rfl).mpr (And.intro ((rn_ks466 (M := M) hM)) (?_))
        refine (rn_step (e := (.istore 4, 65, 4, 0, 0, 0, 0, [])) rfl).mpr ?_
        exact (k5 c1 c2 c3)
      ·
        refine (rn_step (e := (.iconst 0, 56, 0, 0, 0, 0, 0, [])) rfl).mpr ?_
        exact (rn_step (e := (.ireturn, 57, 0, 0, 0, 1, 0, [])) rfl).mpr (And.intro ((Or.inl rfl)) ((k6 c1 c2 c3)))
set_option maxRecDepth 4000 in
theorem rb_Mo_takesNumber_65 {M : rn_M} {Q : rn_Q} {xl1 : Int} {xl2 : Int} {xl3 : Int} {xl4 : Int} (hM : rn_sh M)   (hr1 : (xl4 < rn_gi M 466 10) → (-2147483648 : Int) ≤ 10 * xl3 ∧ 10 * xl3 ≤ 2147483647 ∧ (0 : Int) ≤ xl4 ∧ xl4 < (150 : Int) ∧ (-2147483648 : Int) ≤ (10 * xl3) + (rn_gi M 469 (xl4).toNat) ∧ (10 * xl3) + (rn_gi M 469 (xl4).toNat) ≤ 2147483647 ∧ (-2147483648 : Int) ≤ ((10 * xl3) + (rn_gi M 469 (xl4).toNat)) - 48 ∧ ((10 * xl3) + (rn_gi M 469 (xl4).toNat)) - 48 ≤ 2147483647 ∧ (-2147483648 : Int) ≤ xl4 + 1 ∧ xl4 + 1 ≤ 2147483647) (k1 : (xl4 < rn_gi M 466 10) → rn_WP 196 65 [rn_R 466, rn_I xl1, rn_I xl2, rn_I (((10 * xl3) + (rn_gi M 469 (xl4).toNat)) - 48), rn_I (xl4 + 1)] [] M Q) (k2 : (¬ (xl4 < rn_gi M 466 10)) → (¬ (xl1 ≤ xl3 ∧ xl3 ≤ xl2)) → Q (some (rn_I 0)) M) (k3 : (¬ (xl4 < rn_gi M 466 10)) → (xl1 ≤ xl3 ∧ xl3 ≤ xl2) → rn_ME 192 [rn_R 466] (rn_si M 466 11 xl3) (fun r M1 => rn_WP 196 116 [rn_R 466, rn_I xl1, rn_I xl2, rn_I xl3, rn_I xl4] (r.toList ++ []) M1 Q)) : rn_WP 196 65 [rn_R 466, rn_I xl1, rn_I xl2, rn_I xl3, rn_I xl4] [] M Q := by
  refine (rn_step (e := (.iload 4, 67, 4, 0, 0, 0, 0, [])) rfl).mpr ?_
  refine (rn_step (e := (.aload_n 0, 68, 0, 0, 0, 0, 0, [])) rfl).mpr ?_
  refine (rn_step (e := (.getfield 182, 71, 10, 10, 912, 0, 11, [])) rfl).mpr (And.intro ((rn_ks466 (M := M) hM)) (?_))
  refine (rn_step (e := (.if_icmp .ge 25, 74, 96, 0, 0, 0, 0, [])) rfl).mpr (And.intro (fun c1 => ?_) (fun c1 => ?_))
  ·
    refine (rn_step (e := (.bipush 10, 76, 0, 0, 0, 0, 0, [])) rfl).mpr ?_
    refine (rn_step (e := (.iload_n 3, 77, 3, 0, 0, 0, 0, [])) rfl).mpr ?_
    refine (rn_step (e := (.imul, 78, 0, 0, 0, 0, 0, [])) rfl).mpr (rn_cw (hr1 c1).1 (hr1 c1).2.1 ?_)
    refine (rn_step (e := (.aload_n 0, 79, 0, 0, 0, 0, 0, [])) rfl).mpr ?_
    refine (rn_step (e := (.getfield 16, 82, 10, 3, 905, 2, 11, [])) rfl).mpr (And.intro ((rn_ks466 (M := M) hM)) (rn_cg (rn_g466_3 (M := M) hM) ?_))
    refine (rn_step (e := (.iload 4, 84, 4, 0, 0, 0, 0, [])) rfl).mpr ?_
    refine (rn_step (e := (.iaload, 85, 0, 0, 0, 0, 0, [])) rfl).mpr (And.intro (Or.inl (rn_w469 (M := M) hM).1) (And.intro ((And.intro ((hr1 c1).2.2.1) (rn_lt (rn_w469 (M := M) hM).2 (hr1 c1).2.2.2.1))) (?_)))
    refine (rn_step (e := (.iadd, 86, 0, 0, 0, 0, 0, [])) rfl).mpr (rn_cw (hr1 c1).2.2.2.2.1 (hr1 c1).2.2.2.2.2.1 ?_)
    refine (rn_step (e := (.bipush 48, 88, 0, 0, 0, 0, 0, [])) rfl).mpr ?_
    refine (rn_step (e := (.isub, 89, 0, 0, 0, 0, 0, [])) rfl).mpr (rn_cw (hr1 c1).2.2.2.2.2.2.1 (hr1 c1).2.2.2.2.2.2.2.1 ?_)
    refine (rn_step (e := (.istore_n 3, 90, 3, 0, 0, 0, 0, [])) rfl).mpr ?_
    refine (rn_step (e := (.iinc 4 1, 93, 4, 0, 0, 0, 0, [])) rfl).mpr (rn_ci (hr1 c1).2.2.2.2.2.2.2.2.1 (hr1 c1).2.2.2.2.2.2.2.2.2 ?_)
    refine (rn_step (e := (.goto (-28), 96, 65, 0, 0, 0, 0, [])) rfl).mpr ?_
    exact (k1 c1)
  ·
    refine (rn_step (e := (.iload_n 3, 97, 3, 0, 0, 0, 0, [])) rfl).mpr ?_
    refine (rn_step (e := (.iload_n 1, 98, 1, 0, 0, 0, 0, [])) rfl).mpr ?_
    refine (rn_step (e := (.iload_n 2, 99, 2, 0, 0, 0, 0, [])) rfl).mpr ?_
    refine (rn_step (e := (.invokestatic 41, 102, 124, 3, 956, 0, 11, [0])) rfl).mpr (rc_Mo_in  ?_)
    refine (rn_step (e := (.ifCond .ne 5, 105, 107, 0, 0, 0, 0, [])) rfl).mpr (And.intro (fun q => ?_) (fun q => ?_))
    · have c2 := rn_b0 q
      refine (rn_step (e := (.iconst 0, 106, 0, 0, 0, 0, 0, [])) rfl).mpr ?_
      exact (rn_step (e := (.ireturn, 107, 0, 0, 0, 1, 0, [])) rfl).mpr (And.intro ((Or.inl rfl)) ((k2 c1 c2)))
    · have c2 := rn_b1 q
      refine (rn_step (e := (.aload_n 0, 108, 0, 0, 0, 0, 0, [])) rfl).mpr ?_
      refine (rn_step (e := (.iload_n 3, 109, 3, 0, 0, 0, 0, [])) rfl).mpr ?_
      refine (rn_step (e := (.putfield 191, 112, 10, 11, 913, 0, 11, [])) rfl).mpr (And.intro ((rn_ks466 (M := M) hM)) (?_))
      refine (rn_step (e := (.aload_n 0, 113, 0, 0, 0, 0, 0, [])) rfl).mpr ?_
      exact (rn_step (e := (.invokevirtual 194, 116, 192, 1, 1214, 0, 11, [0])) rfl).mpr (And.intro ((rn_ks466 (M := M) hM)) ((k3 c1 c2)))
set_option maxRecDepth 4000 in
theorem rb_Mo_takesNumber_116 {M : rn_M} {Q : rn_Q} {vl0 : rn_V} {vl1 : rn_V} {vl2 : rn_V} {vl3 : rn_V} {vl4 : rn_V}   (k1 : Q (some (rn_I 1)) M) : rn_WP 196 116 [vl0, vl1, vl2, vl3, vl4] [] M Q := by
  refine (rn_step (e := (.iconst 1, 117, 0, 0, 0, 0, 0, [])) rfl).mpr ?_
  exact (rn_step (e := (.ireturn, 118, 0, 0, 0, 1, 0, [])) rfl).mpr (And.intro ((Or.inr rfl)) (k1))
theorem re_Mo_takesSemicolon {M : rn_M} {Q : rn_Q} {v0 : rn_V} (h : rn_WP 197 0 [v0] [] M Q) : rn_ME 197 [v0] M Q := h
set_option maxRecDepth 4000 in
theorem rb_Mo_takesSemicolon_0 {M : rn_M} {Q : rn_Q}  (hM : rn_sh M)   (hr1 : (0 : Int) ≤ rn_gi M 466 9 ∧ rn_gi M 466 4 ≤ 150) (k1 : (¬ (rn_gi M 466 9 < rn_gi M 466 4 ∧ 59 ≤ rn_gi M 469 (rn_gi M 466 9).toNat ∧ rn_gi M 469 (rn_gi M 466 9).toNat ≤ 59)) → Q (some (rn_I 0)) M) (k2 : (rn_gi M 466 9 < rn_gi M 466 4 ∧ 59 ≤ rn_gi M 469 (rn_gi M 466 9).toNat ∧ rn_gi M 469 (rn_gi M 466 9).toNat ≤ 59) → rn_ME 192 [rn_R 466] M (fun r M1 => rn_WP 197 21 [rn_R 466] (r.toList ++ []) M1 Q)) : rn_WP 197 0 [rn_R 466] [] M Q := by
  refine (rn_step (e := (.aload_n 0, 1, 0, 0, 0, 0, 0, [])) rfl).mpr ?_
  refine (rn_step (e := (.aload_n 0, 2, 0, 0, 0, 0, 0, [])) rfl).mpr ?_
  refine (rn_step (e := (.getfield 185, 5, 10, 9, 911, 0, 11, [])) rfl).mpr (And.intro ((rn_ks466 (M := M) hM)) (?_))
  refine (rn_step (e := (.bipush 59, 7, 0, 0, 0, 0, 0, [])) rfl).mpr ?_
  refine (rn_step (e := (.bipush 59, 9, 0, 0, 0, 0, 0, [])) rfl).mpr ?_
  refine (rn_step (e := (.invokevirtual 188, 12, 191, 4, 1218, 0, 11, [0])) rfl).mpr (And.intro ((rn_ks466 (M := M) hM)) ((rc_Mo_isSort hM (hr1.1) (hr1.2) ?_)))
  refine (rn_step (e := (.ifCond .ne 5, 15, 17, 0, 0, 0, 0, [])) rfl).mpr (And.intro (fun q => ?_) (fun q => ?_))
  · have c1 := rn_b0 q
    refine (rn_step (e := (.iconst 0, 16, 0, 0, 0, 0, 0, [])) rfl).mpr ?_
    exact (rn_step (e := (.ireturn, 17, 0, 0, 0, 1, 0, [])) rfl).mpr (And.intro ((Or.inl rfl)) ((k1 c1)))
  · have c1 := rn_b1 q
    refine (rn_step (e := (.aload_n 0, 18, 0, 0, 0, 0, 0, [])) rfl).mpr ?_
    exact (rn_step (e := (.invokevirtual 194, 21, 192, 1, 1214, 0, 11, [0])) rfl).mpr (And.intro ((rn_ks466 (M := M) hM)) ((k2 c1)))
set_option maxRecDepth 4000 in
theorem rb_Mo_takesSemicolon_21 {M : rn_M} {Q : rn_Q} {vl0 : rn_V}   (k1 : Q (some (rn_I 1)) M) : rn_WP 197 21 [vl0] [] M Q := by
  refine (rn_step (e := (.iconst 1, 22, 0, 0, 0, 0, 0, [])) rfl).mpr ?_
  exact (rn_step (e := (.ireturn, 23, 0, 0, 0, 1, 0, [])) rfl).mpr (And.intro ((Or.inr rfl)) (k1))
theorem re_Mo_takesMoves {M : rn_M} {Q : rn_Q} {v0 : rn_V} (h : rn_WP 198 0 [v0, rn_J, rn_J] [] M Q) : rn_ME 198 [v0] M Q := h
set_option maxRecDepth 4000 in
theorem rb_Mo_takesMoves_0 {M : rn_M} {Q : rn_Q} {vl1 : rn_V} {vl2 : rn_V} (hM : rn_sh M)   (hr1 : (0 : Int) ≤ rn_gi M 466 9 ∧ rn_gi M 466 4 ≤ 150) (hr2 : (rn_gi M 466 9 < rn_gi M 466 4 ∧ 48 ≤ rn_gi M 469 (rn_gi M 466 9).toNat ∧ rn_gi M 469 (rn_gi M 466 9).toNat ≤ 57) → (-2147483648 : Int) ≤ (rn_gi M 466 10) - (rn_gi M 466 9) ∧ (rn_gi M 466 10) - (rn_gi M 466 9) ≤ 2147483647) (hr3 : (rn_gi M 466 9 < rn_gi M 466 4 ∧ 48 ≤ rn_gi M 469 (rn_gi M 466 9).toNat ∧ rn_gi M 469 (rn_gi M 466 9).toNat ≤ 57) → ((rn_gi M 466 10) - (rn_gi M 466 9) ≤ 60) → (-2147483648 : Int) ≤ (rn_gi M 467 0) - 1 ∧ (rn_gi M 467 0) - 1 ≤ 2147483647) (k1 : (¬ (rn_gi M 466 9 < rn_gi M 466 4 ∧ 48 ≤ rn_gi M 469 (rn_gi M 466 9).toNat ∧ rn_gi M 469 (rn_gi M 466 9).toNat ≤ 57)) → Q (some (rn_I 0)) M) (k2 : (rn_gi M 466 9 < rn_gi M 466 4 ∧ 48 ≤ rn_gi M 469 (rn_gi M 466 9).toNat ∧ rn_gi M 469 (rn_gi M 466 9).toNat ≤ 57) → ((rn_gi M 466 10) - (rn_gi M 466 9) ≤ 60) → rn_WP 198 45 [rn_R 466, rn_I ((rn_gi M 467 0) - 1), rn_I (rn_gi M 466 9)] [] M Q) (k3 : (rn_gi M 466 9 < rn_gi M 466 4 ∧ 48 ≤ rn_gi M 469 (rn_gi M 466 9).toNat ∧ rn_gi M 469 (rn_gi M 466 9).toNat ≤ 57) → (¬ ((rn_gi M 466 10) - (rn_gi M 466 9) ≤ 60)) → Q (some (rn_I 0)) M) : rn_WP 198 0 [rn_R 466, vl1, vl2] [] M Q := by
  refine (rn_step (e := (.aload_n 0, 1, 0, 0, 0, 0, 0, [])) rfl).mpr ?_
  refine (rn_step (e := (.aload_n 0, 2, 0, 0, 0, 0, 0, [])) rfl).mpr ?_
  refine (rn_step (e := (.getfield 185, 5, 10, 9, 911, 0, 11, [])) rfl).mpr (And.intro ((rn_ks466 (M := M) hM)) (?_))
  refine (rn_step (e := (.bipush 48, 7, 0, 0, 0, 0, 0, [])) rfl).mpr ?_
  refine (rn_step (e := (.bipush 57, 9, 0, 0, 0, 0, 0, [])) rfl).mpr ?_
  refine (rn_step (e := (.invokevirtual 188, 12, 191, 4, 1218, 0, 11, [0])) rfl).mpr (And.intro ((rn_ks466 (M := M) hM)) ((rc_Mo_isSort hM (hr1.1) (hr1.2) ?_)))
  refine (rn_step (e := (.ifCond .eq 17, 15, 29, 0, 0, 0, 0, [])) rfl).mpr (And.intro (fun q => ?_) (fun q => ?_))
  · have c1 := rn_b0 q
    refine (rn_step (e := (.iconst 0, 30, 0, 0, 0, 0, 0, [])) rfl).mpr ?_
    exact (rn_step (e := (.ireturn, 31, 0, 0, 0, 1, 0, [])) rfl).mpr (And.intro ((Or.inl rfl)) ((k1 c1)))
  · have c1 := rn_b1 q
    refine (rn_step (e := (.aload_n 0, 16, 0, 0, 0, 0, 0, [])) rfl).mpr ?_
    refine (rn_step (e := (.getfield 182, 19, 10, 10, 912, 0, 11, [])) rfl).mpr (And.intro ((rn_ks466 (M := M) hM)) (?_))
    refine (rn_step (e := (.aload_n 0, 20, 0, 0, 0, 0, 0, [])) rfl).mpr ?_
    refine (rn_step (e := (.getfield 185, 23, 10, 9, 911, 0, 11, [])) rfl).mpr (And.intro ((rn_ks466 (M := M) hM)) (?_))
    refine (rn_step (e := (.isub, 24, 0, 0, 0, 0, 0, [])) rfl).mpr (rn_cw (hr2 c1).1 (hr2 c1).2 ?_)
    refine (rn_step (e := (.bipush 60, 26, 0, 0, 0, 0, 0, [])) rfl).mpr ?_
    refine (rn_step (e := (.if_icmp .le 5, 29, 31, 0, 0, 0, 0, [])) rfl).mpr (And.intro (fun c2 => ?_) (fun c2 => ?_))
    ·
      refine (rn_step (e := (.aload_n 0, 32, 0, 0, 0, 0, 0, [])) rfl).mpr ?_
      refine (rn_step (e := (.getfield 7, 35, 10, 0, 902, 2, 11, [])) rfl).mpr (And.intro ((rn_ks466 (M := M) hM)) (rn_cg (rn_g466_0 (M := M) hM) ?_))
      refine (rn_step (e := (.iconst 0, 36, 0, 0, 0, 0, 0, [])) rfl).mpr ?_
      refine (rn_step (e := (.iaload, 37, 0, 0, 0, 0, 0, [])) rfl).mpr (And.intro (Or.inl (rn_w467 (M := M) hM).1) (And.intro ((And.intro ((by decide)) (rn_lt (rn_w467 (M := M) hM).2 (by decide)))) (?_)))
      refine (rn_step (e := (.iconst 1, 38, 0, 0, 0, 0, 0, [])) rfl).mpr ?_
      refine (rn_step (e := (.isub, 39, 0, 0, 0, 0, 0, [])) rfl).mpr (rn_cw (hr3 c1 c2).1 (hr3 c1 c2).2 ?_)
      refine (rn_step (e := (.istore_n 1, 40, 1, 0, 0, 0, 0, [])) rfl).mpr ?_
      refine (rn_step (e := (.aload_n 0, 41, 0, 0, 0, 0, 0, [])) rfl).mpr ?_
      refine (rn_step (e := (.getfield 185, 44, 10, 9, 911, 0, 11, [])) rfl).mpr (And.intro ((rn_ks466 (M := M) hM)) (?_))
      refine (rn_step (e := (.istore_n 2, 45, 2, 0, 0, 0, 0, [])) rfl).mpr ?_
      exact (k2 c1 c2)
    ·
      refine (rn_step (e := (.iconst 0, 30, 0, 0, 0, 0, 0, [])) rfl).mpr ?_
      exact (rn_step (e := (.ireturn, 31, 0, 0, 0, 1, 0, [])) rfl).mpr (And.intro ((Or.inl rfl)) ((k3 c1 c2)))
set_option maxRecDepth 4000 in
theorem rb_Mo_takesMoves_45 {M : rn_M} {Q : rn_Q} {xl1 : Int} {xl2 : Int} (hM : rn_sh M)   (hr1 : (xl2 < rn_gi M 466 10) → (0 : Int) ≤ xl2 ∧ xl2 < (150 : Int)) (hr2 : (xl2 < rn_gi M 466 10) → (rn_gi M 469 (xl2).toNat ≤ 55) → (0 : Int) ≤ xl2 ∧ xl2 < (150 : Int) ∧ (-2147483648 : Int) ≤ (rn_gi M 469 (xl2).toNat) - 48 ∧ (rn_gi M 469 (xl2).toNat) - 48 ≤ 2147483647) (k1 : (xl2 < rn_gi M 466 10) → (rn_gi M 469 (xl2).toNat ≤ 55) → rn_ME 141 [rn_R 466, rn_I xl1, rn_I ((rn_gi M 469 (xl2).toNat) - 48)] M (fun r M1 => rn_WP 198 80 [rn_R 466, rn_I xl1, rn_I xl2] (r.toList ++ []) M1 Q)) (k2 : (xl2 < rn_gi M 466 10) → (¬ (rn_gi M 469 (xl2).toNat ≤ 55)) → Q (some (rn_I 0)) M) (k3 : (¬ (xl2 < rn_gi M 466 10)) → rn_ME 133 [rn_R 466, rn_I xl1] M (fun r M1 => rn_WP 198 91 [rn_R 466, rn_I xl1, rn_I xl2] (r.toList ++ []) M1 Q)) : rn_WP 198 45 [rn_R 466, rn_I xl1, rn_I xl2] [] M Q := by
  refine (rn_step (e := (.iload_n 2, 46, 2, 0, 0, 0, 0, [])) rfl).mpr ?_
  refine (rn_step (e := (.aload_n 0, 47, 0, 0, 0, 0, 0, [])) rfl).mpr ?_
  refine (rn_step (e := (.getfield 182, 50, 10, 10, 912, 0, 11, [])) rfl).mpr (And.intro ((rn_ks466 (M := M) hM)) (?_))
  refine (rn_step (e := (.if_icmp .ge 36, 53, 86, 0, 0, 0, 0, [])) rfl).mpr (And.intro (fun c1 => ?_) (fun c1 => ?_))
  ·
    refine (rn_step (e := (.aload_n 0, 54, 0, 0, 0, 0, 0, [])) rfl).mpr ?_
    refine (rn_step (e := (.getfield 16, 57, 10, 3, 905, 2, 11, [])) rfl).mpr (And.intro ((rn_ks466 (M := M) hM)) (rn_cg (rn_g466_3 (M := M) hM) ?_))
    refine (rn_step (e := (.iload_n 2, 58, 2, 0, 0, 0, 0, [])) rfl).mpr ?_
    refine (rn_step (e := (.iaload, 59, 0, 0, 0, 0, 0, [])) rfl).mpr (And.intro (Or.inl (rn_w469 (M := M) hM).1) (And.intro ((And.intro ((hr1 c1).1) (rn_lt (rn_w469 (M := M) hM).2 (hr1 c1).2))) (?_)))
    refine (rn_step (e := (.bipush 55, 61, 0, 0, 0, 0, 0, [])) rfl).mpr ?_
    refine (rn_step (e := (.if_icmp .le 5, 64, 66, 0, 0, 0, 0, [])) rfl).mpr (And.intro (fun c2 => ?_) (fun c2 => ?_))
    ·
      refine (rn_step (e := (.aload_n 0, 67, 0, 0, 0, 0, 0, [])) rfl).mpr ?_
      refine (rn_step (e := (.iload_n 1, 68, 1, 0, 0, 0, 0, [])) rfl).mpr ?_
      refine (rn_step (e := (.aload_n 0, 69, 0, 0, 0, 0, 0, [])) rfl).mpr ?_
      refine (rn_step (e := (.getfield 16, 72, 10, 3, 905, 2, 11, [])) rfl).mpr (And.intro ((rn_ks466 (M := M) hM)) (rn_cg (rn_g466_3 (M := M) hM) ?_))
      refine (rn_step (e := (.iload_n 2, 73, 2, 0, 0, 0, 0, [])) rfl).mpr ?_
      refine (rn_step (e := (.iaload, 74, 0, 0, 0, 0, 0, [])) rfl).mpr (And.intro (Or.inl (rn_w469 (M := M) hM).1) (And.intro ((And.intro ((hr2 c1 c2).1) (rn_lt (rn_w469 (M := M) hM).2 (hr2 c1 c2).2.1))) (?_)))
      refine (rn_step (e := (.bipush 48, 76, 0, 0, 0, 0, 0, [])) rfl).mpr ?_
      refine (rn_step (e := (.isub, 77, 0, 0, 0, 0, 0, [])) rfl).mpr (rn_cw (hr2 c1 c2).2.2.1 (hr2 c1 c2).2.2.2 ?_)
      exact (rn_step (e := (.invokevirtual 91, 80, 141, 3, 1012, 0, 11, [0])) rfl).mpr (And.intro ((rn_ks466 (M := M) hM)) ((k1 c1 c2)))
    ·
      refine (rn_step (e := (.iconst 0, 65, 0, 0, 0, 0, 0, [])) rfl).mpr ?_
      exact (rn_step (e := (.ireturn, 66, 0, 0, 0, 1, 0, [])) rfl).mpr (And.intro ((Or.inl rfl)) ((k2 c1 c2)))
  ·
    refine (rn_step (e := (.aload_n 0, 87, 0, 0, 0, 0, 0, [])) rfl).mpr ?_
    refine (rn_step (e := (.iload_n 1, 88, 1, 0, 0, 0, 0, [])) rfl).mpr ?_
    exact (rn_step (e := (.invokevirtual 87, 91, 133, 2, 998, 0, 11, [0])) rfl).mpr (And.intro ((rn_ks466 (M := M) hM)) ((k3 c1)))
set_option maxRecDepth 4000 in
theorem rb_Mo_takesMoves_80 {M : rn_M} {Q : rn_Q} {vl0 : rn_V} {vl1 : rn_V} {xl2 : Int}   (hr1 : (-2147483648 : Int) ≤ xl2 + 1 ∧ xl2 + 1 ≤ 2147483647) (k1 : rn_WP 198 45 [vl0, vl1, rn_I (xl2 + 1)] [] M Q) : rn_WP 198 80 [vl0, vl1, rn_I xl2] [] M Q := by
  refine (rn_step (e := (.iinc 2 1, 83, 2, 0, 0, 0, 0, [])) rfl).mpr (rn_ci hr1.1 hr1.2 ?_)
  refine (rn_step (e := (.goto (-38), 86, 45, 0, 0, 0, 0, [])) rfl).mpr ?_
  exact k1
set_option maxRecDepth 4000 in
theorem rb_Mo_takesMoves_91 {M : rn_M} {Q : rn_Q} {vl0 : rn_V} {vl1 : rn_V} {vl2 : rn_V}   (k1 : rn_WP 198 93 [vl0, vl1, rn_I 0] [] M Q) : rn_WP 198 91 [vl0, vl1, vl2] [] M Q := by
  refine (rn_step (e := (.iconst 0, 92, 0, 0, 0, 0, 0, [])) rfl).mpr ?_
  refine (rn_step (e := (.istore_n 2, 93, 2, 0, 0, 0, 0, [])) rfl).mpr ?_
  exact k1
set_option maxRecDepth 4000 in
theorem rb_Mo_takesMoves_93 {M : rn_M} {Q : rn_Q} {xl1 : Int} {xl2 : Int} (hM : rn_sh M)   (hr1 : ((0 : Int) ≤ xl1 ∧ (xl1 : Int) ≤ 5) ∧ ((0 : Int) ≤ 5 ∧ (5 : Int) ≤ 77)) (hr2 : (¬ (rn_o (rn_gi M 467) xl1 5 < xl2)) → (0 : Int) ≤ xl2 ∧ xl2 < (61 : Int)) (hr3 : (¬ (rn_o (rn_gi M 467) xl1 5 < xl2)) → ((0 ≤ rn_gi M 470 (xl2).toNat ∧ rn_gi M 470 (xl2).toNat < 60) ∧ 0 ≤ rn_gi M 471 (xl2).toNat ∧ rn_gi M 471 (xl2).toNat < 40) → (-2147483648 : Int) ≤ xl2 + 1 ∧ xl2 + 1 ≤ 2147483647) (k1 : (rn_o (rn_gi M 467) xl1 5 < xl2) → rn_ME 192 [rn_R 466] M (fun r M1 => rn_WP 198 133 [rn_R 466, rn_I xl1, rn_I xl2] (r.toList ++ []) M1 Q)) (k2 : (¬ (rn_o (rn_gi M 467) xl1 5 < xl2)) → (¬ ((0 ≤ rn_gi M 470 (xl2).toNat ∧ rn_gi M 470 (xl2).toNat < 60) ∧ 0 ≤ rn_gi M 471 (xl2).toNat ∧ rn_gi M 471 (xl2).toNat < 40)) → Q (some (rn_I 0)) M) (k3 : (¬ (rn_o (rn_gi M 467) xl1 5 < xl2)) → ((0 ≤ rn_gi M 470 (xl2).toNat ∧ rn_gi M 470 (xl2).toNat < 60) ∧ 0 ≤ rn_gi M 471 (xl2).toNat ∧ rn_gi M 471 (xl2).toNat < 40) → rn_WP 198 93 [rn_R 466, rn_I xl1, rn_I (xl2 + 1)] [] M Q) : rn_WP 198 93 [rn_R 466, rn_I xl1, rn_I xl2] [] M Q := by
  refine (rn_step (e := (.iload_n 2, 94, 2, 0, 0, 0, 0, [])) rfl).mpr ?_
  refine (rn_step (e := (.aload_n 0, 95, 0, 0, 0, 0, 0, [])) rfl).mpr ?_
  refine (rn_step (e := (.iload_n 1, 96, 1, 0, 0, 0, 0, [])) rfl).mpr ?_
  refine (rn_step (e := (.iconst 5, 97, 0, 0, 0, 0, 0, [])) rfl).mpr ?_
  refine (rn_step (e := (.invokevirtual 49, 100, 129, 3, 1002, 0, 11, [0])) rfl).mpr (And.intro ((rn_ks466 (M := M) hM)) ((rc_Mo_of hM (hr1.1) (hr1.2) ?_)))
  refine (rn_step (e := (.if_icmp .gt 29, 103, 129, 0, 0, 0, 0, [])) rfl).mpr (And.intro (fun c1 => ?_) (fun c1 => ?_))
  ·
    refine (rn_step (e := (.aload_n 0, 130, 0, 0, 0, 0, 0, [])) rfl).mpr ?_
    exact (rn_step (e := (.invokevirtual 194, 133, 192, 1, 1214, 0, 11, [0])) rfl).mpr (And.intro ((rn_ks466 (M := M) hM)) ((k1 c1)))
  ·
    refine (rn_step (e := (.aload_n 0, 104, 0, 0, 0, 0, 0, [])) rfl).mpr ?_
    refine (rn_step (e := (.getfield 19, 107, 10, 5, 907, 2, 11, [])) rfl).mpr (And.intro ((rn_ks466 (M := M) hM)) (rn_cg (rn_g466_5 (M := M) hM) ?_))
    refine (rn_step (e := (.iload_n 2, 108, 2, 0, 0, 0, 0, [])) rfl).mpr ?_
    refine (rn_step (e := (.iaload, 109, 0, 0, 0, 0, 0, [])) rfl).mpr (And.intro (Or.inl (rn_w470 (M := M) hM).1) (And.intro ((And.intro ((hr2 c1).1) (rn_lt (rn_w470 (M := M) hM).2 (hr2 c1).2))) (?_)))
    refine (rn_step (e := (.aload_n 0, 110, 0, 0, 0, 0, 0, [])) rfl).mpr ?_
    refine (rn_step (e := (.getfield 22, 113, 10, 6, 908, 2, 11, [])) rfl).mpr (And.intro ((rn_ks466 (M := M) hM)) (rn_cg (rn_g466_6 (M := M) hM) ?_))
    refine (rn_step (e := (.iload_n 2, 114, 2, 0, 0, 0, 0, [])) rfl).mpr ?_
    refine (rn_step (e := (.iaload, 115, 0, 0, 0, 0, 0, [])) rfl).mpr (And.intro (Or.inl (rn_w471 (M := M) hM).1) (And.intro ((And.intro ((hr2 c1).1) (rn_lt (rn_w471 (M := M) hM).2 (hr2 c1).2))) (?_)))
    refine (rn_step (e := (.invokestatic 59, 118, 132, 2, 959, 0, 11, [0])) rfl).mpr (rc_Mo_isOnMap  ?_)
    refine (rn_step (e := (.ifCond .ne 5, 121, 123, 0, 0, 0, 0, [])) rfl).mpr (And.intro (fun q => ?_) (fun q => ?_))
    · have c2 := rn_b0 q
      refine (rn_step (e := (.iconst 0, 122, 0, 0, 0, 0, 0, [])) rfl).mpr ?_
      exact (rn_step (e := (.ireturn, 123, 0, 0, 0, 1, 0, [])) rfl).mpr (And.intro ((Or.inl rfl)) ((k2 c1 c2)))
    · have c2 := rn_b1 q
      refine (rn_step (e := (.iinc 2 1, 126, 2, 0, 0, 0, 0, [])) rfl).mpr (rn_ci (hr3 c1 c2).1 (hr3 c1 c2).2 ?_)
      refine (rn_step (e := (.goto (-33), 129, 93, 0, 0, 0, 0, [])) rfl).mpr ?_
      exact (k3 c1 c2)
set_option maxRecDepth 4000 in
theorem rb_Mo_takesMoves_133 {M : rn_M} {Q : rn_Q} {vl0 : rn_V} {vl1 : rn_V} {vl2 : rn_V}   (k1 : Q (some (rn_I 1)) M) : rn_WP 198 133 [vl0, vl1, vl2] [] M Q := by
  refine (rn_step (e := (.iconst 1, 134, 0, 0, 0, 0, 0, [])) rfl).mpr ?_
  exact (rn_step (e := (.ireturn, 135, 0, 0, 0, 1, 0, [])) rfl).mpr (And.intro ((Or.inr rfl)) (k1))
theorem re_Mo_takesRiver {M : rn_M} {Q : rn_Q} {v0 : rn_V} (h : rn_WP 199 0 [v0, rn_J, rn_J, rn_J, rn_J] [] M Q) : rn_ME 199 [v0] M Q := h
set_option maxRecDepth 4000 in
theorem rb_Mo_takesRiver_0 {M : rn_M} {Q : rn_Q} {vl1 : rn_V} {vl2 : rn_V} {vl3 : rn_V} {vl4 : rn_V} (hM : rn_sh M)   (k1 : (rn_gi M 467 0 = 6) → Q (some (rn_I 0)) M) (k2 : (¬ (rn_gi M 467 0 = 6)) → rn_ME 192 [rn_R 466] M (fun r M1 => rn_WP 199 17 [rn_R 466, vl1, vl2, vl3, vl4] (r.toList ++ []) M1 Q)) : rn_WP 199 0 [rn_R 466, vl1, vl2, vl3, vl4] [] M Q := by
  refine (rn_step (e := (.aload_n 0, 1, 0, 0, 0, 0, 0, [])) rfl).mpr ?_
  refine (rn_step (e := (.getfield 7, 4, 10, 0, 902, 2, 11, [])) rfl).mpr (And.intro ((rn_ks466 (M := M) hM)) (rn_cg (rn_g466_0 (M := M) hM) ?_))
  refine (rn_step (e := (.iconst 0, 5, 0, 0, 0, 0, 0, [])) rfl).mpr ?_
  refine (rn_step (e := (.iaload, 6, 0, 0, 0, 0, 0, [])) rfl).mpr (And.intro (Or.inl (rn_w467 (M := M) hM).1) (And.intro ((And.intro ((by decide)) (rn_lt (rn_w467 (M := M) hM).2 (by decide)))) (?_)))
  refine (rn_step (e := (.bipush 6, 8, 0, 0, 0, 0, 0, [])) rfl).mpr ?_
  refine (rn_step (e := (.if_icmp .ne 5, 11, 13, 0, 0, 0, 0, [])) rfl).mpr (And.intro (fun c1 => ?_) (fun c1 => ?_))
  ·
    refine (rn_step (e := (.iconst 0, 12, 0, 0, 0, 0, 0, [])) rfl).mpr ?_
    exact (rn_step (e := (.ireturn, 13, 0, 0, 0, 1, 0, [])) rfl).mpr (And.intro ((Or.inl rfl)) ((k1 c1)))
  ·
    refine (rn_step (e := (.aload_n 0, 14, 0, 0, 0, 0, 0, [])) rfl).mpr ?_
    exact (rn_step (e := (.invokevirtual 194, 17, 192, 1, 1214, 0, 11, [0])) rfl).mpr (And.intro ((rn_ks466 (M := M) hM)) ((k2 c1)))
set_option maxRecDepth 4000 in
theorem rb_Mo_takesRiver_17 {M : rn_M} {Q : rn_Q} {vl1 : rn_V} {vl2 : rn_V} {vl3 : rn_V} {vl4 : rn_V} (hM : rn_sh M)   (k1 : rn_ME 193 [rn_R 466] M (fun r M1 => rn_WP 199 21 [rn_R 466, vl1, vl2, vl3, vl4] (r.toList ++ []) M1 Q)) : rn_WP 199 17 [rn_R 466, vl1, vl2, vl3, vl4] [] M Q := by
  refine (rn_step (e := (.aload_n 0, 18, 0, 0, 0, 0, 0, [])) rfl).mpr ?_
  exact (rn_step (e := (.invokevirtual 197, 21, 193, 1, 1230, 0, 11, [0])) rfl).mpr (And.intro ((rn_ks466 (M := M) hM)) (k1))
set_option maxRecDepth 4000 in
theorem rb_Mo_takesRiver_21 {M : rn_M} {Q : rn_Q} {vl1 : rn_V} {vl2 : rn_V} {vl3 : rn_V} {vl4 : rn_V} {xs0 : Int} (hM : rn_sh M)   (hr1 : (¬ (xs0 = 0)) → (-2147483648 : Int) ≤ (rn_gi M 466 10) - (rn_gi M 466 9) ∧ (rn_gi M 466 10) - (rn_gi M 466 9) ≤ 2147483647) (k1 : (xs0 = 0) → Q (some (rn_I 0)) M) (k2 : (¬ (xs0 = 0)) → rn_ME 192 [rn_R 466] M (fun r M1 => rn_WP 199 45 [rn_R 466, rn_I (rn_gi M 466 9), rn_I ((rn_gi M 466 10) - (rn_gi M 466 9)), vl3, vl4] (r.toList ++ []) M1 Q)) : rn_WP 199 21 [rn_R 466, vl1, vl2, vl3, vl4] [rn_I xs0] M Q := by
  refine (rn_step (e := (.ifCond .ne 5, 24, 26, 0, 0, 0, 0, [])) rfl).mpr (And.intro (fun c1 => ?_) (fun c1 => ?_))
  ·
    refine (rn_step (e := (.iconst 0, 25, 0, 0, 0, 0, 0, [])) rfl).mpr ?_
    exact (rn_step (e := (.ireturn, 26, 0, 0, 0, 1, 0, [])) rfl).mpr (And.intro ((Or.inl rfl)) ((k1 c1)))
  ·
    refine (rn_step (e := (.aload_n 0, 27, 0, 0, 0, 0, 0, [])) rfl).mpr ?_
    refine (rn_step (e := (.getfield 185, 30, 10, 9, 911, 0, 11, [])) rfl).mpr (And.intro ((rn_ks466 (M := M) hM)) (?_))
    refine (rn_step (e := (.istore_n 1, 31, 1, 0, 0, 0, 0, [])) rfl).mpr ?_
    refine (rn_step (e := (.aload_n 0, 32, 0, 0, 0, 0, 0, [])) rfl).mpr ?_
    refine (rn_step (e := (.getfield 182, 35, 10, 10, 912, 0, 11, [])) rfl).mpr (And.intro ((rn_ks466 (M := M) hM)) (?_))
    refine (rn_step (e := (.aload_n 0, 36, 0, 0, 0, 0, 0, [])) rfl).mpr ?_
    refine (rn_step (e := (.getfield 185, 39, 10, 9, 911, 0, 11, [])) rfl).mpr (And.intro ((rn_ks466 (M := M) hM)) (?_))
    refine (rn_step (e := (.isub, 40, 0, 0, 0, 0, 0, [])) rfl).mpr (rn_cw (hr1 c1).1 (hr1 c1).2 ?_)
    refine (rn_step (e := (.istore_n 2, 41, 2, 0, 0, 0, 0, [])) rfl).mpr ?_
    refine (rn_step (e := (.aload_n 0, 42, 0, 0, 0, 0, 0, [])) rfl).mpr ?_
    exact (rn_step (e := (.invokevirtual 194, 45, 192, 1, 1214, 0, 11, [0])) rfl).mpr (And.intro ((rn_ks466 (M := M) hM)) ((k2 c1)))
set_option maxRecDepth 4000 in
theorem rb_Mo_takesRiver_45 {M : rn_M} {Q : rn_Q} {vl0 : rn_V} {vl1 : rn_V} {vl2 : rn_V} {vl3 : rn_V} {vl4 : rn_V}   (k1 : rn_WP 199 47 [vl0, vl1, vl2, rn_I 0, vl4] [] M Q) : rn_WP 199 45 [vl0, vl1, vl2, vl3, vl4] [] M Q := by
  refine (rn_step (e := (.iconst 0, 46, 0, 0, 0, 0, 0, [])) rfl).mpr ?_
  refine (rn_step (e := (.istore_n 3, 47, 3, 0, 0, 0, 0, [])) rfl).mpr ?_
  exact k1
set_option maxRecDepth 4000 in
theorem rb_Mo_takesRiver_47 {M : rn_M} {Q : rn_Q} {vl1 : rn_V} {xl2 : Int} {xl3 : Int} {vl4 : rn_V} (hM : rn_sh M)   (k1 : (xl3 < 4) → (xl3 = 2) → (xl3 = 0) → rn_ME 196 [rn_R 466, rn_I 1, rn_I 59] M (fun r M1 => rn_WP 199 96 [rn_R 466, vl1, rn_I xl2, rn_I xl3, vl4] (r.toList ++ []) M1 Q)) (k2 : (xl3 < 4) → (xl3 = 2) → (¬ (xl3 = 0)) → (xl3 = 1) → rn_ME 196 [rn_R 466, rn_I 1, rn_I 39] M (fun r M1 => rn_WP 199 96 [rn_R 466, vl1, rn_I xl2, rn_I xl3, vl4] (r.toList ++ []) M1 Q)) (k3 : (xl3 < 4) → (xl3 = 2) → (¬ (xl3 = 0)) → (¬ (xl3 = 1)) → (xl3 = 2) → rn_ME 196 [rn_R 466, rn_I 1, rn_I 9] M (fun r M1 => rn_WP 199 96 [rn_R 466, vl1, rn_I xl2, rn_I xl3, vl4] (r.toList ++ []) M1 Q)) (k4 : (xl3 < 4) → (xl3 = 2) → (¬ (xl3 = 0)) → (¬ (xl3 = 1)) → (¬ (xl3 = 2)) → rn_ME 196 [rn_R 466, rn_I 1, rn_I 2] M (fun r M1 => rn_WP 199 96 [rn_R 466, vl1, rn_I xl2, rn_I xl3, vl4] (r.toList ++ []) M1 Q)) (k5 : (xl3 < 4) → (¬ (xl3 = 2)) → (xl3 = 0) → rn_ME 196 [rn_R 466, rn_I 0, rn_I 59] M (fun r M1 => rn_WP 199 96 [rn_R 466, vl1, rn_I xl2, rn_I xl3, vl4] (r.toList ++ []) M1 Q)) (k6 : (xl3 < 4) → (¬ (xl3 = 2)) → (¬ (xl3 = 0)) → (xl3 = 1) → rn_ME 196 [rn_R 466, rn_I 0, rn_I 39] M (fun r M1 => rn_WP 199 96 [rn_R 466, vl1, rn_I xl2, rn_I xl3, vl4] (r.toList ++ []) M1 Q)) (k7 : (xl3 < 4) → (¬ (xl3 = 2)) → (¬ (xl3 = 0)) → (¬ (xl3 = 1)) → (xl3 = 2) → rn_ME 196 [rn_R 466, rn_I 0, rn_I 9] M (fun r M1 => rn_WP 199 96 [rn_R 466, vl1, rn_I xl2, rn_I xl3, vl4] (r.toList ++ []) M1 Q)) (k8 : (xl3 < 4) → (¬ (xl3 = 2)) → (¬ (xl3 = 0)) → (¬ (xl3 = 1)) → (¬ (xl3 = 2)) → rn_ME 196 [rn_R 466, rn_I 0, rn_I 2] M (fun r M1 => rn_WP 199 96 [rn_R 466, vl1, rn_I xl2, rn_I xl3, vl4] (r.toList ++ []) M1 Q)) (k9 : (¬ (xl3 < 4)) → rn_ME 136 [rn_R 466, rn_I xl2, rn_I (rn_gi M 473 0), rn_I (rn_gi M 473 1), rn_I (rn_gi M 473 2), rn_I (rn_gi M 473 3)] M (fun r M1 => rn_WP 199 146 [rn_R 466, vl1, rn_I xl2, rn_I xl3, vl4] (r.toList ++ []) M1 Q)) : rn_WP 199 47 [rn_R 466, vl1, rn_I xl2, rn_I xl3, vl4] [] M Q := by
  refine (rn_step (e := (.iload_n 3, 48, 3, 0, 0, 0, 0, [])) rfl).mpr ?_
  refine (rn_step (e := (.iconst 4, 49, 0, 0, 0, 0, 0, [])) rfl).mpr ?_
  refine (rn_step (e := (.if_icmp .ge 68, 52, 117, 0, 0, 0, 0, [])) rfl).mpr (And.intro (fun c1 => ?_) (fun c1 => ?_))
  ·
    refine (rn_step (e := (.aload_n 0, 53, 0, 0, 0, 0, 0, [])) rfl).mpr ?_
    refine (rn_step (e := (.iload_n 3, 54, 3, 0, 0, 0, 0, [])) rfl).mpr ?_
    refine (rn_step (e := (.iconst 2, 55, 0, 0, 0, 0, 0, [])) rfl).mpr ?_
    refine (rn_step (e := (.if_icmp .ne 7, 58, 62, 0, 0, 0, 0, [])) rfl).mpr (And.intro (fun c2 => ?_) (fun c2 => ?_))
    ·
      refine (rn_step (e := (.iconst 1, 59, 0, 0, 0, 0, 0, [])) rfl).mpr ?_
      refine (rn_step (e := (.goto 4, 62, 63, 0, 0, 0, 0, [])) rfl).mpr ?_
      refine (rn_step (e := (.iload_n 3, 64, 3, 0, 0, 0, 0, [])) rfl).mpr ?_
      refine (rn_step (e := (.ifCond .ne 8, 67, 72, 0, 0, 0, 0, [])) rfl).mpr (And.intro (fun c3 => ?_) (fun c3 => ?_))
      ·
        refine (rn_step (e := (.bipush 59, 69, 0, 0, 0, 0, 0, [])) rfl).mpr ?_
        refine (rn_step (e := (.goto 24, 72, 93, 0, 0, 0, 0, [])) rfl).mpr ?_
        exact (rn_step (e := (.invokevirtual 201, 96, 196, 3, 1234, 0, 11, [0])) rfl).mpr (And.intro ((rn_ks466 (M := M) hM)) ((k1 c1 c2 c3)))
      ·
        refine (rn_step (e := (.iload_n 3, 73, 3, 0, 0, 0, 0, [])) rfl).mpr ?_
        refine (rn_step (e := (.iconst 1, 74, 0, 0, 0, 0, 0, [])) rfl).mpr ?_
        refine (rn_step (e := (.if_icmp .ne 8, 77, 82, 0, 0, 0, 0, [])) rfl).mpr (And.intro (fun c4 => ?_) (fun c4 => ?_))
        ·
          refine (rn_step (e := (.bipush 39, 79, 0, 0, 0, 0, 0, [])) rfl).mpr ?_
          refine (rn_step (e := (.goto 14, 82, 93, 0, 0, 0, 0, [])) rfl).mpr ?_
          exact (rn_step (e := (.invokevirtual 201, 96, 196, 3, 1234, 0, 11, [0])) rfl).mpr (And.intro ((rn_ks466 (M := M) hM)) ((k2 c1 c2 c3 c4)))
        ·
          refine (rn_step (e := (.iload_n 3, 83, 3, 0, 0, 0, 0, [])) rfl).mpr ?_
          refine (rn_step (e := (.iconst 2, 84, 0, 0, 0, 0, 0, [])) rfl).mpr ?_
          refine (rn_step (e := (.if_icmp .ne 8, 87, 92, 0, 0, 0, 0, [])) rfl).mpr (And.intro (fun c5 => ?_) (fun c5 => ?_))
          ·
            refine (rn_step (e := (.bipush 9, 89, 0, 0, 0, 0, 0, [])) rfl).mpr ?_
            refine (rn_step (e := (.goto 4, 92, 93, 0, 0, 0, 0, [])) rfl).mpr ?_
            exact (rn_step (e := (.invokevirtual 201, 96, 196, 3, 1234, 0, 11, [0])) rfl).mpr (And.intro ((rn_ks466 (M := M) hM)) ((k3 c1 c2 c3 c4 c5)))
          ·
            refine (rn_step (e := (.iconst 2, 93, 0, 0, 0, 0, 0, [])) rfl).mpr ?_
            exact (rn_step (e := (.invokevirtual 201, 96, 196, 3, 1234, 0, 11, [0])) rfl).mpr (And.intro ((rn_ks466 (M := M) hM)) ((k4 c1 c2 c3 c4 c5)))
    ·
      refine (rn_step (e := (.iconst 0, 63, 0, 0, 0, 0, 0, [])) rfl).mpr ?_
      refine (rn_step (e := (.iload_n 3, 64, 3, 0, 0, 0, 0, [])) rfl).mpr ?_
      refine (rn_step (e := (.ifCond .ne 8, 67, 72, 0, 0, 0, 0, [])) rfl).mpr (And.intro (fun c3 => ?_) (fun c3 => ?_))
      ·
        refine (rn_step (e := (.bipush 59, 69, 0, 0, 0, 0, 0, [])) rfl).mpr ?_
        refine (rn_step (e := (.goto 24, 72, 93, 0, 0, 0, 0, [])) rfl).mpr ?_
        exact (rn_step (e := (.invokevirtual 201, 96, 196, 3, 1234, 0, 11, [0])) rfl).mpr (And.intro ((rn_ks466 (M := M) hM)) ((k5 c1 c2 c3)))
      ·
        refine (rn_step (e := (.iload_n 3, 73, 3, 0, 0, 0, 0, [])) rfl).mpr ?_
        refine (rn_step (e := (.iconst 1, 74, 0, 0, 0, 0, 0, [])) rfl).mpr ?_
        refine (rn_step (e := (.if_icmp .ne 8, 77, 82, 0, 0, 0, 0, [])) rfl).mpr (And.intro (fun c4 => ?_) (fun c4 => ?_))
        ·
          refine (rn_step (e := (.bipush 39, 79, 0, 0, 0, 0, 0, [])) rfl).mpr ?_
          refine (rn_step (e := (.goto 14, 82, 93, 0, 0, 0, 0, [])) rfl).mpr ?_
          exact (rn_step (e := (.invokevirtual 201, 96, 196, 3, 1234, 0, 11, [0])) rfl).mpr (And.intro ((rn_ks466 (M := M) hM)) ((k6 c1 c2 c3 c4)))
        ·
          refine (rn_step (e := (.iload_n 3, 83, 3, 0, 0, 0, 0, [])) rfl).mpr ?_
          refine (rn_step (e := (.iconst 2, 84, 0, 0, 0, 0, 0, [])) rfl).mpr ?_
          refine (rn_step (e := (.if_icmp .ne 8, 87, 92, 0, 0, 0, 0, [])) rfl).mpr (And.intro (fun c5 => ?_) (fun c5 => ?_))
          ·
            refine (rn_step (e := (.bipush 9, 89, 0, 0, 0, 0, 0, [])) rfl).mpr ?_
            refine (rn_step (e := (.goto 4, 92, 93, 0, 0, 0, 0, [])) rfl).mpr ?_
            exact (rn_step (e := (.invokevirtual 201, 96, 196, 3, 1234, 0, 11, [0])) rfl).mpr (And.intro ((rn_ks466 (M := M) hM)) ((k7 c1 c2 c3 c4 c5)))
          ·
            refine (rn_step (e := (.iconst 2, 93, 0, 0, 0, 0, 0, [])) rfl).mpr ?_
            exact (rn_step (e := (.invokevirtual 201, 96, 196, 3, 1234, 0, 11, [0])) rfl).mpr (And.intro ((rn_ks466 (M := M) hM)) ((k8 c1 c2 c3 c4 c5)))
  ·
    refine (rn_step (e := (.aload_n 0, 118, 0, 0, 0, 0, 0, [])) rfl).mpr ?_
    refine (rn_step (e := (.iload_n 2, 119, 2, 0, 0, 0, 0, [])) rfl).mpr ?_
    refine (rn_step (e := (.aload_n 0, 120, 0, 0, 0, 0, 0, [])) rfl).mpr ?_
    refine (rn_step (e := (.getfield 28, 123, 10, 12, 914, 2, 11, [])) rfl).mpr (And.intro ((rn_ks466 (M := M) hM)) (rn_cg (rn_g466_12 (M := M) hM) ?_))
    refine (rn_step (e := (.iconst 0, 124, 0, 0, 0, 0, 0, [])) rfl).mpr ?_
    refine (rn_step (e := (.iaload, 125, 0, 0, 0, 0, 0, [])) rfl).mpr (And.intro (Or.inl (rn_w473 (M := M) hM).1) (And.intro ((And.intro ((by decide)) (rn_lt (rn_w473 (M := M) hM).2 (by decide)))) (?_)))
    refine (rn_step (e := (.aload_n 0, 126, 0, 0, 0, 0, 0, [])) rfl).mpr ?_
    refine (rn_step (e := (.getfield 28, 129, 10, 12, 914, 2, 11, [])) rfl).mpr (And.intro ((rn_ks466 (M := M) hM)) (rn_cg (rn_g466_12 (M := M) hM) ?_))
    refine (rn_step (e := (.iconst 1, 130, 0, 0, 0, 0, 0, [])) rfl).mpr ?_
    refine (rn_step (e := (.iaload, 131, 0, 0, 0, 0, 0, [])) rfl).mpr (And.intro (Or.inl (rn_w473 (M := M) hM).1) (And.intro ((And.intro ((by decide)) (rn_lt (rn_w473 (M := M) hM).2 (by decide)))) (?_)))
    refine (rn_step (e := (.aload_n 0, 132, 0, 0, 0, 0, 0, [])) rfl).mpr ?_
    refine (rn_step (e := (.getfield 28, 135, 10, 12, 914, 2, 11, [])) rfl).mpr (And.intro ((rn_ks466 (M := M) hM)) (rn_cg (rn_g466_12 (M := M) hM) ?_))
    refine (rn_step (e := (.iconst 2, 136, 0, 0, 0, 0, 0, [])) rfl).mpr ?_
    refine (rn_step (e := (.iaload, 137, 0, 0, 0, 0, 0, [])) rfl).mpr (And.intro (Or.inl (rn_w473 (M := M) hM).1) (And.intro ((And.intro ((by decide)) (rn_lt (rn_w473 (M := M) hM).2 (by decide)))) (?_)))
    refine (rn_step (e := (.aload_n 0, 138, 0, 0, 0, 0, 0, [])) rfl).mpr ?_
    refine (rn_step (e := (.getfield 28, 141, 10, 12, 914, 2, 11, [])) rfl).mpr (And.intro ((rn_ks466 (M := M) hM)) (rn_cg (rn_g466_12 (M := M) hM) ?_))
    refine (rn_step (e := (.iconst 3, 142, 0, 0, 0, 0, 0, [])) rfl).mpr ?_
    refine (rn_step (e := (.iaload, 143, 0, 0, 0, 0, 0, [])) rfl).mpr (And.intro (Or.inl (rn_w473 (M := M) hM).1) (And.intro ((And.intro ((by decide)) (rn_lt (rn_w473 (M := M) hM).2 (by decide)))) (?_)))
    exact (rn_step (e := (.invokevirtual 73, 146, 136, 6, 972, 0, 11, [0])) rfl).mpr (And.intro ((rn_ks466 (M := M) hM)) ((k9 c1)))
set_option maxRecDepth 4000 in
theorem rb_Mo_takesRiver_96 {M : rn_M} {Q : rn_Q} {vl1 : rn_V} {vl2 : rn_V} {xl3 : Int} {vl4 : rn_V} {xs0 : Int} (hM : rn_sh M)   (hr1 : (¬ (xs0 = 0)) → (0 : Int) ≤ xl3 ∧ xl3 < (5 : Int) ∧ (-2147483648 : Int) ≤ xl3 + 1 ∧ xl3 + 1 ≤ 2147483647) (k1 : (xs0 = 0) → Q (some (rn_I 0)) M) (k2 : (¬ (xs0 = 0)) → rn_WP 199 47 [rn_R 466, vl1, vl2, rn_I (xl3 + 1), vl4] [] (rn_si M 473 (xl3).toNat (rn_gi M 466 11)) Q) : rn_WP 199 96 [rn_R 466, vl1, vl2, rn_I xl3, vl4] [rn_I xs0] M Q := by
  refine (rn_step (e := (.ifCond .ne 5, 99, 101, 0, 0, 0, 0, [])) rfl).mpr (And.intro (fun c1 => ?_) (fun c1 => ?_))
  ·
    refine (rn_step (e := (.iconst 0, 100, 0, 0, 0, 0, 0, [])) rfl).mpr ?_
    exact (rn_step (e := (.ireturn, 101, 0, 0, 0, 1, 0, [])) rfl).mpr (And.intro ((Or.inl rfl)) ((k1 c1)))
  ·
    refine (rn_step (e := (.aload_n 0, 102, 0, 0, 0, 0, 0, [])) rfl).mpr ?_
    refine (rn_step (e := (.getfield 28, 105, 10, 12, 914, 2, 11, [])) rfl).mpr (And.intro ((rn_ks466 (M := M) hM)) (rn_cg (rn_g466_12 (M := M) hM) ?_))
    refine (rn_step (e := (.iload_n 3, 106, 3, 0, 0, 0, 0, [])) rfl).mpr ?_
    refine (rn_step (e := (.aload_n 0, 107, 0, 0, 0, 0, 0, [])) rfl).mpr ?_
    refine (rn_step (e := (.getfield 191, 110, 10, 11, 913, 0, 11, [])) rfl).mpr (And.intro ((rn_ks466 (M := M) hM)) (?_))
    refine (rn_step (e := (.iastore, 111, 0, 0, 0, 0, 0, [])) rfl).mpr (And.intro ((rn_w473 (M := M) hM).1) (And.intro ((And.intro ((hr1 c1).1) (rn_lt (rn_w473 (M := M) hM).2 (hr1 c1).2.1))) (?_)))
    refine (rn_step (e := (.iinc 3 1, 114, 3, 0, 0, 0, 0, [])) rfl).mpr (rn_ci (hr1 c1).2.2.1 (hr1 c1).2.2.2 ?_)
    refine (rn_step (e := (.goto (-67), 117, 47, 0, 0, 0, 0, [])) rfl).mpr ?_
    exact (k2 c1)
set_option maxRecDepth 4000 in
theorem rb_Mo_takesRiver_146 {M : rn_M} {Q : rn_Q} {vl0 : rn_V} {vl1 : rn_V} {vl2 : rn_V} {vl3 : rn_V} {vl4 : rn_V} {xs0 : Int}   (k1 : rn_WP 199 150 [vl0, vl1, vl2, rn_I xs0, rn_I 0] [] M Q) : rn_WP 199 146 [vl0, vl1, vl2, vl3, vl4] [rn_I xs0] M Q := by
  refine (rn_step (e := (.istore_n 3, 147, 3, 0, 0, 0, 0, [])) rfl).mpr ?_
  refine (rn_step (e := (.iconst 0, 148, 0, 0, 0, 0, 0, [])) rfl).mpr ?_
  refine (rn_step (e := (.istore 4, 150, 4, 0, 0, 0, 0, [])) rfl).mpr ?_
  exact k1
set_option maxRecDepth 4000 in
theorem rb_Mo_takesRiver_150 {M : rn_M} {Q : rn_Q} {xl1 : Int} {xl2 : Int} {xl3 : Int} {xl4 : Int} (hM : rn_sh M)   (hr1 : (xl4 < xl2) → ((0 : Int) ≤ xl3 ∧ (xl3 : Int) ≤ 10) ∧ (-2147483648 : Int) ≤ (4 + 78 * xl3) + 6 ∧ (4 + 78 * xl3) + 6 ≤ 2147483647 ∧ (-2147483648 : Int) ≤ ((4 + 78 * xl3) + 6) + xl4 ∧ ((4 + 78 * xl3) + 6) + xl4 ≤ 2147483647 ∧ (-2147483648 : Int) ≤ xl1 + xl4 ∧ xl1 + xl4 ≤ 2147483647 ∧ (0 : Int) ≤ xl1 + xl4 ∧ xl1 + xl4 < (150 : Int) ∧ (0 : Int) ≤ ((4 + 78 * xl3) + 6) + xl4 ∧ ((4 + 78 * xl3) + 6) + xl4 < (562 : Int) ∧ (-2147483648 : Int) ≤ xl4 + 1 ∧ xl4 + 1 ≤ 2147483647) (k1 : (xl4 < xl2) → rn_WP 199 150 [rn_R 466, rn_I xl1, rn_I xl2, rn_I xl3, rn_I (xl4 + 1)] [] (rn_si M 467 (((4 + 78 * xl3) + 6) + xl4).toNat (rn_gi M 469 (xl1 + xl4).toNat)) Q) (k2 : (¬ (xl4 < xl2)) → rn_ME 198 [rn_R 466] M (fun r M1 => rn_WP 199 190 [rn_R 466, rn_I xl1, rn_I xl2, rn_I xl3, rn_I xl4] (r.toList ++ []) M1 Q)) : rn_WP 199 150 [rn_R 466, rn_I xl1, rn_I xl2, rn_I xl3, rn_I xl4] [] M Q := by
  refine (rn_step (e := (.iload 4, 152, 4, 0, 0, 0, 0, [])) rfl).mpr ?_
  refine (rn_step (e := (.iload_n 2, 153, 2, 0, 0, 0, 0, [])) rfl).mpr ?_
  refine (rn_step (e := (.if_icmp .ge 33, 156, 186, 0, 0, 0, 0, [])) rfl).mpr (And.intro (fun c1 => ?_) (fun c1 => ?_))
  ·
    refine (rn_step (e := (.aload_n 0, 157, 0, 0, 0, 0, 0, [])) rfl).mpr ?_
    refine (rn_step (e := (.getfield 7, 160, 10, 0, 902, 2, 11, [])) rfl).mpr (And.intro ((rn_ks466 (M := M) hM)) (rn_cg (rn_g466_0 (M := M) hM) ?_))
    refine (rn_step (e := (.iload_n 3, 161, 3, 0, 0, 0, 0, [])) rfl).mpr ?_
    refine (rn_step (e := (.invokestatic 45, 164, 128, 1, 976, 0, 11, [0])) rfl).mpr (rc_Mo_riverAt ((hr1 c1).1) ?_)
    refine (rn_step (e := (.bipush 6, 166, 0, 0, 0, 0, 0, [])) rfl).mpr ?_
    refine (rn_step (e := (.iadd, 167, 0, 0, 0, 0, 0, [])) rfl).mpr (rn_cw (hr1 c1).2.1 (hr1 c1).2.2.1 ?_)
    refine (rn_step (e := (.iload 4, 169, 4, 0, 0, 0, 0, [])) rfl).mpr ?_
    refine (rn_step (e := (.iadd, 170, 0, 0, 0, 0, 0, [])) rfl).mpr (rn_cw (hr1 c1).2.2.2.1 (hr1 c1).2.2.2.2.1 ?_)
    refine (rn_step (e := (.aload_n 0, 171, 0, 0, 0, 0, 0, [])) rfl).mpr ?_
    refine (rn_step (e := (.getfield 16, 174, 10, 3, 905, 2, 11, [])) rfl).mpr (And.intro ((rn_ks466 (M := M) hM)) (rn_cg (rn_g466_3 (M := M) hM) ?_))
    refine (rn_step (e := (.iload_n 1, 175, 1, 0, 0, 0, 0, [])) rfl).mpr ?_
    refine (rn_step (e := (.iload 4, 177, 4, 0, 0, 0, 0, [])) rfl).mpr ?_
    refine (rn_step (e := (.iadd, 178, 0, 0, 0, 0, 0, [])) rfl).mpr (rn_cw (hr1 c1).2.2.2.2.2.1 (hr1 c1).2.2.2.2.2.2.1 ?_)
    refine (rn_step (e := (.iaload, 179, 0, 0, 0, 0, 0, [])) rfl).mpr (And.intro (Or.inl (rn_w469 (M := M) hM).1) (And.intro ((And.intro ((hr1 c1).2.2.2.2.2.2.2.1) (rn_lt (rn_w469 (M := M) hM).2 (hr1 c1).2.2.2.2.2.2.2.2.1))) (?_)))
    refine (rn_step (e := (.iastore, 180, 0, 0, 0, 0, 0, [])) rfl).mpr (And.intro ((rn_w467 (M := M) hM).1) (And.intro ((And.intro ((hr1 c1).2.2.2.2.2.2.2.2.2.1) (rn_lt (rn_w467 (M := M) hM).2 (hr1 c1).2.2.2.2.2.2.2.2.2.2.1))) (?_)))
    refine (rn_step (e := (.iinc 4 1, 183, 4, 0, 0, 0, 0, [])) rfl).mpr (rn_ci (hr1 c1).2.2.2.2.2.2.2.2.2.2.2.1 (hr1 c1).2.2.2.2.2.2.2.2.2.2.2.2 ?_)
    refine (rn_step (e := (.goto (-33), 186, 150, 0, 0, 0, 0, [])) rfl).mpr ?_
    exact (k1 c1)
  ·
    refine (rn_step (e := (.aload_n 0, 187, 0, 0, 0, 0, 0, [])) rfl).mpr ?_
    exact (rn_step (e := (.invokevirtual 204, 190, 198, 1, 1238, 0, 11, [0])) rfl).mpr (And.intro ((rn_ks466 (M := M) hM)) ((k2 c1)))
set_option maxRecDepth 4000 in
theorem rb_Mo_takesRiver_190 {M : rn_M} {Q : rn_Q} {vl1 : rn_V} {vl2 : rn_V} {vl3 : rn_V} {vl4 : rn_V} {xs0 : Int} (hM : rn_sh M)   (k1 : (xs0 = 0) → Q (some (rn_I 0)) M) (k2 : (¬ (xs0 = 0)) → rn_ME 197 [rn_R 466] M (fun r M1 => rn_WP 199 197 [rn_R 466, vl1, vl2, vl3, vl4] (r.toList ++ []) M1 Q)) : rn_WP 199 190 [rn_R 466, vl1, vl2, vl3, vl4] [rn_I xs0] M Q := by
  refine (rn_step (e := (.ifCond .eq 14, 193, 204, 0, 0, 0, 0, [])) rfl).mpr (And.intro (fun c1 => ?_) (fun c1 => ?_))
  ·
    refine (rn_step (e := (.iconst 0, 205, 0, 0, 0, 0, 0, [])) rfl).mpr ?_
    exact (rn_step (e := (.ireturn, 206, 0, 0, 0, 1, 0, [])) rfl).mpr (And.intro ((Or.inl rfl)) ((k1 c1)))
  ·
    refine (rn_step (e := (.aload_n 0, 194, 0, 0, 0, 0, 0, [])) rfl).mpr ?_
    exact (rn_step (e := (.invokevirtual 207, 197, 197, 1, 1242, 0, 11, [0])) rfl).mpr (And.intro ((rn_ks466 (M := M) hM)) ((k2 c1)))
set_option maxRecDepth 4000 in
theorem rb_Mo_takesRiver_197 {M : rn_M} {Q : rn_Q} {vl0 : rn_V} {vl1 : rn_V} {vl2 : rn_V} {vl3 : rn_V} {vl4 : rn_V} {xs0 : Int}   (k1 : (xs0 = 0) → Q (some (rn_I 0)) M) (k2 : (¬ (xs0 = 0)) → Q (some (rn_I 1)) M) : rn_WP 199 197 [vl0, vl1, vl2, vl3, vl4] [rn_I xs0] M Q := by
  refine (rn_step (e := (.ifCond .eq 7, 200, 204, 0, 0, 0, 0, [])) rfl).mpr (And.intro (fun c1 => ?_) (fun c1 => ?_))
  ·
    refine (rn_step (e := (.iconst 0, 205, 0, 0, 0, 0, 0, [])) rfl).mpr ?_
    exact (rn_step (e := (.ireturn, 206, 0, 0, 0, 1, 0, [])) rfl).mpr (And.intro ((Or.inl rfl)) ((k1 c1)))
  ·
    refine (rn_step (e := (.iconst 1, 201, 0, 0, 0, 0, 0, [])) rfl).mpr ?_
    refine (rn_step (e := (.goto 4, 204, 205, 0, 0, 0, 0, [])) rfl).mpr ?_
    exact (rn_step (e := (.ireturn, 206, 0, 0, 0, 1, 0, [])) rfl).mpr (And.intro ((Or.inr rfl)) ((k2 c1)))
theorem re_Mo_takesTown {M : rn_M} {Q : rn_Q} {v0 : rn_V} (h : rn_WP 200 0 [v0, rn_J, rn_J, rn_J] [] M Q) : rn_ME 200 [v0] M Q := h
set_option maxRecDepth 4000 in
theorem rb_Mo_takesTown_0 {M : rn_M} {Q : rn_Q} {vl1 : rn_V} {vl2 : rn_V} {vl3 : rn_V} (hM : rn_sh M)   (k1 : (rn_gi M 467 1 = 10) → Q (some (rn_I 0)) M) (k2 : (¬ (rn_gi M 467 1 = 10)) → rn_ME 192 [rn_R 466] M (fun r M1 => rn_WP 200 17 [rn_R 466, vl1, vl2, vl3] (r.toList ++ []) M1 Q)) : rn_WP 200 0 [rn_R 466, vl1, vl2, vl3] [] M Q := by
  refine (rn_step (e := (.aload_n 0, 1, 0, 0, 0, 0, 0, [])) rfl).mpr ?_
  refine (rn_step (e := (.getfield 7, 4, 10, 0, 902, 2, 11, [])) rfl).mpr (And.intro ((rn_ks466 (M := M) hM)) (rn_cg (rn_g466_0 (M := M) hM) ?_))
  refine (rn_step (e := (.iconst 1, 5, 0, 0, 0, 0, 0, [])) rfl).mpr ?_
  refine (rn_step (e := (.iaload, 6, 0, 0, 0, 0, 0, [])) rfl).mpr (And.intro (Or.inl (rn_w467 (M := M) hM).1) (And.intro ((And.intro ((by decide)) (rn_lt (rn_w467 (M := M) hM).2 (by decide)))) (?_)))
  refine (rn_step (e := (.bipush 10, 8, 0, 0, 0, 0, 0, [])) rfl).mpr ?_
  refine (rn_step (e := (.if_icmp .ne 5, 11, 13, 0, 0, 0, 0, [])) rfl).mpr (And.intro (fun c1 => ?_) (fun c1 => ?_))
  ·
    refine (rn_step (e := (.iconst 0, 12, 0, 0, 0, 0, 0, [])) rfl).mpr ?_
    exact (rn_step (e := (.ireturn, 13, 0, 0, 0, 1, 0, [])) rfl).mpr (And.intro ((Or.inl rfl)) ((k1 c1)))
  ·
    refine (rn_step (e := (.aload_n 0, 14, 0, 0, 0, 0, 0, [])) rfl).mpr ?_
    exact (rn_step (e := (.invokevirtual 194, 17, 192, 1, 1214, 0, 11, [0])) rfl).mpr (And.intro ((rn_ks466 (M := M) hM)) ((k2 c1)))
set_option maxRecDepth 4000 in
theorem rb_Mo_takesTown_17 {M : rn_M} {Q : rn_Q} {vl0 : rn_V} {vl1 : rn_V} {vl2 : rn_V} {vl3 : rn_V}   (k1 : rn_WP 200 19 [vl0, rn_I 0, vl2, vl3] [] M Q) : rn_WP 200 17 [vl0, vl1, vl2, vl3] [] M Q := by
  refine (rn_step (e := (.iconst 0, 18, 0, 0, 0, 0, 0, [])) rfl).mpr ?_
  refine (rn_step (e := (.istore_n 1, 19, 1, 0, 0, 0, 0, [])) rfl).mpr ?_
  exact k1
set_option maxRecDepth 4000 in
theorem rb_Mo_takesTown_19 {M : rn_M} {Q : rn_Q} {xl1 : Int} {vl2 : rn_V} {vl3 : rn_V} (hM : rn_sh M)   (hr1 : (xl1 < 5) → (xl1 = 2) → (-2147483648 : Int) ≤ 60 - (rn_gi M 473 0) ∧ 60 - (rn_gi M 473 0) ≤ 2147483647) (hr2 : (xl1 < 5) → (¬ (xl1 = 2)) → (xl1 = 3) → (-2147483648 : Int) ≤ 40 - (rn_gi M 473 1) ∧ 40 - (rn_gi M 473 1) ≤ 2147483647) (hr3 : (¬ (xl1 < 5)) → (0 : Int) ≤ rn_gi M 466 9 ∧ rn_gi M 466 4 ≤ 150) (k1 : (xl1 < 5) → (xl1 = 2) → (xl1 = 0) → (xl1 < 2) → (59 < 60 - (rn_gi M 473 0)) → rn_ME 196 [rn_R 466, rn_I 0, rn_I 59] M (fun r M1 => rn_WP 200 126 [rn_R 466, rn_I xl1, rn_I (60 - (rn_gi M 473 0)), rn_I 59] (r.toList ++ []) M1 Q)) (k2 : (xl1 < 5) → (xl1 = 2) → (xl1 = 0) → (xl1 < 2) → (¬ (59 < 60 - (rn_gi M 473 0))) → rn_ME 196 [rn_R 466, rn_I 0, rn_I (60 - (rn_gi M 473 0))] M (fun r M1 => rn_WP 200 126 [rn_R 466, rn_I xl1, rn_I (60 - (rn_gi M 473 0)), rn_I 59] (r.toList ++ []) M1 Q)) (k3 : (xl1 < 5) → (xl1 = 2) → (xl1 = 0) → (¬ (xl1 < 2)) → (59 < 60 - (rn_gi M 473 0)) → rn_ME 196 [rn_R 466, rn_I 1, rn_I 59] M (fun r M1 => rn_WP 200 126 [rn_R 466, rn_I xl1, rn_I (60 - (rn_gi M 473 0)), rn_I 59] (r.toList ++ []) M1 Q)) (k4 : (xl1 < 5) → (xl1 = 2) → (xl1 = 0) → (¬ (xl1 < 2)) → (¬ (59 < 60 - (rn_gi M 473 0))) → rn_ME 196 [rn_R 466, rn_I 1, rn_I (60 - (rn_gi M 473 0))] M (fun r M1 => rn_WP 200 126 [rn_R 466, rn_I xl1, rn_I (60 - (rn_gi M 473 0)), rn_I 59] (r.toList ++ []) M1 Q)) (k5 : (xl1 < 5) → (xl1 = 2) → (¬ (xl1 = 0)) → (xl1 = 1) → (xl1 < 2) → (39 < 60 - (rn_gi M 473 0)) → rn_ME 196 [rn_R 466, rn_I 0, rn_I 39] M (fun r M1 => rn_WP 200 126 [rn_R 466, rn_I xl1, rn_I (60 - (rn_gi M 473 0)), rn_I 39] (r.toList ++ []) M1 Q)) (k6 : (xl1 < 5) → (xl1 = 2) → (¬ (xl1 = 0)) → (xl1 = 1) → (xl1 < 2) → (¬ (39 < 60 - (rn_gi M 473 0))) → rn_ME 196 [rn_R 466, rn_I 0, rn_I (60 - (rn_gi M 473 0))] M (fun r M1 => rn_WP 200 126 [rn_R 466, rn_I xl1, rn_I (60 - (rn_gi M 473 0)), rn_I 39] (r.toList ++ []) M1 Q)) (k7 : (xl1 < 5) → (xl1 = 2) → (¬ (xl1 = 0)) → (xl1 = 1) → (¬ (xl1 < 2)) → (39 < 60 - (rn_gi M 473 0)) → rn_ME 196 [rn_R 466, rn_I 1, rn_I 39] M (fun r M1 => rn_WP 200 126 [rn_R 466, rn_I xl1, rn_I (60 - (rn_gi M 473 0)), rn_I 39] (r.toList ++ []) M1 Q)) (k8 : (xl1 < 5) → (xl1 = 2) → (¬ (xl1 = 0)) → (xl1 = 1) → (¬ (xl1 < 2)) → (¬ (39 < 60 - (rn_gi M 473 0))) → rn_ME 196 [rn_R 466, rn_I 1, rn_I (60 - (rn_gi M 473 0))] M (fun r M1 => rn_WP 200 126 [rn_R 466, rn_I xl1, rn_I (60 - (rn_gi M 473 0)), rn_I 39] (r.toList ++ []) M1 Q)) (k9 : (xl1 < 5) → (xl1 = 2) → (¬ (xl1 = 0)) → (¬ (xl1 = 1)) → (xl1 = 2) → (xl1 < 2) → (12 < 60 - (rn_gi M 473 0)) → rn_ME 196 [rn_R 466, rn_I 0, rn_I 12] M (fun r M1 => rn_WP 200 126 [rn_R 466, rn_I xl1, rn_I (60 - (rn_gi M 473 0)), rn_I 12] (r.toList ++ []) M1 Q)) (k10 : (xl1 < 5) → (xl1 = 2) → (¬ (xl1 = 0)) → (¬ (xl1 = 1)) → (xl1 = 2) → (xl1 < 2) → (¬ (12 < 60 - (rn_gi M 473 0))) → rn_ME 196 [rn_R 466, rn_I 0, rn_I (60 - (rn_gi M 473 0))] M (fun r M1 => rn_WP 200 126 [rn_R 466, rn_I xl1, rn_I (60 - (rn_gi M 473 0)), rn_I 12] (r.toList ++ []) M1 Q)) (k11 : (xl1 < 5) → (xl1 = 2) → (¬ (xl1 = 0)) → (¬ (xl1 = 1)) → (xl1 = 2) → (¬ (xl1 < 2)) → (12 < 60 - (rn_gi M 473 0)) → rn_ME 196 [rn_R 466, rn_I 1, rn_I 12] M (fun r M1 => rn_WP 200 126 [rn_R 466, rn_I xl1, rn_I (60 - (rn_gi M 473 0)), rn_I 12] (r.toList ++ []) M1 Q)) (k12 : (xl1 < 5) → (xl1 = 2) → (¬ (xl1 = 0)) → (¬ (xl1 = 1)) → (xl1 = 2) → (¬ (xl1 < 2)) → (¬ (12 < 60 - (rn_gi M 473 0))) → rn_ME 196 [rn_R 466, rn_I 1, rn_I (60 - (rn_gi M 473 0))] M (fun r M1 => rn_WP 200 126 [rn_R 466, rn_I xl1, rn_I (60 - (rn_gi M 473 0)), rn_I 12] (r.toList ++ []) M1 Q)) (k13 : (xl1 < 5) → (xl1 = 2) → (¬ (xl1 = 0)) → (¬ (xl1 = 1)) → (¬ (xl1 = 2)) → (xl1 = 3) → (xl1 < 2) → (3 < 60 - (rn_gi M 473 0)) → rn_ME 196 [rn_R 466, rn_I 0, rn_I 3] M (fun r M1 => rn_WP 200 126 [rn_R 466, rn_I xl1, rn_I (60 - (rn_gi M 473 0)), rn_I 3] (r.toList ++ []) M1 Q)) (k14 : (xl1 < 5) → (xl1 = 2) → (¬ (xl1 = 0)) → (¬ (xl1 = 1)) → (¬ (xl1 = 2)) → (xl1 = 3) → (xl1 < 2) → (¬ (3 < 60 - (rn_gi M 473 0))) → rn_ME 196 [rn_R 466, rn_I 0, rn_I (60 - (rn_gi M 473 0))] M (fun r M1 => rn_WP 200 126 [rn_R 466, rn_I xl1, rn_I (60 - (rn_gi M 473 0)), rn_I 3] (r.toList ++ []) M1 Q)) (k15 : (xl1 < 5) → (xl1 = 2) → (¬ (xl1 = 0)) → (¬ (xl1 = 1)) → (¬ (xl1 = 2)) → (xl1 = 3) → (¬ (xl1 < 2)) → (3 < 60 - (rn_gi M 473 0)) → rn_ME 196 [rn_R 466, rn_I 1, rn_I 3] M (fun r M1 => rn_WP 200 126 [rn_R 466, rn_I xl1, rn_I (60 - (rn_gi M 473 0)), rn_I 3] (r.toList ++ []) M1 Q)) (k16 : (xl1 < 5) → (xl1 = 2) → (¬ (xl1 = 0)) → (¬ (xl1 = 1)) → (¬ (xl1 = 2)) → (xl1 = 3) → (¬ (xl1 < 2)) → (¬ (3 < 60 - (rn_gi M 473 0))) → rn_ME 196 [rn_R 466, rn_I 1, rn_I (60 - (rn_gi M 473 0))] M (fun r M1 => rn_WP 200 126 [rn_R 466, rn_I xl1, rn_I (60 - (rn_gi M 473 0)), rn_I 3] (r.toList ++ []) M1 Q)) (k17 : (xl1 < 5) → (xl1 = 2) → (¬ (xl1 = 0)) → (¬ (xl1 = 1)) → (¬ (xl1 = 2)) → (¬ (xl1 = 3)) → (xl1 < 2) → (9 < 60 - (rn_gi M 473 0)) → rn_ME 196 [rn_R 466, rn_I 0, rn_I 9] M (fun r M1 => rn_WP 200 126 [rn_R 466, rn_I xl1, rn_I (60 - (rn_gi M 473 0)), rn_I 9] (r.toList ++ []) M1 Q)) (k18 : (xl1 < 5) → (xl1 = 2) → (¬ (xl1 = 0)) → (¬ (xl1 = 1)) → (¬ (xl1 = 2)) → (¬ (xl1 = 3)) → (xl1 < 2) → (¬ (9 < 60 - (rn_gi M 473 0))) → rn_ME 196 [rn_R 466, rn_I 0, rn_I (60 - (rn_gi M 473 0))] M (fun r M1 => rn_WP 200 126 [rn_R 466, rn_I xl1, rn_I (60 - (rn_gi M 473 0)), rn_I 9] (r.toList ++ []) M1 Q)) (k19 : (xl1 < 5) → (xl1 = 2) → (¬ (xl1 = 0)) → (¬ (xl1 = 1)) → (¬ (xl1 = 2)) → (¬ (xl1 = 3)) → (¬ (xl1 < 2)) → (9 < 60 - (rn_gi M 473 0)) → rn_ME 196 [rn_R 466, rn_I 1, rn_I 9] M (fun r M1 => rn_WP 200 126 [rn_R 466, rn_I xl1, rn_I (60 - (rn_gi M 473 0)), rn_I 9] (r.toList ++ []) M1 Q)) (k20 : (xl1 < 5) → (xl1 = 2) → (¬ (xl1 = 0)) → (¬ (xl1 = 1)) → (¬ (xl1 = 2)) → (¬ (xl1 = 3)) → (¬ (xl1 < 2)) → (¬ (9 < 60 - (rn_gi M 473 0))) → rn_ME 196 [rn_R 466, rn_I 1, rn_I (60 - (rn_gi M 473 0))] M (fun r M1 => rn_WP 200 126 [rn_R 466, rn_I xl1, rn_I (60 - (rn_gi M 473 0)), rn_I 9] (r.toList ++ []) M1 Q)) (k21 : (xl1 < 5) → (¬ (xl1 = 2)) → (xl1 = 3) → (xl1 = 0) → (xl1 < 2) → (59 < 40 - (rn_gi M 473 1)) → rn_ME 196 [rn_R 466, rn_I 0, rn_I 59] M (fun r M1 => rn_WP 200 126 [rn_R 466, rn_I xl1, rn_I (40 - (rn_gi M 473 1)), rn_I 59] (r.toList ++ []) M1 Q)) (k22 : (xl1 < 5) → (¬ (xl1 = 2)) → (xl1 = 3) → (xl1 = 0) → (xl1 < 2) → (¬ (59 < 40 - (rn_gi M 473 1))) → rn_ME 196 [rn_R 466, rn_I 0, rn_I (40 - (rn_gi M 473 1))] M (fun r M1 => rn_WP 200 126 [rn_R 466, rn_I xl1, rn_I (40 - (rn_gi M 473 1)), rn_I 59] (r.toList ++ []) M1 Q)) (k23 : (xl1 < 5) → (¬ (xl1 = 2)) → (xl1 = 3) → (xl1 = 0) → (¬ (xl1 < 2)) → (59 < 40 - (rn_gi M 473 1)) → rn_ME 196 [rn_R 466, rn_I 1, rn_I 59] M (fun r M1 => rn_WP 200 126 [rn_R 466, rn_I xl1, rn_I (40 - (rn_gi M 473 1)), rn_I 59] (r.toList ++ []) M1 Q)) (k24 : (xl1 < 5) → (¬ (xl1 = 2)) → (xl1 = 3) → (xl1 = 0) → (¬ (xl1 < 2)) → (¬ (59 < 40 - (rn_gi M 473 1))) → rn_ME 196 [rn_R 466, rn_I 1, rn_I (40 - (rn_gi M 473 1))] M (fun r M1 => rn_WP 200 126 [rn_R 466, rn_I xl1, rn_I (40 - (rn_gi M 473 1)), rn_I 59] (r.toList ++ []) M1 Q)) (k25 : (xl1 < 5) → (¬ (xl1 = 2)) → (xl1 = 3) → (¬ (xl1 = 0)) → (xl1 = 1) → (xl1 < 2) → (39 < 40 - (rn_gi M 473 1)) → rn_ME 196 [rn_R 466, rn_I 0, rn_I 39] M (fun r M1 => rn_WP 200 126 [rn_R 466, rn_I xl1, rn_I (40 - (rn_gi M 473 1)), rn_I 39] (r.toList ++ []) M1 Q)) (k26 : (xl1 < 5) → (¬ (xl1 = 2)) → (xl1 = 3) → (¬ (xl1 = 0)) → (xl1 = 1) → (xl1 < 2) → (¬ (39 < 40 - (rn_gi M 473 1))) → rn_ME 196 [rn_R 466, rn_I 0, rn_I (40 - (rn_gi M 473 1))] M (fun r M1 => rn_WP 200 126 [rn_R 466, rn_I xl1, rn_I (40 - (rn_gi M 473 1)), rn_I 39] (r.toList ++ []) M1 Q)) (k27 : (xl1 < 5) → (¬ (xl1 = 2)) → (xl1 = 3) → (¬ (xl1 = 0)) → (xl1 = 1) → (¬ (xl1 < 2)) → (39 < 40 - (rn_gi M 473 1)) → rn_ME 196 [rn_R 466, rn_I 1, rn_I 39] M (fun r M1 => rn_WP 200 126 [rn_R 466, rn_I xl1, rn_I (40 - (rn_gi M 473 1)), rn_I 39] (r.toList ++ []) M1 Q)) (k28 : (xl1 < 5) → (¬ (xl1 = 2)) → (xl1 = 3) → (¬ (xl1 = 0)) → (xl1 = 1) → (¬ (xl1 < 2)) → (¬ (39 < 40 - (rn_gi M 473 1))) → rn_ME 196 [rn_R 466, rn_I 1, rn_I (40 - (rn_gi M 473 1))] M (fun r M1 => rn_WP 200 126 [rn_R 466, rn_I xl1, rn_I (40 - (rn_gi M 473 1)), rn_I 39] (r.toList ++ []) M1 Q)) (k29 : (xl1 < 5) → (¬ (xl1 = 2)) → (xl1 = 3) → (¬ (xl1 = 0)) → (¬ (xl1 = 1)) → (xl1 = 2) → (xl1 < 2) → (12 < 40 - (rn_gi M 473 1)) → rn_ME 196 [rn_R 466, rn_I 0, rn_I 12] M (fun r M1 => rn_WP 200 126 [rn_R 466, rn_I xl1, rn_I (40 - (rn_gi M 473 1)), rn_I 12] (r.toList ++ []) M1 Q)) (k30 : (xl1 < 5) → (¬ (xl1 = 2)) → (xl1 = 3) → (¬ (xl1 = 0)) → (¬ (xl1 = 1)) → (xl1 = 2) → (xl1 < 2) → (¬ (12 < 40 - (rn_gi M 473 1))) → rn_ME 196 [rn_R 466, rn_I 0, rn_I (40 - (rn_gi M 473 1))] M (fun r M1 => rn_WP 200 126 [rn_R 466, rn_I xl1, rn_I (40 - (rn_gi M 473 1)), rn_I 12] (r.toList ++ []) M1 Q)) (k31 : (xl1 < 5) → (¬ (xl1 = 2)) → (xl1 = 3) → (¬ (xl1 = 0)) → (¬ (xl1 = 1)) → (xl1 = 2) → (¬ (xl1 < 2)) → (12 < 40 - (rn_gi M 473 1)) → rn_ME 196 [rn_R 466, rn_I 1, rn_I 12] M (fun r M1 => rn_WP 200 126 [rn_R 466, rn_I xl1, rn_I (40 - (rn_gi M 473 1)), rn_I 12] (r.toList ++ []) M1 Q)) (k32 : (xl1 < 5) → (¬ (xl1 = 2)) → (xl1 = 3) → (¬ (xl1 = 0)) → (¬ (xl1 = 1)) → (xl1 = 2) → (¬ (xl1 < 2)) → (¬ (12 < 40 - (rn_gi M 473 1))) → rn_ME 196 [rn_R 466, rn_I 1, rn_I (40 - (rn_gi M 473 1))] M (fun r M1 => rn_WP 200 126 [rn_R 466, rn_I xl1, rn_I (40 - (rn_gi M 473 1)), rn_I 12] (r.toList ++ []) M1 Q)) (k33 : (xl1 < 5) → (¬ (xl1 = 2)) → (xl1 = 3) → (¬ (xl1 = 0)) → (¬ (xl1 = 1)) → (¬ (xl1 = 2)) → (xl1 = 3) → (xl1 < 2) → (3 < 40 - (rn_gi M 473 1)) → rn_ME 196 [rn_R 466, rn_I 0, rn_I 3] M (fun r M1 => rn_WP 200 126 [rn_R 466, rn_I xl1, rn_I (40 - (rn_gi M 473 1)), rn_I 3] (r.toList ++ []) M1 Q)) (k34 : (xl1 < 5) → (¬ (xl1 = 2)) → (xl1 = 3) → (¬ (xl1 = 0)) → (¬ (xl1 = 1)) → (¬ (xl1 = 2)) → (xl1 = 3) → (xl1 < 2) → (¬ (3 < 40 - (rn_gi M 473 1))) → rn_ME 196 [rn_R 466, rn_I 0, rn_I (40 - (rn_gi M 473 1))] M (fun r M1 => rn_WP 200 126 [rn_R 466, rn_I xl1, rn_I (40 - (rn_gi M 473 1)), rn_I 3] (r.toList ++ []) M1 Q)) (k35 : (xl1 < 5) → (¬ (xl1 = 2)) → (xl1 = 3) → (¬ (xl1 = 0)) → (¬ (xl1 = 1)) → (¬ (xl1 = 2)) → (xl1 = 3) → (¬ (xl1 < 2)) → (3 < 40 - (rn_gi M 473 1)) → rn_ME 196 [rn_R 466, rn_I 1, rn_I 3] M (fun r M1 => rn_WP 200 126 [rn_R 466, rn_I xl1, rn_I (40 - (rn_gi M 473 1)), rn_I 3] (r.toList ++ []) M1 Q)) (k36 : (xl1 < 5) → (¬ (xl1 = 2)) → (xl1 = 3) → (¬ (xl1 = 0)) → (¬ (xl1 = 1)) → (¬ (xl1 = 2)) → (xl1 = 3) → (¬ (xl1 < 2)) → (¬ (3 < 40 - (rn_gi M 473 1))) → rn_ME 196 [rn_R 466, rn_I 1, rn_I (40 - (rn_gi M 473 1))] M (fun r M1 => rn_WP 200 126 [rn_R 466, rn_I xl1, rn_I (40 - (rn_gi M 473 1)), rn_I 3] (r.toList ++ []) M1 Q)) (k37 : (xl1 < 5) → (¬ (xl1 = 2)) → (xl1 = 3) → (¬ (xl1 = 0)) → (¬ (xl1 = 1)) → (¬ (xl1 = 2)) → (¬ (xl1 = 3)) → (xl1 < 2) → (9 < 40 - (rn_gi M 473 1)) → rn_ME 196 [rn_R 466, rn_I 0, rn_I 9] M (fun r M1 => rn_WP 200 126 [rn_R 466, rn_I xl1, rn_I (40 - (rn_gi M 473 1)), rn_I 9] (r.toList ++ []) M1 Q)) (k38 : (xl1 < 5) → (¬ (xl1 = 2)) → (xl1 = 3) → (¬ (xl1 = 0)) → (¬ (xl1 = 1)) → (¬ (xl1 = 2)) → (¬ (xl1 = 3)) → (xl1 < 2) → (¬ (9 < 40 - (rn_gi M 473 1))) → rn_ME 196 [rn_R 466, rn_I 0, rn_I (40 - (rn_gi M 473 1))] M (fun r M1 => rn_WP 200 126 [rn_R 466, rn_I xl1, rn_I (40 - (rn_gi M 473 1)), rn_I 9] (r.toList ++ []) M1 Q)) (k39 : (xl1 < 5) → (¬ (xl1 = 2)) → (xl1 = 3) → (¬ (xl1 = 0)) → (¬ (xl1 = 1)) → (¬ (xl1 = 2)) → (¬ (xl1 = 3)) → (¬ (xl1 < 2)) → (9 < 40 - (rn_gi M 473 1)) → rn_ME 196 [rn_R 466, rn_I 1, rn_I 9] M (fun r M1 => rn_WP 200 126 [rn_R 466, rn_I xl1, rn_I (40 - (rn_gi M 473 1)), rn_I 9] (r.toList ++ []) M1 Q)) (k40 : (xl1 < 5) → (¬ (xl1 = 2)) → (xl1 = 3) → (¬ (xl1 = 0)) → (¬ (xl1 = 1)) → (¬ (xl1 = 2)) → (¬ (xl1 = 3)) → (¬ (xl1 < 2)) → (¬ (9 < 40 - (rn_gi M 473 1))) → rn_ME 196 [rn_R 466, rn_I 1, rn_I (40 - (rn_gi M 473 1))] M (fun r M1 => rn_WP 200 126 [rn_R 466, rn_I xl1, rn_I (40 - (rn_gi M 473 1)), rn_I 9] (r.toList ++ []) M1 Q)) (k41 : (xl1 < 5) → (¬ (xl1 = 2)) → (¬ (xl1 = 3)) → (xl1 = 0) → (xl1 < 2) → rn_ME 196 [rn_R 466, rn_I 0, rn_I 59] M (fun r M1 => rn_WP 200 126 [rn_R 466, rn_I xl1, rn_I 99, rn_I 59] (r.toList ++ []) M1 Q)) (k42 : (xl1 < 5) → (¬ (xl1 = 2)) → (¬ (xl1 = 3)) → (xl1 = 0) → (¬ (xl1 < 2)) → rn_ME 196 [rn_R 466, rn_I 1, rn_I 59] M (fun r M1 => rn_WP 200 126 [rn_R 466, rn_I xl1, rn_I 99, rn_I 59] (r.toList ++ []) M1 Q)) (k43 : (xl1 < 5) → (¬ (xl1 = 2)) → (¬ (xl1 = 3)) → (¬ (xl1 = 0)) → (xl1 = 1) → (xl1 < 2) → rn_ME 196 [rn_R 466, rn_I 0, rn_I 39] M (fun r M1 => rn_WP 200 126 [rn_R 466, rn_I xl1, rn_I 99, rn_I 39] (r.toList ++ []) M1 Q)) (k44 : (xl1 < 5) → (¬ (xl1 = 2)) → (¬ (xl1 = 3)) → (¬ (xl1 = 0)) → (xl1 = 1) → (¬ (xl1 < 2)) → rn_ME 196 [rn_R 466, rn_I 1, rn_I 39] M (fun r M1 => rn_WP 200 126 [rn_R 466, rn_I xl1, rn_I 99, rn_I 39] (r.toList ++ []) M1 Q)) (k45 : (xl1 < 5) → (¬ (xl1 = 2)) → (¬ (xl1 = 3)) → (¬ (xl1 = 0)) → (¬ (xl1 = 1)) → (xl1 = 2) → (xl1 < 2) → rn_ME 196 [rn_R 466, rn_I 0, rn_I 12] M (fun r M1 => rn_WP 200 126 [rn_R 466, rn_I xl1, rn_I 99, rn_I 12] (r.toList ++ []) M1 Q)) (k46 : (xl1 < 5) → (¬ (xl1 = 2)) → (¬ (xl1 = 3)) → (¬ (xl1 = 0)) → (¬ (xl1 = 1)) → (xl1 = 2) → (¬ (xl1 < 2)) → rn_ME 196 [rn_R 466, rn_I 1, rn_I 12] M (fun r M1 => rn_WP 200 126 [rn_R 466, rn_I xl1, rn_I 99, rn_I 12] (r.toList ++ []) M1 Q)) (k47 : (xl1 < 5) → (¬ (xl1 = 2)) → (¬ (xl1 = 3)) → (¬ (xl1 = 0)) → (¬ (xl1 = 1)) → (¬ (xl1 = 2)) → (xl1 = 3) → (xl1 < 2) → rn_ME 196 [rn_R 466, rn_I 0, rn_I 3] M (fun r M1 => rn_WP 200 126 [rn_R 466, rn_I xl1, rn_I 99, rn_I 3] (r.toList ++ []) M1 Q)) (k48 : (xl1 < 5) → (¬ (xl1 = 2)) → (¬ (xl1 = 3)) → (¬ (xl1 = 0)) → (¬ (xl1 = 1)) → (¬ (xl1 = 2)) → (xl1 = 3) → (¬ (xl1 < 2)) → rn_ME 196 [rn_R 466, rn_I 1, rn_I 3] M (fun r M1 => rn_WP 200 126 [rn_R 466, rn_I xl1, rn_I 99, rn_I 3] (r.toList ++ []) M1 Q)) (k49 : (xl1 < 5) → (¬ (xl1 = 2)) → (¬ (xl1 = 3)) → (¬ (xl1 = 0)) → (¬ (xl1 = 1)) → (¬ (xl1 = 2)) → (¬ (xl1 = 3)) → (xl1 < 2) → rn_ME 196 [rn_R 466, rn_I 0, rn_I 9] M (fun r M1 => rn_WP 200 126 [rn_R 466, rn_I xl1, rn_I 99, rn_I 9] (r.toList ++ []) M1 Q)) (k50 : (xl1 < 5) → (¬ (xl1 = 2)) → (¬ (xl1 = 3)) → (¬ (xl1 = 0)) → (¬ (xl1 = 1)) → (¬ (xl1 = 2)) → (¬ (xl1 = 3)) → (¬ (xl1 < 2)) → rn_ME 196 [rn_R 466, rn_I 1, rn_I 9] M (fun r M1 => rn_WP 200 126 [rn_R 466, rn_I xl1, rn_I 99, rn_I 9] (r.toList ++ []) M1 Q)) (k51 : (¬ (xl1 < 5)) → (¬ (rn_gi M 466 9 < rn_gi M 466 4 ∧ 59 ≤ rn_gi M 469 (rn_gi M 466 9).toNat ∧ rn_gi M 469 (rn_gi M 466 9).toNat ≤ 59)) → Q (some (rn_I 0)) M) (k52 : (¬ (xl1 < 5)) → (rn_gi M 466 9 < rn_gi M 466 4 ∧ 59 ≤ rn_gi M 469 (rn_gi M 466 9).toNat ∧ rn_gi M 469 (rn_gi M 466 9).toNat ≤ 59) → rn_ME 139 [rn_R 466, rn_I (rn_gi M 473 0), rn_I (rn_gi M 473 1), rn_I (rn_gi M 473 2), rn_I (rn_gi M 473 3), rn_I (rn_gi M 473 4)] M (fun r M1 => rn_WP 200 198 [rn_R 466, rn_I xl1, vl2, vl3] (r.toList ++ []) M1 Q)) : rn_WP 200 19 [rn_R 466, rn_I xl1, vl2, vl3] [] M Q := by
  refine (rn_step (e := (.iload_n 1, 20, 1, 0, 0, 0, 0, [])) rfl).mpr ?_
  refine (rn_step (e := (.iconst 5, 21, 0, 0, 0, 0, 0, [])) rfl).mpr ?_
  refine (rn_step (e := (.if_icmp .ge 126, 24, 147, 0, 0, 0, 0, [])) rfl).mpr (And.intro (fun c1 => ?_) (fun c1 => ?_))
  ·
    refine (rn_step (e := (.iload_n 1, 25, 1, 0, 0, 0, 0, [])) rfl).mpr ?_
    refine (rn_step (e := (.iconst 2, 26, 0, 0, 0, 0, 0, [])) rfl).mpr ?_
    refine (rn_step (e := (.if_icmp .ne 15, 29, 41, 0, 0, 0, 0, [])) rfl).mpr (And.intro (fun c2 => ?_) (fun c2 => ?_))
    ·
      refine (rn_step (e := (.bipush 60, 31, 0, 0, 0, 0, 0, [])) rfl).mpr ?_
      refine (rn_step (e := (.aload_n 0, 32, 0, 0, 0, 0, 0, [])) rfl).mpr ?_
      refine (rn_step (e := (.getfield 28, 35, 10, 12, 914, 2, 11, [])) rfl).mpr (And.intro ((rn_ks466 (M := M) hM)) (rn_cg (rn_g466_12 (M := M) hM) ?_))
      refine (rn_step (e := (.iconst 0, 36, 0, 0, 0, 0, 0, [])) rfl).mpr ?_
      refine (rn_step (e := (.iaload, 37, 0, 0, 0, 0, 0, [])) rfl).mpr (And.intro (Or.inl (rn_w473 (M := M) hM).1) (And.intro ((And.intro ((by decide)) (rn_lt (rn_w473 (M := M) hM).2 (by decide)))) (?_)))
      refine (rn_step (e := (.isub, 38, 0, 0, 0, 0, 0, [])) rfl).mpr (rn_cw (hr1 c1 c2).1 (hr1 c1 c2).2 ?_)
      refine (rn_step (e := (.goto 22, 41, 60, 0, 0, 0, 0, [])) rfl).mpr ?_
      refine (rn_step (e := (.istore_n 2, 61, 2, 0, 0, 0, 0, [])) rfl).mpr ?_
      refine (rn_step (e := (.iload_n 1, 62, 1, 0, 0, 0, 0, [])) rfl).mpr ?_
      refine (rn_step (e := (.ifCond .ne 8, 65, 70, 0, 0, 0, 0, [])) rfl).mpr (And.intro (fun c3 => ?_) (fun c3 => ?_))
      ·
        refine (rn_step (e := (.bipush 59, 67, 0, 0, 0, 0, 0, [])) rfl).mpr ?_
        refine (rn_step (e := (.goto 34, 70, 101, 0, 0, 0, 0, [])) rfl).mpr ?_
        refine (rn_step (e := (.istore_n 3, 102, 3, 0, 0, 0, 0, [])) rfl).mpr ?_
        refine (rn_step (e := (.aload_n 0, 103, 0, 0, 0, 0, 0, [])) rfl).mpr ?_
        refine (rn_step (e := (.iload_n 1, 104, 1, 0, 0, 0, 0, [])) rfl).mpr ?_
        refine (rn_step (e := (.iconst 2, 105, 0, 0, 0, 0, 0, [])) rfl).mpr ?_
        refine (rn_step (e := (.if_icmp .ge 7, 108, 112, 0, 0, 0, 0, [])) rfl).mpr (And.intro (fun c4 => ?_) (fun c4 => ?_))
        ·
          refine (rn_step (e := (.iconst 0, 109, 0, 0, 0, 0, 0, [])) rfl).mpr ?_
          refine (rn_step (e := (.goto 4, 112, 113, 0, 0, 0, 0, [])) rfl).mpr ?_
          refine (rn_step (e := (.iload_n 3, 114, 3, 0, 0, 0, 0, [])) rfl).mpr ?_
          refine (rn_step (e := (.iload_n 2, 115, 2, 0, 0, 0, 0, [])) rfl).mpr ?_
          refine (rn_step (e := (.if_icmp .ge 7, 118, 122, 0, 0, 0, 0, [])) rfl).mpr (And.intro (fun c5 => ?_) (fun c5 => ?_))
          ·
            refine (rn_step (e := (.iload_n 3, 119, 3, 0, 0, 0, 0, [])) rfl).mpr ?_
            refine (rn_step (e := (.goto 4, 122, 123, 0, 0, 0, 0, [])) rfl).mpr ?_
            exact (rn_step (e := (.invokevirtual 201, 126, 196, 3, 1234, 0, 11, [0])) rfl).mpr (And.intro ((rn_ks466 (M := M) hM)) ((k1 c1 c2 c3 c4 c5)))
          ·
            refine (rn_step (e := (.iload_n 2, 123, 2, 0, 0, 0, 0, [])) rfl).mpr ?_
            exact (rn_step (e := (.invokevirtual 201, 126, 196, 3, 1234, 0, 11, [0])) rfl).mpr (And.intro ((rn_ks466 (M := M) hM)) ((k2 c1 c2 c3 c4 c5)))
        ·
          refine (rn_step (e := (.iconst 1, 113, 0, 0, 0, 0, 0, [])) rfl).mpr ?_
          refine (rn_step (e := (.iload_n 3, 114, 3, 0, 0, 0, 0, [])) rfl).mpr ?_
          refine (rn_step (e := (.iload_n 2, 115, 2, 0, 0, 0, 0, [])) rfl).mpr ?_
          refine (rn_step (e := (.if_icmp .ge 7, 118, 122, 0, 0, 0, 0, [])) rfl).mpr (And.intro (fun c5 => ?_) (fun c5 => ?_))
          ·
            refine (rn_step (e := (.iload_n 3, 119, 3, 0, 0, 0, 0, [])) rfl).mpr ?_
            refine (rn_step (e := (.goto 4, 122, 123, 0, 0, 0, 0, [])) rfl).mpr ?_
            exact (rn_step (e := (.invokevirtual 201, 126, 196, 3, 1234, 0, 11, [0])) rfl).mpr (And.intro ((rn_ks466 (M := M) hM)) ((k3 c1 c2 c3 c4 c5)))
          ·
            refine (rn_step (e := (.iload_n 2, 123, 2, 0, 0, 0, 0, [])) rfl).mpr ?_
            exact (rn_step (e := (.invokevirtual 201, 126, 196, 3, 1234, 0, 11, [0])) rfl).mpr (And.intro ((rn_ks466 (M := M) hM)) ((k4 c1 c2 c3 c4 c5)))
      ·
        refine (rn_step (e := (.iload_n 1, 71, 1, 0, 0, 0, 0, [])) rfl).mpr ?_
        refine (rn_step (e := (.iconst 1, 72, 0, 0, 0, 0, 0, [])) rfl).mpr ?_
        refine (rn_step (e := (.if_icmp .ne 8, 75, 80, 0, 0, 0, 0, [])) rfl).mpr (And.intro (fun c4 => ?_) (fun c4 => ?_))
        ·
          refine (rn_step (e := (.bipush 39, 77, 0, 0, 0, 0, 0, [])) rfl).mpr ?_
          refine (rn_step (e := (.goto 24, 80, 101, 0, 0, 0, 0, [])) rfl).mpr ?_
          refine (rn_step (e := (.istore_n 3, 102, 3, 0, 0, 0, 0, [])) rfl).mpr ?_
          refine (rn_step (e := (.aload_n 0, 103, 0, 0, 0, 0, 0, [])) rfl).mpr ?_
          refine (rn_step (e := (.iload_n 1, 104, 1, 0, 0, 0, 0, [])) rfl).mpr ?_
          refine (rn_step (e := (.iconst 2, 105, 0, 0, 0, 0, 0, [])) rfl).mpr ?_
          refine (rn_step (e := (.if_icmp .ge 7, 108, 112, 0, 0, 0, 0, [])) rfl).mpr (And.intro (fun c5 => ?_) (fun c5 => ?_))
          ·
            refine (rn_step (e := (.iconst 0, 109, 0, 0, 0, 0, 0, [])) rfl).mpr ?_
            refine (rn_step (e := (.goto 4, 112, 113, 0, 0, 0, 0, [])) rfl).mpr ?_
            refine (rn_step (e := (.iload_n 3, 114, 3, 0, 0, 0, 0, [])) rfl).mpr ?_
            refine (rn_step (e := (.iload_n 2, 115, 2, 0, 0, 0, 0, [])) rfl).mpr ?_
            refine (rn_step (e := (.if_icmp .ge 7, 118, 122, 0, 0, 0, 0, [])) rfl).mpr (And.intro (fun c6 => ?_) (fun c6 => ?_))
            ·
              refine (rn_step (e := (.iload_n 3, 119, 3, 0, 0, 0, 0, [])) rfl).mpr ?_
              refine (rn_step (e := (.goto 4, 122, 123, 0, 0, 0, 0, [])) rfl).mpr ?_
              exact (rn_step (e := (.invokevirtual 201, 126, 196, 3, 1234, 0, 11, [0])) rfl).mpr (And.intro ((rn_ks466 (M := M) hM)) ((k5 c1 c2 c3 c4 c5 c6)))
            ·
              refine (rn_step (e := (.iload_n 2, 123, 2, 0, 0, 0, 0, [])) rfl).mpr ?_
              exact (rn_step (e := (.invokevirtual 201, 126, 196, 3, 1234, 0, 11, [0])) rfl).mpr (And.intro ((rn_ks466 (M := M) hM)) ((k6 c1 c2 c3 c4 c5 c6)))
          ·
            refine (rn_step (e := (.iconst 1, 113, 0, 0, 0, 0, 0, [])) rfl).mpr ?_
            refine (rn_step (e := (.iload_n 3, 114, 3, 0, 0, 0, 0, [])) rfl).mpr ?_
            refine (rn_step (e := (.iload_n 2, 115, 2, 0, 0, 0, 0, [])) rfl).mpr ?_
            refine (rn_step (e := (.if_icmp .ge 7, 118, 122, 0, 0, 0, 0, [])) rfl).mpr (And.intro (fun c6 => ?_) (fun c6 => ?_))
            ·
              refine (rn_step (e := (.iload_n 3, 119, 3, 0, 0, 0, 0, [])) rfl).mpr ?_
              refine (rn_step (e := (.goto 4, 122, 123, 0, 0, 0, 0, [])) rfl).mpr ?_
              exact (rn_step (e := (.invokevirtual 201, 126, 196, 3, 1234, 0, 11, [0])) rfl).mpr (And.intro ((rn_ks466 (M := M) hM)) ((k7 c1 c2 c3 c4 c5 c6)))
            ·
              refine (rn_step (e := (.iload_n 2, 123, 2, 0, 0, 0, 0, [])) rfl).mpr ?_
              exact (rn_step (e := (.invokevirtual 201, 126, 196, 3, 1234, 0, 11, [0])) rfl).mpr (And.intro ((rn_ks466 (M := M) hM)) ((k8 c1 c2 c3 c4 c5 c6)))
        ·
          refine (rn_step (e := (.iload_n 1, 81, 1, 0, 0, 0, 0, [])) rfl).mpr ?_
          refine (rn_step (e := (.iconst 2, 82, 0, 0, 0, 0, 0, [])) rfl).mpr ?_
          refine (rn_step (e := (.if_icmp .ne 8, 85, 90, 0, 0, 0, 0, [])) rfl).mpr (And.intro (fun c5 => ?_) (fun c5 => ?_))
          ·
            refine (rn_step (e := (.bipush 12, 87, 0, 0, 0, 0, 0, [])) rfl).mpr ?_
            refine (rn_step (e := (.goto 14, 90, 101, 0, 0, 0, 0, [])) rfl).mpr ?_
            refine (rn_step (e := (.istore_n 3, 102, 3, 0, 0, 0, 0, [])) rfl).mpr ?_
            refine (rn_step (e := (.aload_n 0, 103, 0, 0, 0, 0, 0, [])) rfl).mpr ?_
            refine (rn_step (e := (.iload_n 1, 104, 1, 0, 0, 0, 0, [])) rfl).mpr ?_
            refine (rn_step (e := (.iconst 2, 105, 0, 0, 0, 0, 0, [])) rfl).mpr ?_
            refine (rn_step (e := (.if_icmp .ge 7, 108, 112, 0, 0, 0, 0, [])) rfl).mpr (And.intro (fun c6 => ?_) (fun c6 => ?_))
            ·
              refine (rn_step (e := (.iconst 0, 109, 0, 0, 0, 0, 0, [])) rfl).mpr ?_
              refine (rn_step (e := (.goto 4, 112, 113, 0, 0, 0, 0, [])) rfl).mpr ?_
              refine (rn_step (e := (.iload_n 3, 114, 3, 0, 0, 0, 0, [])) rfl).mpr ?_
              refine (rn_step (e := (.iload_n 2, 115, 2, 0, 0, 0, 0, [])) rfl).mpr ?_
              refine (rn_step (e := (.if_icmp .ge 7, 118, 122, 0, 0, 0, 0, [])) rfl).mpr (And.intro (fun c7 => ?_) (fun c7 => ?_))
              ·
                refine (rn_step (e := (.iload_n 3, 119, 3, 0, 0, 0, 0, [])) rfl).mpr ?_
                refine (rn_step (e := (.goto 4, 122, 123, 0, 0, 0, 0, [])) rfl).mpr ?_
                exact (rn_step (e := (.invokevirtual 201, 126, 196, 3, 1234, 0, 11, [0])) rfl).mpr (And.intro ((rn_ks466 (M := M) hM)) ((k9 c1 c2 c3 c4 c5 c6 c7)))
              ·
                refine (rn_step (e := (.iload_n 2, 123, 2, 0, 0, 0, 0, [])) rfl).mpr ?_
                exact (rn_step (e := (.invokevirtual 201, 126, 196, 3, 1234, 0, 11, [0])) rfl).mpr (And.intro ((rn_ks466 (M := M) hM)) ((k10 c1 c2 c3 c4 c5 c6 c7)))
            ·
              refine (rn_step (e := (.iconst 1, 113, 0, 0, 0, 0, 0, [])) rfl).mpr ?_
              refine (rn_step (e := (.iload_n 3, 114, 3, 0, 0, 0, 0, [])) rfl).mpr ?_
              refine (rn_step (e := (.iload_n 2, 115, 2, 0, 0, 0, 0, [])) rfl).mpr ?_
              refine (rn_step (e := (.if_icmp .ge 7, 118, 122, 0, 0, 0, 0, [])) rfl).mpr (And.intro (fun c7 => ?_) (fun c7 => ?_))
              ·
                refine (rn_step (e := (.iload_n 3, 119, 3, 0, 0, 0, 0, [])) rfl).mpr ?_
                refine (rn_step (e := (.goto 4, 122, 123, 0, 0, 0, 0, [])) rfl).mpr ?_
                exact (rn_step (e := (.invokevirtual 201, 126, 196, 3, 1234, 0, 11, [0])) rfl).mpr (And.intro ((rn_ks466 (M := M) hM)) ((k11 c1 c2 c3 c4 c5 c6 c7)))
              ·
                refine (rn_step (e := (.iload_n 2, 123, 2, 0, 0, 0, 0, [])) rfl).mpr ?_
                exact (rn_step (e := (.invokevirtual 201, 126, 196, 3, 1234, 0, 11, [0])) rfl).mpr (And.intro ((rn_ks466 (M := M) hM)) ((k12 c1 c2 c3 c4 c5 c6 c7)))
          ·
            refine (rn_step (e := (.iload_n 1, 91, 1, 0, 0, 0, 0, [])) rfl).mpr ?_
            refine (rn_step (e := (.iconst 3, 92, 0, 0, 0, 0, 0, [])) rfl).mpr ?_
            refine (rn_step (e := (.if_icmp .ne 7, 95, 99, 0, 0, 0, 0, [])) rfl).mpr (And.intro (fun c6 => ?_) (fun c6 => ?_))
            ·
              refine (rn_step (e := (.iconst 3, 96, 0, 0, 0, 0, 0, [])) rfl).mpr ?_
              refine (rn_step (e := (.goto 5, 99, 101, 0, 0, 0, 0, [])) rfl).mpr ?_
              refine (rn_step (e := (.istore_n 3, 102, 3, 0, 0, 0, 0, [])) rfl).mpr ?_
              refine (rn_step (e := (.aload_n 0, 103, 0, 0, 0, 0, 0, [])) rfl).mpr ?_
              refine (rn_step (e := (.iload_n 1, 104, 1, 0, 0, 0, 0, [])) rfl).mpr ?_
              refine (rn_step (e := (.iconst 2, 105, 0, 0, 0, 0, 0, [])) rfl).mpr ?_
              refine (rn_step (e := (.if_icmp .ge 7, 108, 112, 0, 0, 0, 0, [])) rfl).mpr (And.intro (fun c7 => ?_) (fun c7 => ?_))
              ·
                refine (rn_step (e := (.iconst 0, 109, 0, 0, 0, 0, 0, [])) rfl).mpr ?_
                refine (rn_step (e := (.goto 4, 112, 113, 0, 0, 0, 0, [])) rfl).mpr ?_
                refine (rn_step (e := (.iload_n 3, 114, 3, 0, 0, 0, 0, [])) rfl).mpr ?_
                refine (rn_step (e := (.iload_n 2, 115, 2, 0, 0, 0, 0, [])) rfl).mpr ?_
                refine (rn_step (e := (.if_icmp .ge 7, 118, 122, 0, 0, 0, 0, [])) rfl).mpr (And.intro (fun c8 => ?_) (fun c8 => ?_))
                ·
                  refine (rn_step (e := (.iload_n 3, 119, 3, 0, 0, 0, 0, [])) rfl).mpr ?_
                  refine (rn_step (e := (.goto 4, 122, 123, 0, 0, 0, 0, [])) rfl).mpr ?_
                  exact (rn_step (e := (.invokevirtual 201, 126, 196, 3, 1234, 0, 11, [0])) rfl).mpr (And.intro ((rn_ks466 (M := M) hM)) ((k13 c1 c2 c3 c4 c5 c6 c7 c8)))
                ·
                  refine (rn_step (e := (.iload_n 2, 123, 2, 0, 0, 0, 0, [])) rfl).mpr ?_
                  exact (rn_step (e := (.invokevirtual 201, 126, 196, 3, 1234, 0, 11, [0])) rfl).mpr (And.intro ((rn_ks466 (M := M) hM)) ((k14 c1 c2 c3 c4 c5 c6 c7 c8)))
              ·
                refine (rn_step (e := (.iconst 1, 113, 0, 0, 0, 0, 0, [])) rfl).mpr ?_
                refine (rn_step (e := (.iload_n 3, 114, 3, 0, 0, 0, 0, [])) rfl).mpr ?_
                refine (rn_step (e := (.iload_n 2, 115, 2, 0, 0, 0, 0, [])) rfl).mpr ?_
                refine (rn_step (e := (.if_icmp .ge 7, 118, 122, 0, 0, 0, 0, [])) rfl).mpr (And.intro (fun c8 => ?_) (fun c8 => ?_))
                ·
                  refine (rn_step (e := (.iload_n 3, 119, 3, 0, 0, 0, 0, [])) rfl).mpr ?_
                  refine (rn_step (e := (.goto 4, 122, 123, 0, 0, 0, 0, [])) rfl).mpr ?_
                  exact (rn_step (e := (.invokevirtual 201, 126, 196, 3, 1234, 0, 11, [0])) rfl).mpr (And.intro ((rn_ks466 (M := M) hM)) ((k15 c1 c2 c3 c4 c5 c6 c7 c8)))
                ·
                  refine (rn_step (e := (.iload_n 2, 123, 2, 0, 0, 0, 0, [])) rfl).mpr ?_
                  exact (rn_step (e := (.invokevirtual 201, 126, 196, 3, 1234, 0, 11, [0])) rfl).mpr (And.intro ((rn_ks466 (M := M) hM)) ((k16 c1 c2 c3 c4 c5 c6 c7 c8)))
            ·
              refine (rn_step (e := (.bipush 9, 101, 0, 0, 0, 0, 0, [])) rfl).mpr ?_
              refine (rn_step (e := (.istore_n 3, 102, 3, 0, 0, 0, 0, [])) rfl).mpr ?_
              refine (rn_step (e := (.aload_n 0, 103, 0, 0, 0, 0, 0, [])) rfl).mpr ?_
              refine (rn_step (e := (.iload_n 1, 104, 1, 0, 0, 0, 0, [])) rfl).mpr ?_
              refine (rn_step (e := (.iconst 2, 105, 0, 0, 0, 0, 0, [])) rfl).mpr ?_
              refine (rn_step (e := (.if_icmp .ge 7, 108, 112, 0, 0, 0, 0, [])) rfl).mpr (And.intro (fun c7 => ?_) (fun c7 => ?_))
              ·
                refine (rn_step (e := (.iconst 0, 109, 0, 0, 0, 0, 0, [])) rfl).mpr ?_
                refine (rn_step (e := (.goto 4, 112, 113, 0, 0, 0, 0, [])) rfl).mpr ?_
                refine (rn_step (e := (.iload_n 3, 114, 3, 0, 0, 0, 0, [])) rfl).mpr ?_
                refine (rn_step (e := (.iload_n 2, 115, 2, 0, 0, 0, 0, [])) rfl).mpr ?_
                refine (rn_step (e := (.if_icmp .ge 7, 118, 122, 0, 0, 0, 0, [])) rfl).mpr (And.intro (fun c8 => ?_) (fun c8 => ?_))
                ·
                  refine (rn_step (e := (.iload_n 3, 119, 3, 0, 0, 0, 0, [])) rfl).mpr ?_
                  refine (rn_step (e := (.goto 4, 122, 123, 0, 0, 0, 0, [])) rfl).mpr ?_
                  exact (rn_step (e := (.invokevirtual 201, 126, 196, 3, 1234, 0, 11, [0])) rfl).mpr (And.intro ((rn_ks466 (M := M) hM)) ((k17 c1 c2 c3 c4 c5 c6 c7 c8)))
                ·
                  refine (rn_step (e := (.iload_n 2, 123, 2, 0, 0, 0, 0, [])) rfl).mpr ?_
                  exact (rn_step (e := (.invokevirtual 201, 126, 196, 3, 1234, 0, 11, [0])) rfl).mpr (And.intro ((rn_ks466 (M := M) hM)) ((k18 c1 c2 c3 c4 c5 c6 c7 c8)))
              ·
                refine (rn_step (e := (.iconst 1, 113, 0, 0, 0, 0, 0, [])) rfl).mpr ?_
                refine (rn_step (e := (.iload_n 3, 114, 3, 0, 0, 0, 0, [])) rfl).mpr ?_
                refine (rn_step (e := (.iload_n 2, 115, 2, 0, 0, 0, 0, [])) rfl).mpr ?_
                refine (rn_step (e := (.if_icmp .ge 7, 118, 122, 0, 0, 0, 0, [])) rfl).mpr (And.intro (fun c8 => ?_) (fun c8 => ?_))
                ·
                  refine (rn_step (e := (.iload_n 3, 119, 3, 0, 0, 0, 0, [])) rfl).mpr ?_
                  refine (rn_step (e := (.goto 4, 122, 123, 0, 0, 0, 0, [])) rfl).mpr ?_
                  exact (rn_step (e := (.invokevirtual 201, 126, 196, 3, 1234, 0, 11, [0])) rfl).mpr (And.intro ((rn_ks466 (M := M) hM)) ((k19 c1 c2 c3 c4 c5 c6 c7 c8)))
                ·
                  refine (rn_step (e := (.iload_n 2, 123, 2, 0, 0, 0, 0, [])) rfl).mpr ?_
                  exact (rn_step (e := (.invokevirtual 201, 126, 196, 3, 1234, 0, 11, [0])) rfl).mpr (And.intro ((rn_ks466 (M := M) hM)) ((k20 c1 c2 c3 c4 c5 c6 c7 c8)))
    ·
      refine (rn_step (e := (.iload_n 1, 42, 1, 0, 0, 0, 0, [])) rfl).mpr ?_
      refine (rn_step (e := (.iconst 3, 43, 0, 0, 0, 0, 0, [])) rfl).mpr ?_
      refine (rn_step (e := (.if_icmp .ne 15, 46, 58, 0, 0, 0, 0, [])) rfl).mpr (And.intro (fun c3 => ?_) (fun c3 => ?_))
      ·
        refine (rn_step (e := (.bipush 40, 48, 0, 0, 0, 0, 0, [])) rfl).mpr ?_
        refine (rn_step (e := (.aload_n 0, 49, 0, 0, 0, 0, 0, [])) rfl).mpr ?_
        refine (rn_step (e := (.getfield 28, 52, 10, 12, 914, 2, 11, [])) rfl).mpr (And.intro ((rn_ks466 (M := M) hM)) (rn_cg (rn_g466_12 (M := M) hM) ?_))
        refine (rn_step (e := (.iconst 1, 53, 0, 0, 0, 0, 0, [])) rfl).mpr ?_
        refine (rn_step (e := (.iaload, 54, 0, 0, 0, 0, 0, [])) rfl).mpr (And.intro (Or.inl (rn_w473 (M := M) hM).1) (And.intro ((And.intro ((by decide)) (rn_lt (rn_w473 (M := M) hM).2 (by decide)))) (?_)))
        refine (rn_step (e := (.isub, 55, 0, 0, 0, 0, 0, [])) rfl).mpr (rn_cw (hr2 c1 c2 c3).1 (hr2 c1 c2 c3).2 ?_)
        refine (rn_step (e := (.goto 5, 58, 60, 0, 0, 0, 0, [])) rfl).mpr ?_
        refine (rn_step (e := (.istore_n 2, 61, 2, 0, 0, 0, 0, [])) rfl).mpr ?_
        refine (rn_step (e := (.iload_n 1, 62, 1, 0, 0, 0, 0, [])) rfl).mpr ?_
        refine (rn_step (e := (.ifCond .ne 8, 65, 70, 0, 0, 0, 0, [])) rfl).mpr (And.intro (fun c4 => ?_) (fun c4 => ?_))
        ·
          refine (rn_step (e := (.bipush 59, 67, 0, 0, 0, 0, 0, [])) rfl).mpr ?_
          refine (rn_step (e := (.goto 34, 70, 101, 0, 0, 0, 0, [])) rfl).mpr ?_
          refine (rn_step (e := (.istore_n 3, 102, 3, 0, 0, 0, 0, [])) rfl).mpr ?_
          refine (rn_step (e := (.aload_n 0, 103, 0, 0, 0, 0, 0, [])) rfl).mpr ?_
          refine (rn_step (e := (.iload_n 1, 104, 1, 0, 0, 0, 0, [])) rfl).mpr ?_
          refine (rn_step (e := (.iconst 2, 105, 0, 0, 0, 0, 0, [])) rfl).mpr ?_
          refine (rn_step (e := (.if_icmp .ge 7, 108, 112, 0, 0, 0, 0, [])) rfl).mpr (And.intro (fun c5 => ?_) (fun c5 => ?_))
          ·
            refine (rn_step (e := (.iconst 0, 109, 0, 0, 0, 0, 0, [])) rfl).mpr ?_
            refine (rn_step (e := (.goto 4, 112, 113, 0, 0, 0, 0, [])) rfl).mpr ?_
            refine (rn_step (e := (.iload_n 3, 114, 3, 0, 0, 0, 0, [])) rfl).mpr ?_
            refine (rn_step (e := (.iload_n 2, 115, 2, 0, 0, 0, 0, [])) rfl).mpr ?_
            refine (rn_step (e := (.if_icmp .ge 7, 118, 122, 0, 0, 0, 0, [])) rfl).mpr (And.intro (fun c6 => ?_) (fun c6 => ?_))
            ·
              refine (rn_step (e := (.iload_n 3, 119, 3, 0, 0, 0, 0, [])) rfl).mpr ?_
              refine (rn_step (e := (.goto 4, 122, 123, 0, 0, 0, 0, [])) rfl).mpr ?_
              exact (rn_step (e := (.invokevirtual 201, 126, 196, 3, 1234, 0, 11, [0])) rfl).mpr (And.intro ((rn_ks466 (M := M) hM)) ((k21 c1 c2 c3 c4 c5 c6)))
            ·
              refine (rn_step (e := (.iload_n 2, 123, 2, 0, 0, 0, 0, [])) rfl).mpr ?_
              exact (rn_step (e := (.invokevirtual 201, 126, 196, 3, 1234, 0, 11, [0])) rfl).mpr (And.intro ((rn_ks466 (M := M) hM)) ((k22 c1 c2 c3 c4 c5 c6)))
          ·
            refine (rn_step (e := (.iconst 1, 113, 0, 0, 0, 0, 0, [])) rfl).mpr ?_
            refine (rn_step (e := (.iload_n 3, 114, 3, 0, 0, 0, 0, [])) rfl).mpr ?_
            refine (rn_step (e := (.iload_n 2, 115, 2, 0, 0, 0, 0, [])) rfl).mpr ?_
            refine (rn_step (e := (.if_icmp .ge 7, 118, 122, 0, 0, 0, 0, [])) rfl).mpr (And.intro (fun c6 => ?_) (fun c6 => ?_))
            ·
              refine (rn_step (e := (.iload_n 3, 119, 3, 0, 0, 0, 0, [])) rfl).mpr ?_
              refine (rn_step (e := (.goto 4, 122, 123, 0, 0, 0, 0, [])) rfl).mpr ?_
              exact (rn_step (e := (.invokevirtual 201, 126, 196, 3, 1234, 0, 11, [0])) rfl).mpr (And.intro ((rn_ks466 (M := M) hM)) ((k23 c1 c2 c3 c4 c5 c6)))
            ·
              refine (rn_step (e := (.iload_n 2, 123, 2, 0, 0, 0, 0, [])) rfl).mpr ?_
              exact (rn_step (e := (.invokevirtual 201, 126, 196, 3, 1234, 0, 11, [0])) rfl).mpr (And.intro ((rn_ks466 (M := M) hM)) ((k24 c1 c2 c3 c4 c5 c6)))
        ·
          refine (rn_step (e := (.iload_n 1, 71, 1, 0, 0, 0, 0, [])) rfl).mpr ?_
          refine (rn_step (e := (.iconst 1, 72, 0, 0, 0, 0, 0, [])) rfl).mpr ?_
          refine (rn_step (e := (.if_icmp .ne 8, 75, 80, 0, 0, 0, 0, [])) rfl).mpr (And.intro (fun c5 => ?_) (fun c5 => ?_))
          ·
            refine (rn_step (e := (.bipush 39, 77, 0, 0, 0, 0, 0, [])) rfl).mpr ?_
            refine (rn_step (e := (.goto 24, 80, 101, 0, 0, 0, 0, [])) rfl).mpr ?_
            refine (rn_step (e := (.istore_n 3, 102, 3, 0, 0, 0, 0, [])) rfl).mpr ?_
            refine (rn_step (e := (.aload_n 0, 103, 0, 0, 0, 0, 0, [])) rfl).mpr ?_
            refine (rn_step (e := (.iload_n 1, 104, 1, 0, 0, 0, 0, [])) rfl).mpr ?_
            refine (rn_step (e := (.iconst 2, 105, 0, 0, 0, 0, 0, [])) rfl).mpr ?_
            refine (rn_step (e := (.if_icmp .ge 7, 108, 112, 0, 0, 0, 0, [])) rfl).mpr (And.intro (fun c6 => ?_) (fun c6 => ?_))
            ·
              refine (rn_step (e := (.iconst 0, 109, 0, 0, 0, 0, 0, [])) rfl).mpr ?_
              refine (rn_step (e := (.goto 4, 112, 113, 0, 0, 0, 0, [])) rfl).mpr ?_
              refine (rn_step (e := (.iload_n 3, 114, 3, 0, 0, 0, 0, [])) rfl).mpr ?_
              refine (rn_step (e := (.iload_n 2, 115, 2, 0, 0, 0, 0, [])) rfl).mpr ?_
              refine (rn_step (e := (.if_icmp .ge 7, 118, 122, 0, 0, 0, 0, [])) rfl).mpr (And.intro (fun c7 => ?_) (fun c7 => ?_))
              ·
                refine (rn_step (e := (.iload_n 3, 119, 3, 0, 0, 0, 0, [])) rfl).mpr ?_
                refine (rn_step (e := (.goto 4, 122, 123, 0, 0, 0, 0, [])) rfl).mpr ?_
                exact (rn_step (e := (.invokevirtual 201, 126, 196, 3, 1234, 0, 11, [0])) rfl).mpr (And.intro ((rn_ks466 (M := M) hM)) ((k25 c1 c2 c3 c4 c5 c6 c7)))
              ·
                refine (rn_step (e := (.iload_n 2, 123, 2, 0, 0, 0, 0, [])) rfl).mpr ?_
                exact (rn_step (e := (.invokevirtual 201, 126, 196, 3, 1234, 0, 11, [0])) rfl).mpr (And.intro ((rn_ks466 (M := M) hM)) ((k26 c1 c2 c3 c4 c5 c6 c7)))
            ·
              refine (rn_step (e := (.iconst 1, 113, 0, 0, 0, 0, 0, [])) rfl).mpr ?_
              refine (rn_step (e := (.iload_n 3, 114, 3, 0, 0, 0, 0, [])) rfl).mpr ?_
              refine (rn_step (e := (.iload_n 2, 115, 2, 0, 0, 0, 0, [])) rfl).mpr ?_
              refine (rn_step (e := (.if_icmp .ge 7, 118, 122, 0, 0, 0, 0, [])) rfl).mpr (And.intro (fun c7 => ?_) (fun c7 => ?_))
              ·
                refine (rn_step (e := (.iload_n 3, 119, 3, 0, 0, 0, 0, [])) rfl).mpr ?_
                refine (rn_step (e := (.goto 4, 122, 123, 0, 0, 0, 0, [])) rfl).mpr ?_
                exact (rn_step (e := (.invokevirtual 201, 126, 196, 3, 1234, 0, 11, [0])) rfl).mpr (And.intro ((rn_ks466 (M := M) hM)) ((k27 c1 c2 c3 c4 c5 c6 c7)))
              ·
                refine (rn_step (e := (.iload_n 2, 123, 2, 0, 0, 0, 0, [])) rfl).mpr ?_
                exact (rn_step (e := (.invokevirtual 201, 126, 196, 3, 1234, 0, 11, [0])) rfl).mpr (And.intro ((rn_ks466 (M := M) hM)) ((k28 c1 c2 c3 c4 c5 c6 c7)))
          ·
            refine (rn_step (e := (.iload_n 1, 81, 1, 0, 0, 0, 0, [])) rfl).mpr ?_
            refine (rn_step (e := (.iconst 2, 82, 0, 0, 0, 0, 0, [])) rfl).mpr ?_
            refine (rn_step (e := (.if_icmp .ne 8, 85, 90, 0, 0, 0, 0, [])) rfl).mpr (And.intro (fun c6 => ?_) (fun c6 => ?_))
            ·
              refine (rn_step (e := (.bipush 12, 87, 0, 0, 0, 0, 0, [])) rfl).mpr ?_
              refine (rn_step (e := (.goto 14, 90, 101, 0, 0, 0, 0, [])) rfl).mpr ?_
              refine (rn_step (e := (.istore_n 3, 102, 3, 0, 0, 0, 0, [])) rfl).mpr ?_
              refine (rn_step (e := (.aload_n 0, 103, 0, 0, 0, 0, 0, [])) rfl).mpr ?_
              refine (rn_step (e := (.iload_n 1, 104, 1, 0, 0, 0, 0, [])) rfl).mpr ?_
              refine (rn_step (e := (.iconst 2, 105, 0, 0, 0, 0, 0, [])) rfl).mpr ?_
              refine (rn_step (e := (.if_icmp .ge 7, 108, 112, 0, 0, 0, 0, [])) rfl).mpr (And.intro (fun c7 => ?_) (fun c7 => ?_))
              ·
                refine (rn_step (e := (.iconst 0, 109, 0, 0, 0, 0, 0, [])) rfl).mpr ?_
                refine (rn_step (e := (.goto 4, 112, 113, 0, 0, 0, 0, [])) rfl).mpr ?_
                refine (rn_step (e := (.iload_n 3, 114, 3, 0, 0, 0, 0, [])) rfl).mpr ?_
                refine (rn_step (e := (.iload_n 2, 115, 2, 0, 0, 0, 0, [])) rfl).mpr ?_
                refine (rn_step (e := (.if_icmp .ge 7, 118, 122, 0, 0, 0, 0, [])) rfl).mpr (And.intro (fun c8 => ?_) (fun c8 => ?_))
                ·
                  refine (rn_step (e := (.iload_n 3, 119, 3, 0, 0, 0, 0, [])) rfl).mpr ?_
                  refine (rn_step (e := (.goto 4, 122, 123, 0, 0, 0, 0, [])) rfl).mpr ?_
                  exact (rn_step (e := (.invokevirtual 201, 126, 196, 3, 1234, 0, 11, [0])) rfl).mpr (And.intro ((rn_ks466 (M := M) hM)) ((k29 c1 c2 c3 c4 c5 c6 c7 c8)))
                ·
                  refine (rn_step (e := (.iload_n 2, 123, 2, 0, 0, 0, 0, [])) rfl).mpr ?_
                  exact (rn_step (e := (.invokevirtual 201, 126, 196, 3, 1234, 0, 11, [0])) rfl).mpr (And.intro ((rn_ks466 (M := M) hM)) ((k30 c1 c2 c3 c4 c5 c6 c7 c8)))
              ·
                refine (rn_step (e := (.iconst 1, 113, 0, 0, 0, 0, 0, [])) rfl).mpr ?_
                refine (rn_step (e := (.iload_n 3, 114, 3, 0, 0, 0, 0, [])) rfl).mpr ?_
                refine (rn_step (e := (.iload_n 2, 115, 2, 0, 0, 0, 0, [])) rfl).mpr ?_
                refine (rn_step (e := (.if_icmp .ge 7, 118, 122, 0, 0, 0, 0, [])) rfl).mpr (And.intro (fun c8 => ?_) (fun c8 => ?_))
                ·
                  refine (rn_step (e := (.iload_n 3, 119, 3, 0, 0, 0, 0, [])) rfl).mpr ?_
                  refine (rn_step (e := (.goto 4, 122, 123, 0, 0, 0, 0, [])) rfl).mpr ?_
                  exact (rn_step (e := (.invokevirtual 201, 126, 196, 3, 1234, 0, 11, [0])) rfl).mpr (And.intro ((rn_ks466 (M := M) hM)) ((k31 c1 c2 c3 c4 c5 c6 c7 c8)))
                ·
                  refine (rn_step (e := (.iload_n 2, 123, 2, 0, 0, 0, 0, [])) rfl).mpr ?_
                  exact (rn_step (e := (.invokevirtual 201, 126, 196, 3, 1234, 0, 11, [0])) rfl).mpr (And.intro ((rn_ks466 (M := M) hM)) ((k32 c1 c2 c3 c4 c5 c6 c7 c8)))
            ·
              refine (rn_step (e := (.iload_n 1, 91, 1, 0, 0, 0, 0, [])) rfl).mpr ?_
              refine (rn_step (e := (.iconst 3, 92, 0, 0, 0, 0, 0, [])) rfl).mpr ?_
              refine (rn_step (e := (.if_icmp .ne 7, 95, 99, 0, 0, 0, 0, [])) rfl).mpr (And.intro (fun c7 => ?_) (fun c7 => ?_))
              ·
                refine (rn_step (e := (.iconst 3, 96, 0, 0, 0, 0, 0, [])) rfl).mpr ?_
                refine (rn_step (e := (.goto 5, 99, 101, 0, 0, 0, 0, [])) rfl).mpr ?_
                refine (rn_step (e := (.istore_n 3, 102, 3, 0, 0, 0, 0, [])) rfl).mpr ?_
                refine (rn_step (e := (.aload_n 0, 103, 0, 0, 0, 0, 0, [])) rfl).mpr ?_
                refine (rn_step (e := (.iload_n 1, 104, 1, 0, 0, 0, 0, [])) rfl).mpr ?_
                refine (rn_step (e := (.iconst 2, 105, 0, 0, 0, 0, 0, [])) rfl).mpr ?_
                refine (rn_step (e := (.if_icmp .ge 7, 108, 112, 0, 0, 0, 0, [])) rfl).mpr (And.intro (fun c8 => ?_) (fun c8 => ?_))
                ·
                  refine (rn_step (e := (.iconst 0, 109, 0, 0, 0, 0, 0, [])) rfl).mpr ?_
                  refine (rn_step (e := (.goto 4, 112, 113, 0, 0, 0, 0, [])) rfl).mpr ?_
                  refine (rn_step (e := (.iload_n 3, 114, 3, 0, 0, 0, 0, [])) rfl).mpr ?_
                  refine (rn_step (e := (.iload_n 2, 115, 2, 0, 0, 0, 0, [])) rfl).mpr ?_
                  refine (rn_step (e := (.if_icmp .ge 7, 118, 122, 0, 0, 0, 0, [])) rfl).mpr (And.intro (fun c9 => ?_) (fun c9 => ?_))
                  ·
                    refine (rn_step (e := (.iload_n 3, 119, 3, 0, 0, 0, 0, [])) rfl).mpr ?_
                    refine (rn_step (e := (.goto 4, 122, 123, 0, 0, 0, 0, [])) rfl).mpr ?_
                    exact (rn_step (e := (.invokevirtual 201, 126, 196, 3, 1234, 0, 11, [0])) rfl).mpr (And.intro ((rn_ks466 (M := M) hM)) ((k33 c1 c2 c3 c4 c5 c6 c7 c8 c9)))
                  ·
                    refine (rn_step (e := (.iload_n 2, 123, 2, 0, 0, 0, 0, [])) rfl).mpr ?_
                    exact (rn_step (e := (.invokevirtual 201, 126, 196, 3, 1234, 0, 11, [0])) rfl).mpr (And.intro ((rn_ks466 (M := M) hM)) ((k34 c1 c2 c3 c4 c5 c6 c7 c8 c9)))
                ·
                  refine (rn_step (e := (.iconst 1, 113, 0, 0, 0, 0, 0, [])) rfl).mpr ?_
                  refine (rn_step (e := (.iload_n 3, 114, 3, 0, 0, 0, 0, [])) rfl).mpr ?_
                  refine (rn_step (e := (.iload_n 2, 115, 2, 0, 0, 0, 0, [])) rfl).mpr ?_
                  refine (rn_step (e := (.if_icmp .ge 7, 118, 122, 0, 0, 0, 0, [])) rfl).mpr (And.intro (fun c9 => ?_) (fun c9 => ?_))
                  ·
                    refine (rn_step (e := (.iload_n 3, 119, 3, 0, 0, 0, 0, [])) rfl).mpr ?_
                    refine (rn_step (e := (.goto 4, 122, 123, 0, 0, 0, 0, [])) rfl).mpr ?_
                    exact (rn_step (e := (.invokevirtual 201, 126, 196, 3, 1234, 0, 11, [0])) rfl).mpr (And.intro ((rn_ks466 (M := M) hM)) ((k35 c1 c2 c3 c4 c5 c6 c7 c8 c9)))
                  ·
                    refine (rn_step (e := (.iload_n 2, 123, 2, 0, 0, 0, 0, [])) rfl).mpr ?_
                    exact (rn_step (e := (.invokevirtual 201, 126, 196, 3, 1234, 0, 11, [0])) rfl).mpr (And.intro ((rn_ks466 (M := M) hM)) ((k36 c1 c2 c3 c4 c5 c6 c7 c8 c9)))
              ·
                refine (rn_step (e := (.bipush 9, 101, 0, 0, 0, 0, 0, [])) rfl).mpr ?_
                refine (rn_step (e := (.istore_n 3, 102, 3, 0, 0, 0, 0, [])) rfl).mpr ?_
                refine (rn_step (e := (.aload_n 0, 103, 0, 0, 0, 0, 0, [])) rfl).mpr ?_
                refine (rn_step (e := (.iload_n 1, 104, 1, 0, 0, 0, 0, [])) rfl).mpr ?_
                refine (rn_step (e := (.iconst 2, 105, 0, 0, 0, 0, 0, [])) rfl).mpr ?_
                refine (rn_step (e := (.if_icmp .ge 7, 108, 112, 0, 0, 0, 0, [])) rfl).mpr (And.intro (fun c8 => ?_) (fun c8 => ?_))
                ·
                  refine (rn_step (e := (.iconst 0, 109, 0, 0, 0, 0, 0, [])) rfl).mpr ?_
                  refine (rn_step (e := (.goto 4, 112, 113, 0, 0, 0, 0, [])) rfl).mpr ?_
                  refine (rn_step (e := (.iload_n 3, 114, 3, 0, 0, 0, 0, [])) rfl).mpr ?_
                  refine (rn_step (e := (.iload_n 2, 115, 2, 0, 0, 0, 0, [])) rfl).mpr ?_
                  refine (rn_step (e := (.if_icmp .ge 7, 118, 122, 0, 0, 0, 0, [])) rfl).mpr (And.intro (fun c9 => ?_) (fun c9 => ?_))
                  ·
                    refine (rn_step (e := (.iload_n 3, 119, 3, 0, 0, 0, 0, [])) rfl).mpr ?_
                    refine (rn_step (e := (.goto 4, 122, 123, 0, 0, 0, 0, [])) rfl).mpr ?_
                    exact (rn_step (e := (.invokevirtual 201, 126, 196, 3, 1234, 0, 11, [0])) rfl).mpr (And.intro ((rn_ks466 (M := M) hM)) ((k37 c1 c2 c3 c4 c5 c6 c7 c8 c9)))
                  ·
                    refine (rn_step (e := (.iload_n 2, 123, 2, 0, 0, 0, 0, [])) rfl).mpr ?_
                    exact (rn_step (e := (.invokevirtual 201, 126, 196, 3, 1234, 0, 11, [0])) rfl).mpr (And.intro ((rn_ks466 (M := M) hM)) ((k38 c1 c2 c3 c4 c5 c6 c7 c8 c9)))
                ·
                  refine (rn_step (e := (.iconst 1, 113, 0, 0, 0, 0, 0, [])) rfl).mpr ?_
                  refine (rn_step (e := (.iload_n 3, 114, 3, 0, 0, 0, 0, [])) rfl).mpr ?_
                  refine (rn_step (e := (.iload_n 2, 115, 2, 0, 0, 0, 0, [])) rfl).mpr ?_
                  refine (rn_step (e := (.if_icmp .ge 7, 118, 122, 0, 0, 0, 0, [])) rfl).mpr (And.intro (fun c9 => ?_) (fun c9 => ?_))
                  ·
                    refine (rn_step (e := (.iload_n 3, 119, 3, 0, 0, 0, 0, [])) rfl).mpr ?_
                    refine (rn_step (e := (.goto 4, 122, 123, 0, 0, 0, 0, [])) rfl).mpr ?_
                    exact (rn_step (e := (.invokevirtual 201, 126, 196, 3, 1234, 0, 11, [0])) rfl).mpr (And.intro ((rn_ks466 (M := M) hM)) ((k39 c1 c2 c3 c4 c5 c6 c7 c8 c9)))
                  ·
                    refine (rn_step (e := (.iload_n 2, 123, 2, 0, 0, 0, 0, [])) rfl).mpr ?_
                    exact (rn_step (e := (.invokevirtual 201, 126, 196, 3, 1234, 0, 11, [0])) rfl).mpr (And.intro ((rn_ks466 (M := M) hM)) ((k40 c1 c2 c3 c4 c5 c6 c7 c8 c9)))
      ·
        refine (rn_step (e := (.bipush 99, 60, 0, 0, 0, 0, 0, [])) rfl).mpr ?_
        refine (rn_step (e := (.istore_n 2, 61, 2, 0, 0, 0, 0, [])) rfl).mpr ?_
        refine (rn_step (e := (.iload_n 1, 62, 1, 0, 0, 0, 0, [])) rfl).mpr ?_
        refine (rn_step (e := (.ifCond .ne 8, 65, 70, 0, 0, 0, 0, [])) rfl).mpr (And.intro (fun c4 => ?_) (fun c4 => ?_))
        ·
          refine (rn_step (e := (.bipush 59, 67, 0, 0, 0, 0, 0, [])) rfl).mpr ?_
          refine (rn_step (e := (.goto 34, 70, 101, 0, 0, 0, 0, [])) rfl).mpr ?_
          refine (rn_step (e := (.istore_n 3, 102, 3, 0, 0, 0, 0, [])) rfl).mpr ?_
          refine (rn_step (e := (.aload_n 0, 103, 0, 0, 0, 0, 0, [])) rfl).mpr ?_
          refine (rn_step (e := (.iload_n 1, 104, 1, 0, 0, 0, 0, [])) rfl).mpr ?_
          refine (rn_step (e := (.iconst 2, 105, 0, 0, 0, 0, 0, [])) rfl).mpr ?_
          refine (rn_step (e := (.if_icmp .ge 7, 108, 112, 0, 0, 0, 0, [])) rfl).mpr (And.intro (fun c5 => ?_) (fun c5 => ?_))
          ·
            refine (rn_step (e := (.iconst 0, 109, 0, 0, 0, 0, 0, [])) rfl).mpr ?_
            refine (rn_step (e := (.goto 4, 112, 113, 0, 0, 0, 0, [])) rfl).mpr ?_
            refine (rn_step (e := (.iload_n 3, 114, 3, 0, 0, 0, 0, [])) rfl).mpr ?_
            refine (rn_step (e := (.iload_n 2, 115, 2, 0, 0, 0, 0, [])) rfl).mpr ?_
            refine (rn_step (e := (.if_icmp .ge 7, 118, 122, 0, 0, 0, 0, [])) rfl).mpr (And.intro (fun q => ?_) (fun q => absurd (by decide) q))
            refine (rn_step (e := (.iload_n 3, 119, 3, 0, 0, 0, 0, [])) rfl).mpr ?_
            refine (rn_step (e := (.goto 4, 122, 123, 0, 0, 0, 0, [])) rfl).mpr ?_
            exact (rn_step (e := (.invokevirtual 201, 126, 196, 3, 1234, 0, 11, [0])) rfl).mpr (And.intro ((rn_ks466 (M := M) hM)) ((k41 c1 c2 c3 c4 c5)))
          ·
            refine (rn_step (e := (.iconst 1, 113, 0, 0, 0, 0, 0, [])) rfl).mpr ?_
            refine (rn_step (e := (.iload_n 3, 114, 3, 0, 0, 0, 0, [])) rfl).mpr ?_
            refine (rn_step (e := (.iload_n 2, 115, 2, 0, 0, 0, 0, [])) rfl).mpr ?_
            refine (rn_step (e := (.if_icmp .ge 7, 118, 122, 0, 0, 0, 0, [])) rfl).mpr (And.intro (fun q => ?_) (fun q => absurd (by decide) q))
            refine (rn_step (e := (.iload_n 3, 119, 3, 0, 0, 0, 0, [])) rfl).mpr ?_
            refine (rn_step (e := (.goto 4, 122, 123, 0, 0, 0, 0, [])) rfl).mpr ?_
            exact (rn_step (e := (.invokevirtual 201, 126, 196, 3, 1234, 0, 11, [0])) rfl).mpr (And.intro ((rn_ks466 (M := M) hM)) ((k42 c1 c2 c3 c4 c5)))
        ·
          refine (rn_step (e := (.iload_n 1, 71, 1, 0, 0, 0, 0, [])) rfl).mpr ?_
          refine (rn_step (e := (.iconst 1, 72, 0, 0, 0, 0, 0, [])) rfl).mpr ?_
          refine (rn_step (e := (.if_icmp .ne 8, 75, 80, 0, 0, 0, 0, [])) rfl).mpr (And.intro (fun c5 => ?_) (fun c5 => ?_))
          ·
            refine (rn_step (e := (.bipush 39, 77, 0, 0, 0, 0, 0, [])) rfl).mpr ?_
            refine (rn_step (e := (.goto 24, 80, 101, 0, 0, 0, 0, [])) rfl).mpr ?_
            refine (rn_step (e := (.istore_n 3, 102, 3, 0, 0, 0, 0, [])) rfl).mpr ?_
            refine (rn_step (e := (.aload_n 0, 103, 0, 0, 0, 0, 0, [])) rfl).mpr ?_
            refine (rn_step (e := (.iload_n 1, 104, 1, 0, 0, 0, 0, [])) rfl).mpr ?_
            refine (rn_step (e := (.iconst 2, 105, 0, 0, 0, 0, 0, [])) rfl).mpr ?_
            refine (rn_step (e := (.if_icmp .ge 7, 108, 112, 0, 0, 0, 0, [])) rfl).mpr (And.intro (fun c6 => ?_) (fun c6 => ?_))
            ·
              refine (rn_step (e := (.iconst 0, 109, 0, 0, 0, 0, 0, [])) rfl).mpr ?_
              refine (rn_step (e := (.goto 4, 112, 113, 0, 0, 0, 0, [])) rfl).mpr ?_
              refine (rn_step (e := (.iload_n 3, 114, 3, 0, 0, 0, 0, [])) rfl).mpr ?_
              refine (rn_step (e := (.iload_n 2, 115, 2, 0, 0, 0, 0, [])) rfl).mpr ?_
              refine (rn_step (e := (.if_icmp .ge 7, 118, 122, 0, 0, 0, 0, [])) rfl).mpr (And.intro (fun q => ?_) (fun q => absurd (by decide) q))
              refine (rn_step (e := (.iload_n 3, 119, 3, 0, 0, 0, 0, [])) rfl).mpr ?_
              refine (rn_step (e := (.goto 4, 122, 123, 0, 0, 0, 0, [])) rfl).mpr ?_
              exact (rn_step (e := (.invokevirtual 201, 126, 196, 3, 1234, 0, 11, [0])) rfl).mpr (And.intro ((rn_ks466 (M := M) hM)) ((k43 c1 c2 c3 c4 c5 c6)))
            ·
              refine (rn_step (e := (.iconst 1, 113, 0, 0, 0, 0, 0, [])) rfl).mpr ?_
              refine (rn_step (e := (.iload_n 3, 114, 3, 0, 0, 0, 0, [])) rfl).mpr ?_
              refine (rn_step (e := (.iload_n 2, 115, 2, 0, 0, 0, 0, [])) rfl).mpr ?_
              refine (rn_step (e := (.if_icmp .ge 7, 118, 122, 0, 0, 0, 0, [])) rfl).mpr (And.intro (fun q => ?_) (fun q => absurd (by decide) q))
              refine (rn_step (e := (.iload_n 3, 119, 3, 0, 0, 0, 0, [])) rfl).mpr ?_
              refine (rn_step (e := (.goto 4, 122, 123, 0, 0, 0, 0, [])) rfl).mpr ?_
              exact (rn_step (e := (.invokevirtual 201, 126, 196, 3, 1234, 0, 11, [0])) rfl).mpr (And.intro ((rn_ks466 (M := M) hM)) ((k44 c1 c2 c3 c4 c5 c6)))
          ·
            refine (rn_step (e := (.iload_n 1, 81, 1, 0, 0, 0, 0, [])) rfl).mpr ?_
            refine (rn_step (e := (.iconst 2, 82, 0, 0, 0, 0, 0, [])) rfl).mpr ?_
            refine (rn_step (e := (.if_icmp .ne 8, 85, 90, 0, 0, 0, 0, [])) rfl).mpr (And.intro (fun c6 => ?_) (fun c6 => ?_))
            ·
              refine (rn_step (e := (.bipush 12, 87, 0, 0, 0, 0, 0, [])) rfl).mpr ?_
              refine (rn_step (e := (.goto 14, 90, 101, 0, 0, 0, 0, [])) rfl).mpr ?_
              refine (rn_step (e := (.istore_n 3, 102, 3, 0, 0, 0, 0, [])) rfl).mpr ?_
              refine (rn_step (e := (.aload_n 0, 103, 0, 0, 0, 0, 0, [])) rfl).mpr ?_
              refine (rn_step (e := (.iload_n 1, 104, 1, 0, 0, 0, 0, [])) rfl).mpr ?_
              refine (rn_step (e := (.iconst 2, 105, 0, 0, 0, 0, 0, [])) rfl).mpr ?_
              refine (rn_step (e := (.if_icmp .ge 7, 108, 112, 0, 0, 0, 0, [])) rfl).mpr (And.intro (fun c7 => ?_) (fun c7 => ?_))
              ·
                refine (rn_step (e := (.iconst 0, 109, 0, 0, 0, 0, 0, [])) rfl).mpr ?_
                refine (rn_step (e := (.goto 4, 112, 113, 0, 0, 0, 0, [])) rfl).mpr ?_
                refine (rn_step (e := (.iload_n 3, 114, 3, 0, 0, 0, 0, [])) rfl).mpr ?_
                refine (rn_step (e := (.iload_n 2, 115, 2, 0, 0, 0, 0, [])) rfl).mpr ?_
                refine (rn_step (e := (.if_icmp .ge 7, 118, 122, 0, 0, 0, 0, [])) rfl).mpr (And.intro (fun q => ?_) (fun q => absurd (by decide) q))
                refine (rn_step (e := (.iload_n 3, 119, 3, 0, 0, 0, 0, [])) rfl).mpr ?_
                refine (rn_step (e := (.goto 4, 122, 123, 0, 0, 0, 0, [])) rfl).mpr ?_
                exact (rn_step (e := (.invokevirtual 201, 126, 196, 3, 1234, 0, 11, [0])) rfl).mpr (And.intro ((rn_ks466 (M := M) hM)) ((k45 c1 c2 c3 c4 c5 c6 c7)))
              ·
                refine (rn_step (e := (.iconst 1, 113, 0, 0, 0, 0, 0, [])) rfl).mpr ?_
                refine (rn_step (e := (.iload_n 3, 114, 3, 0, 0, 0, 0, [])) rfl).mpr ?_
                refine (rn_step (e := (.iload_n 2, 115, 2, 0, 0, 0, 0, [])) rfl).mpr ?_
                refine (rn_step (e := (.if_icmp .ge 7, 118, 122, 0, 0, 0, 0, [])) rfl).mpr (And.intro (fun q => ?_) (fun q => absurd (by decide) q))
                refine (rn_step (e := (.iload_n 3, 119, 3, 0, 0, 0, 0, [])) rfl).mpr ?_
                refine (rn_step (e := (.goto 4, 122, 123, 0, 0, 0, 0, [])) rfl).mpr ?_
                exact (rn_step (e := (.invokevirtual 201, 126, 196, 3, 1234, 0, 11, [0])) rfl).mpr (And.intro ((rn_ks466 (M := M) hM)) ((k46 c1 c2 c3 c4 c5 c6 c7)))
            ·
              refine (rn_step (e := (.iload_n 1, 91, 1, 0, 0, 0, 0, [])) rfl).mpr ?_
              refine (rn_step (e := (.iconst 3, 92, 0, 0, 0, 0, 0, [])) rfl).mpr ?_
              refine (rn_step (e := (.if_icmp .ne 7, 95, 99, 0, 0, 0, 0, [])) rfl).mpr (And.intro (fun c7 => ?_) (fun c7 => ?_))
              ·
                refine (rn_step (e := (.iconst 3, 96, 0, 0, 0, 0, 0, [])) rfl).mpr ?_
                refine (rn_step (e := (.goto 5, 99, 101, 0, 0, 0, 0, [])) rfl).mpr ?_
                refine (rn_step (e := (.istore_n 3, 102, 3, 0, 0, 0, 0, [])) rfl).mpr ?_
                refine (rn_step (e := (.aload_n 0, 103, 0, 0, 0, 0, 0, [])) rfl).mpr ?_
                refine (rn_step (e := (.iload_n 1, 104, 1, 0, 0, 0, 0, [])) rfl).mpr ?_
                refine (rn_step (e := (.iconst 2, 105, 0, 0, 0, 0, 0, [])) rfl).mpr ?_
                refine (rn_step (e := (.if_icmp .ge 7, 108, 112, 0, 0, 0, 0, [])) rfl).mpr (And.intro (fun c8 => ?_) (fun c8 => ?_))
                ·
                  refine (rn_step (e := (.iconst 0, 109, 0, 0, 0, 0, 0, [])) rfl).mpr ?_
                  refine (rn_step (e := (.goto 4, 112, 113, 0, 0, 0, 0, [])) rfl).mpr ?_
                  refine (rn_step (e := (.iload_n 3, 114, 3, 0, 0, 0, 0, [])) rfl).mpr ?_
                  refine (rn_step (e := (.iload_n 2, 115, 2, 0, 0, 0, 0, [])) rfl).mpr ?_
                  refine (rn_step (e := (.if_icmp .ge 7, 118, 122, 0, 0, 0, 0, [])) rfl).mpr (And.intro (fun q => ?_) (fun q => absurd (by decide) q))
                  refine (rn_step (e := (.iload_n 3, 119, 3, 0, 0, 0, 0, [])) rfl).mpr ?_
                  refine (rn_step (e := (.goto 4, 122, 123, 0, 0, 0, 0, [])) rfl).mpr ?_
                  exact (rn_step (e := (.invokevirtual 201, 126, 196, 3, 1234, 0, 11, [0])) rfl).mpr (And.intro ((rn_ks466 (M := M) hM)) ((k47 c1 c2 c3 c4 c5 c6 c7 c8)))
                ·
                  refine (rn_step (e := (.iconst 1, 113, 0, 0, 0, 0, 0, [])) rfl).mpr ?_
                  refine (rn_step (e := (.iload_n 3, 114, 3, 0, 0, 0, 0, [])) rfl).mpr ?_
                  refine (rn_step (e := (.iload_n 2, 115, 2, 0, 0, 0, 0, [])) rfl).mpr ?_
                  refine (rn_step (e := (.if_icmp .ge 7, 118, 122, 0, 0, 0, 0, [])) rfl).mpr (And.intro (fun q => ?_) (fun q => absurd (by decide) q))
                  refine (rn_step (e := (.iload_n 3, 119, 3, 0, 0, 0, 0, [])) rfl).mpr ?_
                  refine (rn_step (e := (.goto 4, 122, 123, 0, 0, 0, 0, [])) rfl).mpr ?_
                  exact (rn_step (e := (.invokevirtual 201, 126, 196, 3, 1234, 0, 11, [0])) rfl).mpr (And.intro ((rn_ks466 (M := M) hM)) ((k48 c1 c2 c3 c4 c5 c6 c7 c8)))
              ·
                refine (rn_step (e := (.bipush 9, 101, 0, 0, 0, 0, 0, [])) rfl).mpr ?_
                refine (rn_step (e := (.istore_n 3, 102, 3, 0, 0, 0, 0, [])) rfl).mpr ?_
                refine (rn_step (e := (.aload_n 0, 103, 0, 0, 0, 0, 0, [])) rfl).mpr ?_
                refine (rn_step (e := (.iload_n 1, 104, 1, 0, 0, 0, 0, [])) rfl).mpr ?_
                refine (rn_step (e := (.iconst 2, 105, 0, 0, 0, 0, 0, [])) rfl).mpr ?_
                refine (rn_step (e := (.if_icmp .ge 7, 108, 112, 0, 0, 0, 0, [])) rfl).mpr (And.intro (fun c8 => ?_) (fun c8 => ?_))
                ·
                  refine (rn_step (e := (.iconst 0, 109, 0, 0, 0, 0, 0, [])) rfl).mpr ?_
                  refine (rn_step (e := (.goto 4, 112, 113, 0, 0, 0, 0, [])) rfl).mpr ?_
                  refine (rn_step (e := (.iload_n 3, 114, 3, 0, 0, 0, 0, [])) rfl).mpr ?_
                  refine (rn_step (e := (.iload_n 2, 115, 2, 0, 0, 0, 0, [])) rfl).mpr ?_
                  refine (rn_step (e := (.if_icmp .ge 7, 118, 122, 0, 0, 0, 0, [])) rfl).mpr (And.intro (fun q => ?_) (fun q => absurd (by decide) q))
                  refine (rn_step (e := (.iload_n 3, 119, 3, 0, 0, 0, 0, [])) rfl).mpr ?_
                  refine (rn_step (e := (.goto 4, 122, 123, 0, 0, 0, 0, [])) rfl).mpr ?_
                  exact (rn_step (e := (.invokevirtual 201, 126, 196, 3, 1234, 0, 11, [0])) rfl).mpr (And.intro ((rn_ks466 (M := M) hM)) ((k49 c1 c2 c3 c4 c5 c6 c7 c8)))
                ·
                  refine (rn_step (e := (.iconst 1, 113, 0, 0, 0, 0, 0, [])) rfl).mpr ?_
                  refine (rn_step (e := (.iload_n 3, 114, 3, 0, 0, 0, 0, [])) rfl).mpr ?_
                  refine (rn_step (e := (.iload_n 2, 115, 2, 0, 0, 0, 0, [])) rfl).mpr ?_
                  refine (rn_step (e := (.if_icmp .ge 7, 118, 122, 0, 0, 0, 0, [])) rfl).mpr (And.intro (fun q => ?_) (fun q => absurd (by decide) q))
                  refine (rn_step (e := (.iload_n 3, 119, 3, 0, 0, 0, 0, [])) rfl).mpr ?_
                  refine (rn_step (e := (.goto 4, 122, 123, 0, 0, 0, 0, [])) rfl).mpr ?_
                  exact (rn_step (e := (.invokevirtual 201, 126, 196, 3, 1234, 0, 11, [0])) rfl).mpr (And.intro ((rn_ks466 (M := M) hM)) ((k50 c1 c2 c3 c4 c5 c6 c7 c8)))
  ·
    refine (rn_step (e := (.aload_n 0, 148, 0, 0, 0, 0, 0, [])) rfl).mpr ?_
    refine (rn_step (e := (.aload_n 0, 149, 0, 0, 0, 0, 0, [])) rfl).mpr ?_
    refine (rn_step (e := (.getfield 185, 152, 10, 9, 911, 0, 11, [])) rfl).mpr (And.intro ((rn_ks466 (M := M) hM)) (?_))
    refine (rn_step (e := (.bipush 59, 154, 0, 0, 0, 0, 0, [])) rfl).mpr ?_
    refine (rn_step (e := (.bipush 59, 156, 0, 0, 0, 0, 0, [])) rfl).mpr ?_
    refine (rn_step (e := (.invokevirtual 188, 159, 191, 4, 1218, 0, 11, [0])) rfl).mpr (And.intro ((rn_ks466 (M := M) hM)) ((rc_Mo_isSort hM ((hr3 c1).1) ((hr3 c1).2) ?_)))
    refine (rn_step (e := (.ifCond .ne 5, 162, 164, 0, 0, 0, 0, [])) rfl).mpr (And.intro (fun q => ?_) (fun q => ?_))
    · have c2 := rn_b0 q
      refine (rn_step (e := (.iconst 0, 163, 0, 0, 0, 0, 0, [])) rfl).mpr ?_
      exact (rn_step (e := (.ireturn, 164, 0, 0, 0, 1, 0, [])) rfl).mpr (And.intro ((Or.inl rfl)) ((k51 c1 c2)))
    · have c2 := rn_b1 q
      refine (rn_step (e := (.aload_n 0, 165, 0, 0, 0, 0, 0, [])) rfl).mpr ?_
      refine (rn_step (e := (.aload_n 0, 166, 0, 0, 0, 0, 0, [])) rfl).mpr ?_
      refine (rn_step (e := (.getfield 28, 169, 10, 12, 914, 2, 11, [])) rfl).mpr (And.intro ((rn_ks466 (M := M) hM)) (rn_cg (rn_g466_12 (M := M) hM) ?_))
      refine (rn_step (e := (.iconst 0, 170, 0, 0, 0, 0, 0, [])) rfl).mpr ?_
      refine (rn_step (e := (.iaload, 171, 0, 0, 0, 0, 0, [])) rfl).mpr (And.intro (Or.inl (rn_w473 (M := M) hM).1) (And.intro ((And.intro ((by decide)) (rn_lt (rn_w473 (M := M) hM).2 (by decide)))) (?_)))
      refine (rn_step (e := (.aload_n 0, 172, 0, 0, 0, 0, 0, [])) rfl).mpr ?_
      refine (rn_step (e := (.getfield 28, 175, 10, 12, 914, 2, 11, [])) rfl).mpr (And.intro ((rn_ks466 (M := M) hM)) (rn_cg (rn_g466_12 (M := M) hM) ?_))
      refine (rn_step (e := (.iconst 1, 176, 0, 0, 0, 0, 0, [])) rfl).mpr ?_
      refine (rn_step (e := (.iaload, 177, 0, 0, 0, 0, 0, [])) rfl).mpr (And.intro (Or.inl (rn_w473 (M := M) hM).1) (And.intro ((And.intro ((by decide)) (rn_lt (rn_w473 (M := M) hM).2 (by decide)))) (?_)))
      refine (rn_step (e := (.aload_n 0, 178, 0, 0, 0, 0, 0, [])) rfl).mpr ?_
      refine (rn_step (e := (.getfield 28, 181, 10, 12, 914, 2, 11, [])) rfl).mpr (And.intro ((rn_ks466 (M := M) hM)) (rn_cg (rn_g466_12 (M := M) hM) ?_))
      refine (rn_step (e := (.iconst 2, 182, 0, 0, 0, 0, 0, [])) rfl).mpr ?_
      refine (rn_step (e := (.iaload, 183, 0, 0, 0, 0, 0, [])) rfl).mpr (And.intro (Or.inl (rn_w473 (M := M) hM).1) (And.intro ((And.intro ((by decide)) (rn_lt (rn_w473 (M := M) hM).2 (by decide)))) (?_)))
      refine (rn_step (e := (.aload_n 0, 184, 0, 0, 0, 0, 0, [])) rfl).mpr ?_
      refine (rn_step (e := (.getfield 28, 187, 10, 12, 914, 2, 11, [])) rfl).mpr (And.intro ((rn_ks466 (M := M) hM)) (rn_cg (rn_g466_12 (M := M) hM) ?_))
      refine (rn_step (e := (.iconst 3, 188, 0, 0, 0, 0, 0, [])) rfl).mpr ?_
      refine (rn_step (e := (.iaload, 189, 0, 0, 0, 0, 0, [])) rfl).mpr (And.intro (Or.inl (rn_w473 (M := M) hM).1) (And.intro ((And.intro ((by decide)) (rn_lt (rn_w473 (M := M) hM).2 (by decide)))) (?_)))
      refine (rn_step (e := (.aload_n 0, 190, 0, 0, 0, 0, 0, [])) rfl).mpr ?_
      refine (rn_step (e := (.getfield 28, 193, 10, 12, 914, 2, 11, [])) rfl).mpr (And.intro ((rn_ks466 (M := M) hM)) (rn_cg (rn_g466_12 (M := M) hM) ?_))
      refine (rn_step (e := (.iconst 4, 194, 0, 0, 0, 0, 0, [])) rfl).mpr ?_
      refine (rn_step (e := (.iaload, 195, 0, 0, 0, 0, 0, [])) rfl).mpr (And.intro (Or.inl (rn_w473 (M := M) hM).1) (And.intro ((And.intro ((by decide)) (rn_lt (rn_w473 (M := M) hM).2 (by decide)))) (?_)))
      exact (rn_step (e := (.invokevirtual 81, 198, 139, 6, 986, 0, 11, [0])) rfl).mpr (And.intro ((rn_ks466 (M := M) hM)) ((k52 c1 c2)))
set_option maxRecDepth 4000 in
theorem rb_Mo_takesTown_126 {M : rn_M} {Q : rn_Q} {xl1 : Int} {vl2 : rn_V} {vl3 : rn_V} {xs0 : Int} (hM : rn_sh M)   (hr1 : (¬ (xs0 = 0)) → (0 : Int) ≤ xl1 ∧ xl1 < (5 : Int) ∧ (-2147483648 : Int) ≤ xl1 + 1 ∧ xl1 + 1 ≤ 2147483647) (k1 : (xs0 = 0) → Q (some (rn_I 0)) M) (k2 : (¬ (xs0 = 0)) → rn_WP 200 19 [rn_R 466, rn_I (xl1 + 1), vl2, vl3] [] (rn_si M 473 (xl1).toNat (rn_gi M 466 11)) Q) : rn_WP 200 126 [rn_R 466, rn_I xl1, vl2, vl3] [rn_I xs0] M Q := by
  refine (rn_step (e := (.ifCond .ne 5, 129, 131, 0, 0, 0, 0, [])) rfl).mpr (And.intro (fun c1 => ?_) (fun c1 => ?_))
  ·
    refine (rn_step (e := (.iconst 0, 130, 0, 0, 0, 0, 0, [])) rfl).mpr ?_
    exact (rn_step (e := (.ireturn, 131, 0, 0, 0, 1, 0, [])) rfl).mpr (And.intro ((Or.inl rfl)) ((k1 c1)))
  ·
    refine (rn_step (e := (.aload_n 0, 132, 0, 0, 0, 0, 0, [])) rfl).mpr ?_
    refine (rn_step (e := (.getfield 28, 135, 10, 12, 914, 2, 11, [])) rfl).mpr (And.intro ((rn_ks466 (M := M) hM)) (rn_cg (rn_g466_12 (M := M) hM) ?_))
    refine (rn_step (e := (.iload_n 1, 136, 1, 0, 0, 0, 0, [])) rfl).mpr ?_
    refine (rn_step (e := (.aload_n 0, 137, 0, 0, 0, 0, 0, [])) rfl).mpr ?_
    refine (rn_step (e := (.getfield 191, 140, 10, 11, 913, 0, 11, [])) rfl).mpr (And.intro ((rn_ks466 (M := M) hM)) (?_))
    refine (rn_step (e := (.iastore, 141, 0, 0, 0, 0, 0, [])) rfl).mpr (And.intro ((rn_w473 (M := M) hM).1) (And.intro ((And.intro ((hr1 c1).1) (rn_lt (rn_w473 (M := M) hM).2 (hr1 c1).2.1))) (?_)))
    refine (rn_step (e := (.iinc 1 1, 144, 1, 0, 0, 0, 0, [])) rfl).mpr (rn_ci (hr1 c1).2.2.1 (hr1 c1).2.2.2 ?_)
    refine (rn_step (e := (.goto (-125), 147, 19, 0, 0, 0, 0, [])) rfl).mpr ?_
    exact (k2 c1)
set_option maxRecDepth 4000 in
theorem rb_Mo_takesTown_198 {M : rn_M} {Q : rn_Q} {vl1 : rn_V} {vl2 : rn_V} {vl3 : rn_V} {xs0 : Int} (hM : rn_sh M)   (k1 : rn_ME 192 [rn_R 466] M (fun r M1 => rn_WP 200 203 [rn_R 466, rn_I xs0, vl2, vl3] (r.toList ++ []) M1 Q)) : rn_WP 200 198 [rn_R 466, vl1, vl2, vl3] [rn_I xs0] M Q := by
  refine (rn_step (e := (.istore_n 1, 199, 1, 0, 0, 0, 0, [])) rfl).mpr ?_
  refine (rn_step (e := (.aload_n 0, 200, 0, 0, 0, 0, 0, [])) rfl).mpr ?_
  exact (rn_step (e := (.invokevirtual 194, 203, 192, 1, 1214, 0, 11, [0])) rfl).mpr (And.intro ((rn_ks466 (M := M) hM)) (k1))
set_option maxRecDepth 4000 in
theorem rb_Mo_takesTown_203 {M : rn_M} {Q : rn_Q} {vl0 : rn_V} {vl1 : rn_V} {vl2 : rn_V} {vl3 : rn_V}   (k1 : Q (some (rn_I 1)) M) : rn_WP 200 203 [vl0, vl1, vl2, vl3] [] M Q := by
  refine (rn_step (e := (.iconst 1, 204, 0, 0, 0, 0, 0, [])) rfl).mpr ?_
  exact (rn_step (e := (.ireturn, 205, 0, 0, 0, 1, 0, [])) rfl).mpr (And.intro ((Or.inr rfl)) (k1))
theorem re_Mo_load {M : rn_M} {Q : rn_Q} {v0 : rn_V} (h : rn_WP 201 0 [v0, rn_J, rn_J, rn_J] [] M Q) : rn_ME 201 [v0] M Q := h
set_option maxRecDepth 4000 in
theorem rb_Mo_load_0 {M : rn_M} {Q : rn_Q} {vl1 : rn_V} {vl2 : rn_V} {vl3 : rn_V} (hM : rn_sh M)   (k1 : rn_ME 202 [rn_R 466] M (fun r M1 => rn_WP 201 4 [rn_R 466, vl1, vl2, vl3] (r.toList ++ []) M1 Q)) : rn_WP 201 0 [rn_R 466, vl1, vl2, vl3] [] M Q := by
  refine (rn_step (e := (.aload_n 0, 1, 0, 0, 0, 0, 0, [])) rfl).mpr ?_
  exact (rn_step (e := (.invokevirtual 210, 4, 202, 1, 1210, 0, 11, [0])) rfl).mpr (And.intro ((rn_ks466 (M := M) hM)) (k1))
set_option maxRecDepth 4000 in
theorem rb_Mo_load_4 {M : rn_M} {Q : rn_Q} {vl1 : rn_V} {vl2 : rn_V} {vl3 : rn_V} (hM : rn_sh M)   (k1 : rn_ME 192 [rn_R 466] (rn_si M 466 10 0) (fun r M1 => rn_WP 201 13 [rn_R 466, vl1, vl2, vl3] (r.toList ++ []) M1 Q)) : rn_WP 201 4 [rn_R 466, vl1, vl2, vl3] [] M Q := by
  refine (rn_step (e := (.aload_n 0, 5, 0, 0, 0, 0, 0, [])) rfl).mpr ?_
  refine (rn_step (e := (.iconst 0, 6, 0, 0, 0, 0, 0, [])) rfl).mpr ?_
  refine (rn_step (e := (.putfield 182, 9, 10, 10, 912, 0, 11, [])) rfl).mpr (And.intro ((rn_ks466 (M := M) hM)) (?_))
  refine (rn_step (e := (.aload_n 0, 10, 0, 0, 0, 0, 0, [])) rfl).mpr ?_
  exact (rn_step (e := (.invokevirtual 194, 13, 192, 1, 1214, 0, 11, [0])) rfl).mpr (And.intro ((rn_ks466 (M := M) hM)) (k1))
set_option maxRecDepth 4000 in
theorem rb_Mo_load_13 {M : rn_M} {Q : rn_Q} {vl0 : rn_V} {vl1 : rn_V} {vl2 : rn_V} {vl3 : rn_V}   (k1 : rn_WP 201 17 [vl0, rn_I 0, rn_I 1, vl3] [] M Q) : rn_WP 201 13 [vl0, vl1, vl2, vl3] [] M Q := by
  refine (rn_step (e := (.iconst 0, 14, 0, 0, 0, 0, 0, [])) rfl).mpr ?_
  refine (rn_step (e := (.istore_n 1, 15, 1, 0, 0, 0, 0, [])) rfl).mpr ?_
  refine (rn_step (e := (.iconst 1, 16, 0, 0, 0, 0, 0, [])) rfl).mpr ?_
  refine (rn_step (e := (.istore_n 2, 17, 2, 0, 0, 0, 0, [])) rfl).mpr ?_
  exact k1
set_option maxRecDepth 4000 in
theorem rb_Mo_load_17 {M : rn_M} {Q : rn_Q} {vl1 : rn_V} {xl2 : Int} {vl3 : rn_V} (hM : rn_sh M)   (k1 : (xl2 = 0) → (xl2 = 0) → rn_ME 203 [rn_R 466] M (fun r M1 => rn_WP 201 80 [rn_R 466, vl1, rn_I xl2, vl3] (r.toList ++ []) M1 Q)) (k2 : (xl2 = 0) → (¬ (xl2 = 0)) → rn_WP 201 91 [rn_R 466, vl1, rn_I xl2, rn_I 0] [] M Q) (k3 : (¬ (xl2 = 0)) → (rn_gi M 466 9 < rn_gi M 466 4) → rn_ME 194 [rn_R 466] M (fun r M1 => rn_WP 201 36 [rn_R 466, vl1, rn_I xl2, vl3] (r.toList ++ []) M1 Q)) (k4 : (¬ (xl2 = 0)) → (¬ (rn_gi M 466 9 < rn_gi M 466 4)) → (xl2 = 0) → rn_ME 203 [rn_R 466] M (fun r M1 => rn_WP 201 80 [rn_R 466, vl1, rn_I xl2, vl3] (r.toList ++ []) M1 Q)) (k5 : (¬ (xl2 = 0)) → (¬ (rn_gi M 466 9 < rn_gi M 466 4)) → (¬ (xl2 = 0)) → rn_WP 201 91 [rn_R 466, vl1, rn_I xl2, rn_I 0] [] M Q) : rn_WP 201 17 [rn_R 466, vl1, rn_I xl2, vl3] [] M Q := by
  refine (rn_step (e := (.iload_n 2, 18, 2, 0, 0, 0, 0, [])) rfl).mpr ?_
  refine (rn_step (e := (.ifCond .eq 54, 21, 72, 0, 0, 0, 0, [])) rfl).mpr (And.intro (fun c1 => ?_) (fun c1 => ?_))
  ·
    refine (rn_step (e := (.iload_n 2, 73, 2, 0, 0, 0, 0, [])) rfl).mpr ?_
    refine (rn_step (e := (.ifCond .ne 16, 76, 89, 0, 0, 0, 0, [])) rfl).mpr (And.intro (fun c2 => ?_) (fun c2 => ?_))
    ·
      refine (rn_step (e := (.aload_n 0, 77, 0, 0, 0, 0, 0, [])) rfl).mpr ?_
      exact (rn_step (e := (.invokevirtual 225, 80, 203, 1, 1254, 0, 11, [0])) rfl).mpr (And.intro ((rn_ks466 (M := M) hM)) ((k1 c1 c2)))
    ·
      refine (rn_step (e := (.iconst 0, 90, 0, 0, 0, 0, 0, [])) rfl).mpr ?_
      refine (rn_step (e := (.istore_n 3, 91, 3, 0, 0, 0, 0, [])) rfl).mpr ?_
      exact (k2 c1 c2)
  ·
    refine (rn_step (e := (.aload_n 0, 22, 0, 0, 0, 0, 0, [])) rfl).mpr ?_
    refine (rn_step (e := (.getfield 185, 25, 10, 9, 911, 0, 11, [])) rfl).mpr (And.intro ((rn_ks466 (M := M) hM)) (?_))
    refine (rn_step (e := (.aload_n 0, 26, 0, 0, 0, 0, 0, [])) rfl).mpr ?_
    refine (rn_step (e := (.getfield 167, 29, 10, 4, 906, 0, 11, [])) rfl).mpr (And.intro ((rn_ks466 (M := M) hM)) (?_))
    refine (rn_step (e := (.if_icmp .ge 43, 32, 72, 0, 0, 0, 0, [])) rfl).mpr (And.intro (fun c2 => ?_) (fun c2 => ?_))
    ·
      refine (rn_step (e := (.aload_n 0, 33, 0, 0, 0, 0, 0, [])) rfl).mpr ?_
      exact (rn_step (e := (.invokevirtual 213, 36, 194, 1, 1222, 0, 11, [0])) rfl).mpr (And.intro ((rn_ks466 (M := M) hM)) ((k3 c1 c2)))
    ·
      refine (rn_step (e := (.iload_n 2, 73, 2, 0, 0, 0, 0, [])) rfl).mpr ?_
      refine (rn_step (e := (.ifCond .ne 16, 76, 89, 0, 0, 0, 0, [])) rfl).mpr (And.intro (fun c3 => ?_) (fun c3 => ?_))
      ·
        refine (rn_step (e := (.aload_n 0, 77, 0, 0, 0, 0, 0, [])) rfl).mpr ?_
        exact (rn_step (e := (.invokevirtual 225, 80, 203, 1, 1254, 0, 11, [0])) rfl).mpr (And.intro ((rn_ks466 (M := M) hM)) ((k4 c1 c2 c3)))
      ·
        refine (rn_step (e := (.iconst 0, 90, 0, 0, 0, 0, 0, [])) rfl).mpr ?_
        refine (rn_step (e := (.istore_n 3, 91, 3, 0, 0, 0, 0, [])) rfl).mpr ?_
        exact (k5 c1 c2 c3)
set_option maxRecDepth 4000 in
theorem rb_Mo_load_36 {M : rn_M} {Q : rn_Q} {vl1 : rn_V} {vl2 : rn_V} {vl3 : rn_V} {xs0 : Int} (hM : rn_sh M)   (k1 : (xs0 = 0) → rn_ME 195 [rn_R 466] M (fun r M1 => rn_WP 201 50 [rn_R 466, vl1, vl2, vl3] (r.toList ++ []) M1 Q)) (k2 : (¬ (xs0 = 0)) → rn_ME 199 [rn_R 466] M (fun r M1 => rn_WP 201 43 [rn_R 466, vl1, vl2, vl3] (r.toList ++ []) M1 Q)) : rn_WP 201 36 [rn_R 466, vl1, vl2, vl3] [rn_I xs0] M Q := by
  refine (rn_step (e := (.ifCond .eq 10, 39, 46, 0, 0, 0, 0, [])) rfl).mpr (And.intro (fun c1 => ?_) (fun c1 => ?_))
  ·
    refine (rn_step (e := (.aload_n 0, 47, 0, 0, 0, 0, 0, [])) rfl).mpr ?_
    exact (rn_step (e := (.invokevirtual 219, 50, 195, 1, 1246, 0, 11, [0])) rfl).mpr (And.intro ((rn_ks466 (M := M) hM)) ((k1 c1)))
  ·
    refine (rn_step (e := (.aload_n 0, 40, 0, 0, 0, 0, 0, [])) rfl).mpr ?_
    exact (rn_step (e := (.invokevirtual 216, 43, 199, 1, 1226, 0, 11, [0])) rfl).mpr (And.intro ((rn_ks466 (M := M) hM)) ((k2 c1)))
set_option maxRecDepth 4000 in
theorem rb_Mo_load_43 {M : rn_M} {Q : rn_Q} {vl0 : rn_V} {xl1 : Int} {vl2 : rn_V} {vl3 : rn_V} {xs0 : Int}   (hr1 : (-2147483648 : Int) ≤ xl1 + 1 ∧ xl1 + 1 ≤ 2147483647) (k1 : rn_WP 201 17 [vl0, rn_I (xl1 + 1), rn_I xs0, vl3] [] M Q) : rn_WP 201 43 [vl0, rn_I xl1, vl2, vl3] [rn_I xs0] M Q := by
  refine (rn_step (e := (.goto 22, 46, 65, 0, 0, 0, 0, [])) rfl).mpr ?_
  refine (rn_step (e := (.istore_n 2, 66, 2, 0, 0, 0, 0, [])) rfl).mpr ?_
  refine (rn_step (e := (.iinc 1 1, 69, 1, 0, 0, 0, 0, [])) rfl).mpr (rn_ci hr1.1 hr1.2 ?_)
  refine (rn_step (e := (.goto (-52), 72, 17, 0, 0, 0, 0, [])) rfl).mpr ?_
  exact k1
set_option maxRecDepth 4000 in
theorem rb_Mo_load_50 {M : rn_M} {Q : rn_Q} {xl1 : Int} {vl2 : rn_V} {vl3 : rn_V} {xs0 : Int} (hM : rn_sh M)   (hr1 : (xs0 = 0) → (-2147483648 : Int) ≤ xl1 + 1 ∧ xl1 + 1 ≤ 2147483647) (k1 : (xs0 = 0) → rn_WP 201 17 [rn_R 466, rn_I (xl1 + 1), rn_I 0, vl3] [] M Q) (k2 : (¬ (xs0 = 0)) → rn_ME 200 [rn_R 466] M (fun r M1 => rn_WP 201 57 [rn_R 466, rn_I xl1, vl2, vl3] (r.toList ++ []) M1 Q)) : rn_WP 201 50 [rn_R 466, rn_I xl1, vl2, vl3] [rn_I xs0] M Q := by
  refine (rn_step (e := (.ifCond .eq 14, 53, 64, 0, 0, 0, 0, [])) rfl).mpr (And.intro (fun c1 => ?_) (fun c1 => ?_))
  ·
    refine (rn_step (e := (.iconst 0, 65, 0, 0, 0, 0, 0, [])) rfl).mpr ?_
    refine (rn_step (e := (.istore_n 2, 66, 2, 0, 0, 0, 0, [])) rfl).mpr ?_
    refine (rn_step (e := (.iinc 1 1, 69, 1, 0, 0, 0, 0, [])) rfl).mpr (rn_ci (hr1 c1).1 (hr1 c1).2 ?_)
    refine (rn_step (e := (.goto (-52), 72, 17, 0, 0, 0, 0, [])) rfl).mpr ?_
    exact (k1 c1)
  ·
    refine (rn_step (e := (.aload_n 0, 54, 0, 0, 0, 0, 0, [])) rfl).mpr ?_
    exact (rn_step (e := (.invokevirtual 222, 57, 200, 1, 1250, 0, 11, [0])) rfl).mpr (And.intro ((rn_ks466 (M := M) hM)) ((k2 c1)))
set_option maxRecDepth 4000 in
theorem rb_Mo_load_57 {M : rn_M} {Q : rn_Q} {vl0 : rn_V} {xl1 : Int} {vl2 : rn_V} {vl3 : rn_V} {xs0 : Int}   (hr1 : (xs0 = 0) → (-2147483648 : Int) ≤ xl1 + 1 ∧ xl1 + 1 ≤ 2147483647) (hr2 : (¬ (xs0 = 0)) → (-2147483648 : Int) ≤ xl1 + 1 ∧ xl1 + 1 ≤ 2147483647) (k1 : (xs0 = 0) → rn_WP 201 17 [vl0, rn_I (xl1 + 1), rn_I 0, vl3] [] M Q) (k2 : (¬ (xs0 = 0)) → rn_WP 201 17 [vl0, rn_I (xl1 + 1), rn_I 1, vl3] [] M Q) : rn_WP 201 57 [vl0, rn_I xl1, vl2, vl3] [rn_I xs0] M Q := by
  refine (rn_step (e := (.ifCond .eq 7, 60, 64, 0, 0, 0, 0, [])) rfl).mpr (And.intro (fun c1 => ?_) (fun c1 => ?_))
  ·
    refine (rn_step (e := (.iconst 0, 65, 0, 0, 0, 0, 0, [])) rfl).mpr ?_
    refine (rn_step (e := (.istore_n 2, 66, 2, 0, 0, 0, 0, [])) rfl).mpr ?_
    refine (rn_step (e := (.iinc 1 1, 69, 1, 0, 0, 0, 0, [])) rfl).mpr (rn_ci (hr1 c1).1 (hr1 c1).2 ?_)
    refine (rn_step (e := (.goto (-52), 72, 17, 0, 0, 0, 0, [])) rfl).mpr ?_
    exact (k1 c1)
  ·
    refine (rn_step (e := (.iconst 1, 61, 0, 0, 0, 0, 0, [])) rfl).mpr ?_
    refine (rn_step (e := (.goto 4, 64, 65, 0, 0, 0, 0, [])) rfl).mpr ?_
    refine (rn_step (e := (.istore_n 2, 66, 2, 0, 0, 0, 0, [])) rfl).mpr ?_
    refine (rn_step (e := (.iinc 1 1, 69, 1, 0, 0, 0, 0, [])) rfl).mpr (rn_ci (hr2 c1).1 (hr2 c1).2 ?_)
    refine (rn_step (e := (.goto (-52), 72, 17, 0, 0, 0, 0, [])) rfl).mpr ?_
    exact (k2 c1)
set_option maxRecDepth 4000 in
theorem rb_Mo_load_80 {M : rn_M} {Q : rn_Q} {vl1 : rn_V} {vl2 : rn_V} {vl3 : rn_V} (hM : rn_sh M)   (hr1 : (-2147483648 : Int) ≤ (-1000) - (rn_gi M 466 9) ∧ (-1000) - (rn_gi M 466 9) ≤ 2147483647) (k1 : Q (some (rn_I ((-1000) - (rn_gi M 466 9)))) M) : rn_WP 201 80 [rn_R 466, vl1, vl2, vl3] [] M Q := by
  refine (rn_step (e := (.sipush (-1000), 83, 0, 0, 0, 0, 0, [])) rfl).mpr ?_
  refine (rn_step (e := (.aload_n 0, 84, 0, 0, 0, 0, 0, [])) rfl).mpr ?_
  refine (rn_step (e := (.getfield 185, 87, 10, 9, 911, 0, 11, [])) rfl).mpr (And.intro ((rn_ks466 (M := M) hM)) (?_))
  refine (rn_step (e := (.isub, 88, 0, 0, 0, 0, 0, [])) rfl).mpr (rn_cw hr1.1 hr1.2 ?_)
  exact (rn_step (e := (.ireturn, 89, 0, 0, 0, 0, 0, [])) rfl).mpr (And.intro (trivial) (k1))
set_option maxRecDepth 4000 in
theorem rb_Mo_load_91 {M : rn_M} {Q : rn_Q} {vl1 : rn_V} {vl2 : rn_V} {xl3 : Int} (hM : rn_sh M)   (hr1 : (xl3 < 562) → (0 : Int) ≤ xl3 ∧ xl3 < (562 : Int) ∧ (-2147483648 : Int) ≤ xl3 + 1 ∧ xl3 + 1 ≤ 2147483647) (k1 : (xl3 < 562) → rn_WP 201 91 [rn_R 466, vl1, vl2, rn_I (xl3 + 1)] [] (rn_si M 475 (xl3).toNat (rn_gi M 467 (xl3).toNat)) Q) (k2 : (¬ (xl3 < 562)) → rn_ME 203 [rn_R 466] M (fun r M1 => rn_WP 201 120 [rn_R 466, vl1, vl2, rn_I xl3] (r.toList ++ []) M1 Q)) : rn_WP 201 91 [rn_R 466, vl1, vl2, rn_I xl3] [] M Q := by
  refine (rn_step (e := (.iload_n 3, 92, 3, 0, 0, 0, 0, [])) rfl).mpr ?_
  refine (rn_step (e := (.sipush 562, 95, 0, 0, 0, 0, 0, [])) rfl).mpr ?_
  refine (rn_step (e := (.if_icmp .ge 21, 98, 116, 0, 0, 0, 0, [])) rfl).mpr (And.intro (fun c1 => ?_) (fun c1 => ?_))
  ·
    refine (rn_step (e := (.aload_n 0, 99, 0, 0, 0, 0, 0, [])) rfl).mpr ?_
    refine (rn_step (e := (.getfield 34, 102, 10, 14, 916, 2, 11, [])) rfl).mpr (And.intro ((rn_ks466 (M := M) hM)) (rn_cg (rn_g466_14 (M := M) hM) ?_))
    refine (rn_step (e := (.iload_n 3, 103, 3, 0, 0, 0, 0, [])) rfl).mpr ?_
    refine (rn_step (e := (.aload_n 0, 104, 0, 0, 0, 0, 0, [])) rfl).mpr ?_
    refine (rn_step (e := (.getfield 7, 107, 10, 0, 902, 2, 11, [])) rfl).mpr (And.intro ((rn_ks466 (M := M) hM)) (rn_cg (rn_g466_0 (M := M) hM) ?_))
    refine (rn_step (e := (.iload_n 3, 108, 3, 0, 0, 0, 0, [])) rfl).mpr ?_
    refine (rn_step (e := (.iaload, 109, 0, 0, 0, 0, 0, [])) rfl).mpr (And.intro (Or.inl (rn_w467 (M := M) hM).1) (And.intro ((And.intro ((hr1 c1).1) (rn_lt (rn_w467 (M := M) hM).2 (hr1 c1).2.1))) (?_)))
    refine (rn_step (e := (.iastore, 110, 0, 0, 0, 0, 0, [])) rfl).mpr (And.intro ((rn_w475 (M := M) hM).1) (And.intro ((And.intro ((hr1 c1).1) (rn_lt (rn_w475 (M := M) hM).2 (hr1 c1).2.1))) (?_)))
    refine (rn_step (e := (.iinc 3 1, 113, 3, 0, 0, 0, 0, [])) rfl).mpr (rn_ci (hr1 c1).2.2.1 (hr1 c1).2.2.2 ?_)
    refine (rn_step (e := (.goto (-22), 116, 91, 0, 0, 0, 0, [])) rfl).mpr ?_
    exact (k1 c1)
  ·
    refine (rn_step (e := (.aload_n 0, 117, 0, 0, 0, 0, 0, [])) rfl).mpr ?_
    exact (rn_step (e := (.invokevirtual 225, 120, 203, 1, 1254, 0, 11, [0])) rfl).mpr (And.intro ((rn_ks466 (M := M) hM)) ((k2 c1)))
set_option maxRecDepth 4000 in
theorem rb_Mo_load_120 {M : rn_M} {Q : rn_Q} {vl1 : rn_V} {vl2 : rn_V} {vl3 : rn_V} (hM : rn_sh M)   (k1 : rn_ME 125 [rn_R 466] M (fun r M1 => rn_WP 201 124 [rn_R 466, vl1, vl2, vl3] (r.toList ++ []) M1 Q)) : rn_WP 201 120 [rn_R 466, vl1, vl2, vl3] [] M Q := by
  refine (rn_step (e := (.aload_n 0, 121, 0, 0, 0, 0, 0, [])) rfl).mpr ?_
  exact (rn_step (e := (.invokevirtual 70, 124, 125, 1, 968, 0, 11, [0])) rfl).mpr (And.intro ((rn_ks466 (M := M) hM)) (k1))
set_option maxRecDepth 4000 in
theorem rb_Mo_load_124 {M : rn_M} {Q : rn_Q} {vl0 : rn_V} {vl1 : rn_V} {vl2 : rn_V} {vl3 : rn_V}   (k1 : rn_WP 201 126 [vl0, vl1, vl2, rn_I 0] [] M Q) : rn_WP 201 124 [vl0, vl1, vl2, vl3] [] M Q := by
  refine (rn_step (e := (.iconst 0, 125, 0, 0, 0, 0, 0, [])) rfl).mpr ?_
  refine (rn_step (e := (.istore_n 3, 126, 3, 0, 0, 0, 0, [])) rfl).mpr ?_
  exact k1
set_option maxRecDepth 4000 in
theorem rb_Mo_load_126 {M : rn_M} {Q : rn_Q} {xl1 : Int} {vl2 : rn_V} {xl3 : Int} (hM : rn_sh M)   (hr1 : (xl3 < 562) → (0 : Int) ≤ xl3 ∧ xl3 < (562 : Int) ∧ (-2147483648 : Int) ≤ xl3 + 1 ∧ xl3 + 1 ≤ 2147483647) (k1 : (xl3 < 562) → rn_WP 201 126 [rn_R 466, rn_I xl1, vl2, rn_I (xl3 + 1)] [] (rn_si M 467 (xl3).toNat (rn_gi M 475 (xl3).toNat)) Q) (k2 : (¬ (xl3 < 562)) → Q (some (rn_I xl1)) (rn_si M 466 4 0)) : rn_WP 201 126 [rn_R 466, rn_I xl1, vl2, rn_I xl3] [] M Q := by
  refine (rn_step (e := (.iload_n 3, 127, 3, 0, 0, 0, 0, [])) rfl).mpr ?_
  refine (rn_step (e := (.sipush 562, 130, 0, 0, 0, 0, 0, [])) rfl).mpr ?_
  refine (rn_step (e := (.if_icmp .ge 21, 133, 151, 0, 0, 0, 0, [])) rfl).mpr (And.intro (fun c1 => ?_) (fun c1 => ?_))
  ·
    refine (rn_step (e := (.aload_n 0, 134, 0, 0, 0, 0, 0, [])) rfl).mpr ?_
    refine (rn_step (e := (.getfield 7, 137, 10, 0, 902, 2, 11, [])) rfl).mpr (And.intro ((rn_ks466 (M := M) hM)) (rn_cg (rn_g466_0 (M := M) hM) ?_))
    refine (rn_step (e := (.iload_n 3, 138, 3, 0, 0, 0, 0, [])) rfl).mpr ?_
    refine (rn_step (e := (.aload_n 0, 139, 0, 0, 0, 0, 0, [])) rfl).mpr ?_
    refine (rn_step (e := (.getfield 34, 142, 10, 14, 916, 2, 11, [])) rfl).mpr (And.intro ((rn_ks466 (M := M) hM)) (rn_cg (rn_g466_14 (M := M) hM) ?_))
    refine (rn_step (e := (.iload_n 3, 143, 3, 0, 0, 0, 0, [])) rfl).mpr ?_
    refine (rn_step (e := (.iaload, 144, 0, 0, 0, 0, 0, [])) rfl).mpr (And.intro (Or.inl (rn_w475 (M := M) hM).1) (And.intro ((And.intro ((hr1 c1).1) (rn_lt (rn_w475 (M := M) hM).2 (hr1 c1).2.1))) (?_)))
    refine (rn_step (e := (.iastore, 145, 0, 0, 0, 0, 0, [])) rfl).mpr (And.intro ((rn_w467 (M := M) hM).1) (And.intro ((And.intro ((hr1 c1).1) (rn_lt (rn_w467 (M := M) hM).2 (hr1 c1).2.1))) (?_)))
    refine (rn_step (e := (.iinc 3 1, 148, 3, 0, 0, 0, 0, [])) rfl).mpr (rn_ci (hr1 c1).2.2.1 (hr1 c1).2.2.2 ?_)
    refine (rn_step (e := (.goto (-22), 151, 126, 0, 0, 0, 0, [])) rfl).mpr ?_
    exact (k1 c1)
  ·
    refine (rn_step (e := (.aload_n 0, 152, 0, 0, 0, 0, 0, [])) rfl).mpr ?_
    refine (rn_step (e := (.iconst 0, 153, 0, 0, 0, 0, 0, [])) rfl).mpr ?_
    refine (rn_step (e := (.putfield 167, 156, 10, 4, 906, 0, 11, [])) rfl).mpr (And.intro ((rn_ks466 (M := M) hM)) (?_))
    refine (rn_step (e := (.iload_n 1, 157, 1, 0, 0, 0, 0, [])) rfl).mpr ?_
    exact (rn_step (e := (.ireturn, 158, 0, 0, 0, 0, 0, [])) rfl).mpr (And.intro (trivial) ((k2 c1)))
theorem re_Mo_keeps {M : rn_M} {Q : rn_Q} {v0 : rn_V} (h : rn_WP 202 0 [v0, rn_J] [] M Q) : rn_ME 202 [v0] M Q := h
set_option maxRecDepth 4000 in
theorem rb_Mo_keeps_0 {M : rn_M} {Q : rn_Q} {vl0 : rn_V} {vl1 : rn_V}   (k1 : rn_WP 202 2 [vl0, rn_I 0] [] M Q) : rn_WP 202 0 [vl0, vl1] [] M Q := by
  refine (rn_step (e := (.iconst 0, 1, 0, 0, 0, 0, 0, [])) rfl).mpr ?_
  refine (rn_step (e := (.istore_n 1, 2, 1, 0, 0, 0, 0, [])) rfl).mpr ?_
  exact k1
set_option maxRecDepth 4000 in
theorem rb_Mo_keeps_2 {M : rn_M} {Q : rn_Q} {xl1 : Int} (hM : rn_sh M)   (hr1 : (xl1 < 562) → (0 : Int) ≤ xl1 ∧ xl1 < (562 : Int) ∧ (-2147483648 : Int) ≤ xl1 + 1 ∧ xl1 + 1 ≤ 2147483647) (k1 : (xl1 < 562) → rn_WP 202 2 [rn_R 466, rn_I (xl1 + 1)] [] (rn_si M 474 (xl1).toNat (rn_gi M 467 (xl1).toNat)) Q) (k2 : (¬ (xl1 < 562)) → Q none M) : rn_WP 202 2 [rn_R 466, rn_I xl1] [] M Q := by
  refine (rn_step (e := (.iload_n 1, 3, 1, 0, 0, 0, 0, [])) rfl).mpr ?_
  refine (rn_step (e := (.sipush 562, 6, 0, 0, 0, 0, 0, [])) rfl).mpr ?_
  refine (rn_step (e := (.if_icmp .ge 21, 9, 27, 0, 0, 0, 0, [])) rfl).mpr (And.intro (fun c1 => ?_) (fun c1 => ?_))
  ·
    refine (rn_step (e := (.aload_n 0, 10, 0, 0, 0, 0, 0, [])) rfl).mpr ?_
    refine (rn_step (e := (.getfield 31, 13, 10, 13, 915, 2, 11, [])) rfl).mpr (And.intro ((rn_ks466 (M := M) hM)) (rn_cg (rn_g466_13 (M := M) hM) ?_))
    refine (rn_step (e := (.iload_n 1, 14, 1, 0, 0, 0, 0, [])) rfl).mpr ?_
    refine (rn_step (e := (.aload_n 0, 15, 0, 0, 0, 0, 0, [])) rfl).mpr ?_
    refine (rn_step (e := (.getfield 7, 18, 10, 0, 902, 2, 11, [])) rfl).mpr (And.intro ((rn_ks466 (M := M) hM)) (rn_cg (rn_g466_0 (M := M) hM) ?_))
    refine (rn_step (e := (.iload_n 1, 19, 1, 0, 0, 0, 0, [])) rfl).mpr ?_
    refine (rn_step (e := (.iaload, 20, 0, 0, 0, 0, 0, [])) rfl).mpr (And.intro (Or.inl (rn_w467 (M := M) hM).1) (And.intro ((And.intro ((hr1 c1).1) (rn_lt (rn_w467 (M := M) hM).2 (hr1 c1).2.1))) (?_)))
    refine (rn_step (e := (.iastore, 21, 0, 0, 0, 0, 0, [])) rfl).mpr (And.intro ((rn_w474 (M := M) hM).1) (And.intro ((And.intro ((hr1 c1).1) (rn_lt (rn_w474 (M := M) hM).2 (hr1 c1).2.1))) (?_)))
    refine (rn_step (e := (.iinc 1 1, 24, 1, 0, 0, 0, 0, [])) rfl).mpr (rn_ci (hr1 c1).2.2.1 (hr1 c1).2.2.2 ?_)
    refine (rn_step (e := (.goto (-22), 27, 2, 0, 0, 0, 0, [])) rfl).mpr ?_
    exact (k1 c1)
  ·
    exact (rn_step (e := (.return_, 28, 0, 0, 0, 0, 0, [])) rfl).mpr (k2 c1)
theorem re_Mo_takesBack {M : rn_M} {Q : rn_Q} {v0 : rn_V} (h : rn_WP 203 0 [v0, rn_J] [] M Q) : rn_ME 203 [v0] M Q := h
set_option maxRecDepth 4000 in
theorem rb_Mo_takesBack_0 {M : rn_M} {Q : rn_Q} {vl0 : rn_V} {vl1 : rn_V}   (k1 : rn_WP 203 2 [vl0, rn_I 0] [] M Q) : rn_WP 203 0 [vl0, vl1] [] M Q := by
  refine (rn_step (e := (.iconst 0, 1, 0, 0, 0, 0, 0, [])) rfl).mpr ?_
  refine (rn_step (e := (.istore_n 1, 2, 1, 0, 0, 0, 0, [])) rfl).mpr ?_
  exact k1
set_option maxRecDepth 4000 in
theorem rb_Mo_takesBack_2 {M : rn_M} {Q : rn_Q} {xl1 : Int} (hM : rn_sh M)   (hr1 : (xl1 < 562) → (0 : Int) ≤ xl1 ∧ xl1 < (562 : Int) ∧ (-2147483648 : Int) ≤ xl1 + 1 ∧ xl1 + 1 ≤ 2147483647) (k1 : (xl1 < 562) → rn_WP 203 2 [rn_R 466, rn_I (xl1 + 1)] [] (rn_si M 467 (xl1).toNat (rn_gi M 474 (xl1).toNat)) Q) (k2 : (¬ (xl1 < 562)) → Q none M) : rn_WP 203 2 [rn_R 466, rn_I xl1] [] M Q := by
  refine (rn_step (e := (.iload_n 1, 3, 1, 0, 0, 0, 0, [])) rfl).mpr ?_
  refine (rn_step (e := (.sipush 562, 6, 0, 0, 0, 0, 0, [])) rfl).mpr ?_
  refine (rn_step (e := (.if_icmp .ge 21, 9, 27, 0, 0, 0, 0, [])) rfl).mpr (And.intro (fun c1 => ?_) (fun c1 => ?_))
  ·
    refine (rn_step (e := (.aload_n 0, 10, 0, 0, 0, 0, 0, [])) rfl).mpr ?_
    refine (rn_step (e := (.getfield 7, 13, 10, 0, 902, 2, 11, [])) rfl).mpr (And.intro ((rn_ks466 (M := M) hM)) (rn_cg (rn_g466_0 (M := M) hM) ?_))
    refine (rn_step (e := (.iload_n 1, 14, 1, 0, 0, 0, 0, [])) rfl).mpr ?_
    refine (rn_step (e := (.aload_n 0, 15, 0, 0, 0, 0, 0, [])) rfl).mpr ?_
    refine (rn_step (e := (.getfield 31, 18, 10, 13, 915, 2, 11, [])) rfl).mpr (And.intro ((rn_ks466 (M := M) hM)) (rn_cg (rn_g466_13 (M := M) hM) ?_))
    refine (rn_step (e := (.iload_n 1, 19, 1, 0, 0, 0, 0, [])) rfl).mpr ?_
    refine (rn_step (e := (.iaload, 20, 0, 0, 0, 0, 0, [])) rfl).mpr (And.intro (Or.inl (rn_w474 (M := M) hM).1) (And.intro ((And.intro ((hr1 c1).1) (rn_lt (rn_w474 (M := M) hM).2 (hr1 c1).2.1))) (?_)))
    refine (rn_step (e := (.iastore, 21, 0, 0, 0, 0, 0, [])) rfl).mpr (And.intro ((rn_w467 (M := M) hM).1) (And.intro ((And.intro ((hr1 c1).1) (rn_lt (rn_w467 (M := M) hM).2 (hr1 c1).2.1))) (?_)))
    refine (rn_step (e := (.iinc 1 1, 24, 1, 0, 0, 0, 0, [])) rfl).mpr (rn_ci (hr1 c1).2.2.1 (hr1 c1).2.2.2 ?_)
    refine (rn_step (e := (.goto (-22), 27, 2, 0, 0, 0, 0, [])) rfl).mpr ?_
    exact (k1 c1)
  ·
    exact (rn_step (e := (.return_, 28, 0, 0, 0, 0, 0, [])) rfl).mpr (k2 c1)
