theorem re_RN_append {M : rn_M} {Q : rn_Q} {v0 v1 : rn_V} (h : rn_WP 91 0 [v0, v1] [] M Q) : rn_ME 91 [v0, v1] M Q := h
set_option maxRecDepth 4000 in
theorem rb_RN_append_0 {M : rn_M} {Q : rn_Q} {xl1 : Int} (hM : rn_sh M)   (k1 : (¬ (1 ≤ xl1 ∧ xl1 ≤ 255)) → Q (some (rn_I (-1))) M) (k2 : (1 ≤ xl1 ∧ xl1 ≤ 255) → rn_ME 83 [rn_R 10, rn_I xl1] M (fun r M1 => rn_WP 91 24 [rn_R 8, rn_I xl1] (r.toList ++ []) M1 Q)) : rn_WP 91 0 [rn_R 8, rn_I xl1] [] M Q := by
  refine (rn_step (e := (.iload_n 1, 1, 1, 0, 0, 0, 0, [])) rfl).mpr ?_
  refine (rn_step (e := (.iconst 1, 2, 0, 0, 0, 0, 0, [])) rfl).mpr ?_
  refine (rn_step (e := (.sipush 255, 5, 0, 0, 0, 0, 0, [])) rfl).mpr ?_
  refine (rn_step (e := (.invokestatic 37, 8, 118, 3, 457, 0, 10, [0])) rfl).mpr (rc_RN_within  ?_)
  refine (rn_step (e := (.ifCond .ne 5, 11, 13, 0, 0, 0, 0, [])) rfl).mpr (And.intro (fun q => ?_) (fun q => ?_))
  · have c1 := rn_b0 q
    refine (rn_step (e := (.iconst (-1), 12, 0, 0, 0, 0, 0, [])) rfl).mpr ?_
    exact (rn_step (e := (.ireturn, 13, 0, 0, 0, 0, 0, [])) rfl).mpr (And.intro (trivial) ((k1 c1)))
  · have c1 := rn_b1 q
    refine (rn_step (e := (.aload_n 0, 14, 0, 0, 0, 0, 0, [])) rfl).mpr ?_
    refine (rn_step (e := (.getfield 12, 17, 9, 0, 252, 2, 10, [])) rfl).mpr (And.intro ((rn_ks8 (M := M) hM)) (rn_cg (rn_g8_0 (M := M) hM) ?_))
    refine (rn_step (e := (.getfield 41, 20, 4, 0, 59, 2, 5, [])) rfl).mpr (And.intro ((rn_ks9 (M := M) hM)) (rn_cg (rn_g9_0 (M := M) hM) ?_))
    refine (rn_step (e := (.iload_n 1, 21, 1, 0, 0, 0, 0, [])) rfl).mpr ?_
    exact (rn_step (e := (.invokevirtual 45, 24, 83, 2, 504, 0, 8, [0])) rfl).mpr (And.intro ((rn_ks10 (M := M) hM)) ((k2 c1)))
set_option maxRecDepth 4000 in
theorem rb_RN_append_24 {M : rn_M} {Q : rn_Q} {vl1 : rn_V} {xs0 : Int} (hM : rn_sh M)   (k1 : (xs0 = 0) → Q (some (rn_I (-3))) M) (k2 : (¬ (xs0 = 0)) → Q (some (rn_I (rn_gi M 10 0))) M) : rn_WP 91 24 [rn_R 8, vl1] [rn_I xs0] M Q := by
  refine (rn_step (e := (.ifCond .eq 16, 27, 40, 0, 0, 0, 0, [])) rfl).mpr (And.intro (fun c1 => ?_) (fun c1 => ?_))
  ·
    refine (rn_step (e := (.bipush (-3), 42, 0, 0, 0, 0, 0, [])) rfl).mpr ?_
    exact (rn_step (e := (.ireturn, 43, 0, 0, 0, 0, 0, [])) rfl).mpr (And.intro (trivial) ((k1 c1)))
  ·
    refine (rn_step (e := (.aload_n 0, 28, 0, 0, 0, 0, 0, [])) rfl).mpr ?_
    refine (rn_step (e := (.getfield 12, 31, 9, 0, 252, 2, 10, [])) rfl).mpr (And.intro ((rn_ks8 (M := M) hM)) (rn_cg (rn_g8_0 (M := M) hM) ?_))
    refine (rn_step (e := (.getfield 41, 34, 4, 0, 59, 2, 5, [])) rfl).mpr (And.intro ((rn_ks9 (M := M) hM)) (rn_cg (rn_g9_0 (M := M) hM) ?_))
    refine (rn_step (e := (.getfield 51, 37, 7, 0, 50, 0, 8, [])) rfl).mpr (And.intro ((rn_ks10 (M := M) hM)) (?_))
    refine (rn_step (e := (.goto 5, 40, 42, 0, 0, 0, 0, [])) rfl).mpr ?_
    exact (rn_step (e := (.ireturn, 43, 0, 0, 0, 0, 0, [])) rfl).mpr (And.intro (trivial) ((k2 c1)))
theorem re_RN_addRiver {M : rn_M} {Q : rn_Q} {v0 v1 v2 v3 v4 v5 : rn_V} (h : rn_WP 94 0 [v0, v1, v2, v3, v4, v5, rn_J, rn_J] [] M Q) : rn_ME 94 [v0, v1, v2, v3, v4, v5] M Q := h
set_option maxRecDepth 4000 in
theorem rb_RN_addRiver_0 {M : rn_M} {Q : rn_Q} {xl1 : Int} {xl2 : Int} {xl3 : Int} {xl4 : Int} {xl5 : Int} {vl6 : rn_V} {vl7 : rn_V} (hM : rn_sh M)   (k1 : (¬ (1 ≤ xl1 ∧ xl1 ≤ 12)) → Q (some (rn_I (-1))) M) (k2 : (1 ≤ xl1 ∧ xl1 ≤ 12) → (¬ ((0 ≤ xl2 ∧ xl2 < 60) ∧ 0 ≤ xl3 ∧ xl3 < 40)) → Q (some (rn_I (-1))) M) (k3 : (1 ≤ xl1 ∧ xl1 ≤ 12) → ((0 ≤ xl2 ∧ xl2 < 60) ∧ 0 ≤ xl3 ∧ xl3 < 40) → (¬ (1 ≤ xl4 ∧ xl4 ≤ 9)) → Q (some (rn_I (-1))) M) (k4 : (1 ≤ xl1 ∧ xl1 ≤ 12) → ((0 ≤ xl2 ∧ xl2 < 60) ∧ 0 ≤ xl3 ∧ xl3 < 40) → (1 ≤ xl4 ∧ xl4 ≤ 9) → (¬ (0 ≤ xl5 ∧ xl5 ≤ 2)) → Q (some (rn_I (-1))) M) (k5 : (1 ≤ xl1 ∧ xl1 ≤ 12) → ((0 ≤ xl2 ∧ xl2 < 60) ∧ 0 ≤ xl3 ∧ xl3 < 40) → (1 ≤ xl4 ∧ xl4 ≤ 9) → (0 ≤ xl5 ∧ xl5 ≤ 2) → rn_ME 21 [rn_R 12] M (fun r M1 => rn_WP 94 43 [rn_R 8, rn_I xl1, rn_I xl2, rn_I xl3, rn_I xl4, rn_I xl5, vl6, vl7] (r.toList ++ []) M1 Q)) : rn_WP 94 0 [rn_R 8, rn_I xl1, rn_I xl2, rn_I xl3, rn_I xl4, rn_I xl5, vl6, vl7] [] M Q := by
  refine (rn_step (e := (.iload_n 1, 1, 1, 0, 0, 0, 0, [])) rfl).mpr ?_
  refine (rn_step (e := (.iconst 1, 2, 0, 0, 0, 0, 0, [])) rfl).mpr ?_
  refine (rn_step (e := (.bipush 12, 4, 0, 0, 0, 0, 0, [])) rfl).mpr ?_
  refine (rn_step (e := (.invokestatic 37, 7, 118, 3, 457, 0, 10, [0])) rfl).mpr (rc_RN_within  ?_)
  refine (rn_step (e := (.ifCond .eq 27, 10, 34, 0, 0, 0, 0, [])) rfl).mpr (And.intro (fun q => ?_) (fun q => ?_))
  · have c1 := rn_b0 q
    refine (rn_step (e := (.iconst (-1), 35, 0, 0, 0, 0, 0, [])) rfl).mpr ?_
    exact (rn_step (e := (.ireturn, 36, 0, 0, 0, 0, 0, [])) rfl).mpr (And.intro (trivial) ((k1 c1)))
  · have c1 := rn_b1 q
    refine (rn_step (e := (.iload_n 2, 11, 2, 0, 0, 0, 0, [])) rfl).mpr ?_
    refine (rn_step (e := (.iload_n 3, 12, 3, 0, 0, 0, 0, [])) rfl).mpr ?_
    refine (rn_step (e := (.invokestatic 70, 15, 119, 2, 513, 0, 10, [0])) rfl).mpr (rc_RN_onMap  ?_)
    refine (rn_step (e := (.ifCond .eq 19, 18, 34, 0, 0, 0, 0, [])) rfl).mpr (And.intro (fun q => ?_) (fun q => ?_))
    · have c2 := rn_b0 q
      refine (rn_step (e := (.iconst (-1), 35, 0, 0, 0, 0, 0, [])) rfl).mpr ?_
      exact (rn_step (e := (.ireturn, 36, 0, 0, 0, 0, 0, [])) rfl).mpr (And.intro (trivial) ((k2 c1 c2)))
    · have c2 := rn_b1 q
      refine (rn_step (e := (.iload 4, 20, 4, 0, 0, 0, 0, [])) rfl).mpr ?_
      refine (rn_step (e := (.invokestatic 74, 23, 120, 1, 514, 0, 10, [0])) rfl).mpr (rc_RN_isRank  ?_)
      refine (rn_step (e := (.ifCond .eq 11, 26, 34, 0, 0, 0, 0, [])) rfl).mpr (And.intro (fun q => ?_) (fun q => ?_))
      · have c3 := rn_b0 q
        refine (rn_step (e := (.iconst (-1), 35, 0, 0, 0, 0, 0, [])) rfl).mpr ?_
        exact (rn_step (e := (.ireturn, 36, 0, 0, 0, 0, 0, [])) rfl).mpr (And.intro (trivial) ((k3 c1 c2 c3)))
      · have c3 := rn_b1 q
        refine (rn_step (e := (.iload 5, 28, 5, 0, 0, 0, 0, [])) rfl).mpr ?_
        refine (rn_step (e := (.invokestatic 77, 31, 121, 1, 517, 0, 10, [0])) rfl).mpr (rc_RN_isHalo  ?_)
        refine (rn_step (e := (.ifCond .ne 5, 34, 36, 0, 0, 0, 0, [])) rfl).mpr (And.intro (fun q => ?_) (fun q => ?_))
        · have c4 := rn_b0 q
          refine (rn_step (e := (.iconst (-1), 35, 0, 0, 0, 0, 0, [])) rfl).mpr ?_
          exact (rn_step (e := (.ireturn, 36, 0, 0, 0, 0, 0, [])) rfl).mpr (And.intro (trivial) ((k4 c1 c2 c3 c4)))
        · have c4 := rn_b1 q
          refine (rn_step (e := (.aload_n 0, 37, 0, 0, 0, 0, 0, [])) rfl).mpr ?_
          refine (rn_step (e := (.getfield 19, 40, 9, 1, 253, 2, 10, [])) rfl).mpr (And.intro ((rn_ks8 (M := M) hM)) (rn_cg (rn_g8_1 (M := M) hM) ?_))
          exact (rn_step (e := (.invokevirtual 59, 43, 21, 1, 520, 0, 2, [0])) rfl).mpr (And.intro ((rn_ks12 (M := M) hM)) ((k5 c1 c2 c3 c4)))
set_option maxRecDepth 4000 in
theorem rb_RN_addRiver_43 {M : rn_M} {Q : rn_Q} {vl0 : rn_V} {vl1 : rn_V} {vl2 : rn_V} {vl3 : rn_V} {vl4 : rn_V} {vl5 : rn_V} {vl6 : rn_V} {vl7 : rn_V} {as0 : Nat} (hM : rn_sh M) (p_as0 : rn_isB as0)  (k1 : rn_ME 8 [rn_R as0] M (fun r M1 => rn_WP 94 46 [vl0, vl1, vl2, vl3, vl4, vl5, vl6, vl7] (r.toList ++ []) M1 Q)) : rn_WP 94 43 [vl0, vl1, vl2, vl3, vl4, vl5, vl6, vl7] [rn_R as0] M Q := by
  exact (rn_step (e := (.invokevirtual 80, 46, 8, 1, 575, 0, 1, [0])) rfl).mpr (And.intro ((rn_kB (M := M) hM p_as0)) (k1))
set_option maxRecDepth 4000 in
theorem rb_RN_addRiver_46n {M : rn_M} {Q : rn_Q} {vl0 : rn_V} {vl1 : rn_V} {vl2 : rn_V} {vl3 : rn_V} {vl4 : rn_V} {vl5 : rn_V} {vl6 : rn_V} {vl7 : rn_V}   (k1 : Q (some (rn_I (-3))) M) : rn_WP 94 46 [vl0, vl1, vl2, vl3, vl4, vl5, vl6, vl7] [rn_N] M Q := by
  refine (rn_step (e := (.astore 6, 48, 6, 0, 0, 0, 0, [])) rfl).mpr ?_
  refine (rn_step (e := (.aload 6, 50, 6, 0, 0, 0, 0, [])) rfl).mpr ?_
  refine (rn_step (e := (.ifnonnull 6, 53, 56, 0, 0, 0, 0, [])) rfl).mpr ?_
  refine (rn_step (e := (.bipush (-3), 55, 0, 0, 0, 0, 0, [])) rfl).mpr ?_
  exact (rn_step (e := (.ireturn, 56, 0, 0, 0, 0, 0, [])) rfl).mpr (And.intro (trivial) (k1))
set_option maxRecDepth 4000 in
theorem rb_RN_addRiver_46s {M : rn_M} {Q : rn_Q} {vl0 : rn_V} {vl1 : rn_V} {vl2 : rn_V} {vl3 : rn_V} {vl4 : rn_V} {vl5 : rn_V} {vl6 : rn_V} {vl7 : rn_V} {as0 : Nat}   (k1 : rn_WP 94 59 [vl0, vl1, vl2, vl3, vl4, vl5, rn_R as0, rn_I 0] [] M Q) : rn_WP 94 46 [vl0, vl1, vl2, vl3, vl4, vl5, vl6, vl7] [rn_R as0] M Q := by
  refine (rn_step (e := (.astore 6, 48, 6, 0, 0, 0, 0, [])) rfl).mpr ?_
  refine (rn_step (e := (.aload 6, 50, 6, 0, 0, 0, 0, [])) rfl).mpr ?_
  refine (rn_step (e := (.ifnonnull 6, 53, 56, 0, 0, 0, 0, [])) rfl).mpr ?_
  refine (rn_step (e := (.iconst 0, 57, 0, 0, 0, 0, 0, [])) rfl).mpr ?_
  refine (rn_step (e := (.istore 7, 59, 7, 0, 0, 0, 0, [])) rfl).mpr ?_
  exact k1
set_option maxRecDepth 4000 in
theorem rb_RN_addRiver_59 {M : rn_M} {Q : rn_Q} {vl0 : rn_V} {xl1 : Int} {xl2 : Int} {xl3 : Int} {xl4 : Int} {xl5 : Int} {al6 : Nat} {xl7 : Int} (hM : rn_sh M) (p_al6 : rn_isR al6)  (hr1 : (xl7 < xl1) → (-2147483648 : Int) ≤ 97 + xl7 ∧ 97 + xl7 ≤ 2147483647) (k1 : (xl7 < xl1) → rn_ME 60 [rn_R al6, rn_I (97 + xl7)] M (fun r M1 => rn_WP 94 75 [vl0, rn_I xl1, rn_I xl2, rn_I xl3, rn_I xl4, rn_I xl5, rn_R al6, rn_I xl7] (r.toList ++ []) M1 Q)) (k2 : (¬ (xl7 < xl1)) → rn_ME 61 [rn_R al6, rn_I xl2, rn_I xl3, rn_I xl4, rn_I xl5] M (fun r M1 => rn_WP 94 92 [vl0, rn_I xl1, rn_I xl2, rn_I xl3, rn_I xl4, rn_I xl5, rn_R al6, rn_I xl7] (r.toList ++ []) M1 Q)) : rn_WP 94 59 [vl0, rn_I xl1, rn_I xl2, rn_I xl3, rn_I xl4, rn_I xl5, rn_R al6, rn_I xl7] [] M Q := by
  refine (rn_step (e := (.iload 7, 61, 7, 0, 0, 0, 0, [])) rfl).mpr ?_
  refine (rn_step (e := (.iload_n 1, 62, 1, 0, 0, 0, 0, [])) rfl).mpr ?_
  refine (rn_step (e := (.if_icmp .ge 19, 65, 81, 0, 0, 0, 0, [])) rfl).mpr (And.intro (fun c1 => ?_) (fun c1 => ?_))
  ·
    refine (rn_step (e := (.aload 6, 67, 6, 0, 0, 0, 0, [])) rfl).mpr ?_
    refine (rn_step (e := (.bipush 97, 69, 0, 0, 0, 0, 0, [])) rfl).mpr ?_
    refine (rn_step (e := (.iload 7, 71, 7, 0, 0, 0, 0, [])) rfl).mpr ?_
    refine (rn_step (e := (.iadd, 72, 0, 0, 0, 0, 0, [])) rfl).mpr (rn_cw (hr1 c1).1 (hr1 c1).2 ?_)
    exact (rn_step (e := (.invokevirtual 86, 75, 60, 2, 576, 0, 6, [0])) rfl).mpr (And.intro ((rn_kR (M := M) hM p_al6)) ((k1 c1)))
  ·
    refine (rn_step (e := (.aload 6, 83, 6, 0, 0, 0, 0, [])) rfl).mpr ?_
    refine (rn_step (e := (.iload_n 2, 84, 2, 0, 0, 0, 0, [])) rfl).mpr ?_
    refine (rn_step (e := (.iload_n 3, 85, 3, 0, 0, 0, 0, [])) rfl).mpr ?_
    refine (rn_step (e := (.iload 4, 87, 4, 0, 0, 0, 0, [])) rfl).mpr ?_
    refine (rn_step (e := (.iload 5, 89, 5, 0, 0, 0, 0, [])) rfl).mpr ?_
    exact (rn_step (e := (.invokevirtual 92, 92, 61, 5, 580, 0, 6, [0])) rfl).mpr (And.intro ((rn_kR (M := M) hM p_al6)) ((k2 c1)))
set_option maxRecDepth 4000 in
theorem rb_RN_addRiver_75 {M : rn_M} {Q : rn_Q} {vl0 : rn_V} {vl1 : rn_V} {vl2 : rn_V} {vl3 : rn_V} {vl4 : rn_V} {vl5 : rn_V} {vl6 : rn_V} {xl7 : Int}   (hr1 : (-2147483648 : Int) ≤ xl7 + 1 ∧ xl7 + 1 ≤ 2147483647) (k1 : rn_WP 94 59 [vl0, vl1, vl2, vl3, vl4, vl5, vl6, rn_I (xl7 + 1)] [] M Q) : rn_WP 94 75 [vl0, vl1, vl2, vl3, vl4, vl5, vl6, rn_I xl7] [] M Q := by
  refine (rn_step (e := (.iinc 7 1, 78, 7, 0, 0, 0, 0, [])) rfl).mpr (rn_ci hr1.1 hr1.2 ?_)
  refine (rn_step (e := (.goto (-19), 81, 59, 0, 0, 0, 0, [])) rfl).mpr ?_
  exact k1
set_option maxRecDepth 4000 in
theorem rb_RN_addRiver_92 {M : rn_M} {Q : rn_Q} {vl1 : rn_V} {vl2 : rn_V} {vl3 : rn_V} {vl4 : rn_V} {vl5 : rn_V} {vl6 : rn_V} {vl7 : rn_V} (hM : rn_sh M)   (k1 : rn_ME 22 [rn_R 12] M (fun r M1 => rn_WP 94 99 [rn_R 8, vl1, vl2, vl3, vl4, vl5, vl6, vl7] (r.toList ++ []) M1 Q)) : rn_WP 94 92 [rn_R 8, vl1, vl2, vl3, vl4, vl5, vl6, vl7] [] M Q := by
  refine (rn_step (e := (.aload_n 0, 93, 0, 0, 0, 0, 0, [])) rfl).mpr ?_
  refine (rn_step (e := (.getfield 19, 96, 9, 1, 253, 2, 10, [])) rfl).mpr (And.intro ((rn_ks8 (M := M) hM)) (rn_cg (rn_g8_1 (M := M) hM) ?_))
  exact (rn_step (e := (.invokevirtual 67, 99, 22, 1, 584, 0, 2, [0])) rfl).mpr (And.intro ((rn_ks12 (M := M) hM)) (k1))
set_option maxRecDepth 4000 in
theorem rb_RN_addRiver_99 {M : rn_M} {Q : rn_Q} {vl0 : rn_V} {vl1 : rn_V} {vl2 : rn_V} {vl3 : rn_V} {vl4 : rn_V} {vl5 : rn_V} {al6 : Nat} {vl7 : rn_V} (hM : rn_sh M) (p_al6 : rn_isR al6)  (k1 : Q (some (rn_I (rn_gi M al6 0))) M) : rn_WP 94 99 [vl0, vl1, vl2, vl3, vl4, vl5, rn_R al6, vl7] [] M Q := by
  refine (rn_step (e := (.aload 6, 101, 6, 0, 0, 0, 0, [])) rfl).mpr ?_
  refine (rn_step (e := (.getfield 96, 104, 5, 0, 98, 0, 6, [])) rfl).mpr (And.intro ((rn_kR (M := M) hM p_al6)) (?_))
  exact (rn_step (e := (.ireturn, 105, 0, 0, 0, 0, 0, [])) rfl).mpr (And.intro (trivial) (k1))
theorem re_RN_addTown {M : rn_M} {Q : rn_Q} {v0 v1 v2 v3 v4 v5 : rn_V} (h : rn_WP 95 0 [v0, v1, v2, v3, v4, v5, rn_J, rn_J] [] M Q) : rn_ME 95 [v0, v1, v2, v3, v4, v5] M Q := h
set_option maxRecDepth 4000 in
theorem rb_RN_addTown_0 {M : rn_M} {Q : rn_Q} {xl1 : Int} {xl2 : Int} {xl3 : Int} {xl4 : Int} {xl5 : Int} {vl6 : rn_V} {vl7 : rn_V} (hM : rn_sh M)   (hr1 : ((0 ≤ xl1 ∧ xl1 < 60) ∧ 0 ≤ xl2 ∧ xl2 < 40) → (1 ≤ xl3 ∧ xl3 ≤ 12) → (1 ≤ xl4 ∧ xl4 ≤ 3) → (1 ≤ xl5 ∧ xl5 ≤ 9) → (-2147483648 : Int) ≤ xl1 + xl3 ∧ xl1 + xl3 ≤ 2147483647 ∧ (-2147483648 : Int) ≤ (xl1 + xl3) - 1 ∧ (xl1 + xl3) - 1 ≤ 2147483647 ∧ (-2147483648 : Int) ≤ xl2 + xl4 ∧ xl2 + xl4 ≤ 2147483647 ∧ (-2147483648 : Int) ≤ (xl2 + xl4) - 1 ∧ (xl2 + xl4) - 1 ≤ 2147483647) (k1 : (¬ ((0 ≤ xl1 ∧ xl1 < 60) ∧ 0 ≤ xl2 ∧ xl2 < 40)) → Q (some (rn_I (-1))) M) (k2 : ((0 ≤ xl1 ∧ xl1 < 60) ∧ 0 ≤ xl2 ∧ xl2 < 40) → (¬ (1 ≤ xl3 ∧ xl3 ≤ 12)) → Q (some (rn_I (-1))) M) (k3 : ((0 ≤ xl1 ∧ xl1 < 60) ∧ 0 ≤ xl2 ∧ xl2 < 40) → (1 ≤ xl3 ∧ xl3 ≤ 12) → (¬ (1 ≤ xl4 ∧ xl4 ≤ 3)) → Q (some (rn_I (-1))) M) (k4 : ((0 ≤ xl1 ∧ xl1 < 60) ∧ 0 ≤ xl2 ∧ xl2 < 40) → (1 ≤ xl3 ∧ xl3 ≤ 12) → (1 ≤ xl4 ∧ xl4 ≤ 3) → (¬ (1 ≤ xl5 ∧ xl5 ≤ 9)) → Q (some (rn_I (-1))) M) (k5 : ((0 ≤ xl1 ∧ xl1 < 60) ∧ 0 ≤ xl2 ∧ xl2 < 40) → (1 ≤ xl3 ∧ xl3 ≤ 12) → (1 ≤ xl4 ∧ xl4 ≤ 3) → (1 ≤ xl5 ∧ xl5 ≤ 9) → (¬ ((0 ≤ (xl1 + xl3) - 1 ∧ (xl1 + xl3) - 1 < 60) ∧ 0 ≤ (xl2 + xl4) - 1 ∧ (xl2 + xl4) - 1 < 40)) → Q (some (rn_I (-1))) M) (k6 : ((0 ≤ xl1 ∧ xl1 < 60) ∧ 0 ≤ xl2 ∧ xl2 < 40) → (1 ≤ xl3 ∧ xl3 ≤ 12) → (1 ≤ xl4 ∧ xl4 ≤ 3) → (1 ≤ xl5 ∧ xl5 ≤ 9) → ((0 ≤ (xl1 + xl3) - 1 ∧ (xl1 + xl3) - 1 < 60) ∧ 0 ≤ (xl2 + xl4) - 1 ∧ (xl2 + xl4) - 1 < 40) → rn_ME 21 [rn_R 12] M (fun r M1 => rn_WP 95 62 [rn_R 8, rn_I xl1, rn_I xl2, rn_I xl3, rn_I xl4, rn_I xl5, vl6, vl7] (r.toList ++ []) M1 Q)) : rn_WP 95 0 [rn_R 8, rn_I xl1, rn_I xl2, rn_I xl3, rn_I xl4, rn_I xl5, vl6, vl7] [] M Q := by
  refine (rn_step (e := (.iload_n 1, 1, 1, 0, 0, 0, 0, [])) rfl).mpr ?_
  refine (rn_step (e := (.iload_n 2, 2, 2, 0, 0, 0, 0, [])) rfl).mpr ?_
  refine (rn_step (e := (.invokestatic 70, 5, 119, 2, 513, 0, 10, [0])) rfl).mpr (rc_RN_onMap  ?_)
  refine (rn_step (e := (.ifCond .eq 48, 8, 53, 0, 0, 0, 0, [])) rfl).mpr (And.intro (fun q => ?_) (fun q => ?_))
  · have c1 := rn_b0 q
    refine (rn_step (e := (.iconst (-1), 54, 0, 0, 0, 0, 0, [])) rfl).mpr ?_
    exact (rn_step (e := (.ireturn, 55, 0, 0, 0, 0, 0, [])) rfl).mpr (And.intro (trivial) ((k1 c1)))
  · have c1 := rn_b1 q
    refine (rn_step (e := (.iload_n 3, 9, 3, 0, 0, 0, 0, [])) rfl).mpr ?_
    refine (rn_step (e := (.iconst 1, 10, 0, 0, 0, 0, 0, [])) rfl).mpr ?_
    refine (rn_step (e := (.bipush 12, 12, 0, 0, 0, 0, 0, [])) rfl).mpr ?_
    refine (rn_step (e := (.invokestatic 37, 15, 118, 3, 457, 0, 10, [0])) rfl).mpr (rc_RN_within  ?_)
    refine (rn_step (e := (.ifCond .eq 38, 18, 53, 0, 0, 0, 0, [])) rfl).mpr (And.intro (fun q => ?_) (fun q => ?_))
    · have c2 := rn_b0 q
      refine (rn_step (e := (.iconst (-1), 54, 0, 0, 0, 0, 0, [])) rfl).mpr ?_
      exact (rn_step (e := (.ireturn, 55, 0, 0, 0, 0, 0, [])) rfl).mpr (And.intro (trivial) ((k2 c1 c2)))
    · have c2 := rn_b1 q
      refine (rn_step (e := (.iload 4, 20, 4, 0, 0, 0, 0, [])) rfl).mpr ?_
      refine (rn_step (e := (.iconst 1, 21, 0, 0, 0, 0, 0, [])) rfl).mpr ?_
      refine (rn_step (e := (.iconst 3, 22, 0, 0, 0, 0, 0, [])) rfl).mpr ?_
      refine (rn_step (e := (.invokestatic 37, 25, 118, 3, 457, 0, 10, [0])) rfl).mpr (rc_RN_within  ?_)
      refine (rn_step (e := (.ifCond .eq 28, 28, 53, 0, 0, 0, 0, [])) rfl).mpr (And.intro (fun q => ?_) (fun q => ?_))
      · have c3 := rn_b0 q
        refine (rn_step (e := (.iconst (-1), 54, 0, 0, 0, 0, 0, [])) rfl).mpr ?_
        exact (rn_step (e := (.ireturn, 55, 0, 0, 0, 0, 0, [])) rfl).mpr (And.intro (trivial) ((k3 c1 c2 c3)))
      · have c3 := rn_b1 q
        refine (rn_step (e := (.iload 5, 30, 5, 0, 0, 0, 0, [])) rfl).mpr ?_
        refine (rn_step (e := (.invokestatic 74, 33, 120, 1, 514, 0, 10, [0])) rfl).mpr (rc_RN_isRank  ?_)
        refine (rn_step (e := (.ifCond .eq 20, 36, 53, 0, 0, 0, 0, [])) rfl).mpr (And.intro (fun q => ?_) (fun q => ?_))
        · have c4 := rn_b0 q
          refine (rn_step (e := (.iconst (-1), 54, 0, 0, 0, 0, 0, [])) rfl).mpr ?_
          exact (rn_step (e := (.ireturn, 55, 0, 0, 0, 0, 0, [])) rfl).mpr (And.intro (trivial) ((k4 c1 c2 c3 c4)))
        · have c4 := rn_b1 q
          refine (rn_step (e := (.iload_n 1, 37, 1, 0, 0, 0, 0, [])) rfl).mpr ?_
          refine (rn_step (e := (.iload_n 3, 38, 3, 0, 0, 0, 0, [])) rfl).mpr ?_
          refine (rn_step (e := (.iadd, 39, 0, 0, 0, 0, 0, [])) rfl).mpr (rn_cw (hr1 c1 c2 c3 c4).1 (hr1 c1 c2 c3 c4).2.1 ?_)
          refine (rn_step (e := (.iconst 1, 40, 0, 0, 0, 0, 0, [])) rfl).mpr ?_
          refine (rn_step (e := (.isub, 41, 0, 0, 0, 0, 0, [])) rfl).mpr (rn_cw (hr1 c1 c2 c3 c4).2.2.1 (hr1 c1 c2 c3 c4).2.2.2.1 ?_)
          refine (rn_step (e := (.iload_n 2, 42, 2, 0, 0, 0, 0, [])) rfl).mpr ?_
          refine (rn_step (e := (.iload 4, 44, 4, 0, 0, 0, 0, [])) rfl).mpr ?_
          refine (rn_step (e := (.iadd, 45, 0, 0, 0, 0, 0, [])) rfl).mpr (rn_cw (hr1 c1 c2 c3 c4).2.2.2.2.1 (hr1 c1 c2 c3 c4).2.2.2.2.2.1 ?_)
          refine (rn_step (e := (.iconst 1, 46, 0, 0, 0, 0, 0, [])) rfl).mpr ?_
          refine (rn_step (e := (.isub, 47, 0, 0, 0, 0, 0, [])) rfl).mpr (rn_cw (hr1 c1 c2 c3 c4).2.2.2.2.2.2.1 (hr1 c1 c2 c3 c4).2.2.2.2.2.2.2 ?_)
          refine (rn_step (e := (.invokestatic 70, 50, 119, 2, 513, 0, 10, [0])) rfl).mpr (rc_RN_onMap  ?_)
          refine (rn_step (e := (.ifCond .ne 5, 53, 55, 0, 0, 0, 0, [])) rfl).mpr (And.intro (fun q => ?_) (fun q => ?_))
          · have c5 := rn_b0 q
            refine (rn_step (e := (.iconst (-1), 54, 0, 0, 0, 0, 0, [])) rfl).mpr ?_
            exact (rn_step (e := (.ireturn, 55, 0, 0, 0, 0, 0, [])) rfl).mpr (And.intro (trivial) ((k5 c1 c2 c3 c4 c5)))
          · have c5 := rn_b1 q
            refine (rn_step (e := (.aload_n 0, 56, 0, 0, 0, 0, 0, [])) rfl).mpr ?_
            refine (rn_step (e := (.getfield 19, 59, 9, 1, 253, 2, 10, [])) rfl).mpr (And.intro ((rn_ks8 (M := M) hM)) (rn_cg (rn_g8_1 (M := M) hM) ?_))
            exact (rn_step (e := (.invokevirtual 59, 62, 21, 1, 520, 0, 2, [0])) rfl).mpr (And.intro ((rn_ks12 (M := M) hM)) ((k6 c1 c2 c3 c4 c5)))
set_option maxRecDepth 4000 in
theorem rb_RN_addTown_62 {M : rn_M} {Q : rn_Q} {vl0 : rn_V} {vl1 : rn_V} {vl2 : rn_V} {vl3 : rn_V} {vl4 : rn_V} {vl5 : rn_V} {vl6 : rn_V} {vl7 : rn_V} {as0 : Nat} (hM : rn_sh M) (p_as0 : rn_isB as0)  (k1 : rn_ME 9 [rn_R as0] M (fun r M1 => rn_WP 95 69 [vl0, vl1, vl2, vl3, vl4, vl5, rn_R as0, vl7] (r.toList ++ []) M1 Q)) : rn_WP 95 62 [vl0, vl1, vl2, vl3, vl4, vl5, vl6, vl7] [rn_R as0] M Q := by
  refine (rn_step (e := (.astore 6, 64, 6, 0, 0, 0, 0, [])) rfl).mpr ?_
  refine (rn_step (e := (.aload 6, 66, 6, 0, 0, 0, 0, [])) rfl).mpr ?_
  exact (rn_step (e := (.invokevirtual 99, 69, 9, 1, 596, 0, 1, [0])) rfl).mpr (And.intro ((rn_kB (M := M) hM p_as0)) (k1))
set_option maxRecDepth 4000 in
theorem rb_RN_addTown_69n {M : rn_M} {Q : rn_Q} {vl0 : rn_V} {vl1 : rn_V} {vl2 : rn_V} {vl3 : rn_V} {vl4 : rn_V} {vl5 : rn_V} {vl6 : rn_V} {vl7 : rn_V}   (k1 : Q (some (rn_I (-3))) M) : rn_WP 95 69 [vl0, vl1, vl2, vl3, vl4, vl5, vl6, vl7] [rn_N] M Q := by
  refine (rn_step (e := (.astore 7, 71, 7, 0, 0, 0, 0, [])) rfl).mpr ?_
  refine (rn_step (e := (.aload 7, 73, 7, 0, 0, 0, 0, [])) rfl).mpr ?_
  refine (rn_step (e := (.ifnonnull 6, 76, 79, 0, 0, 0, 0, [])) rfl).mpr ?_
  refine (rn_step (e := (.bipush (-3), 78, 0, 0, 0, 0, 0, [])) rfl).mpr ?_
  exact (rn_step (e := (.ireturn, 79, 0, 0, 0, 0, 0, [])) rfl).mpr (And.intro (trivial) (k1))
set_option maxRecDepth 4000 in
theorem rb_RN_addTown_69s {M : rn_M} {Q : rn_Q} {vl0 : rn_V} {xl1 : Int} {xl2 : Int} {xl3 : Int} {xl4 : Int} {xl5 : Int} {vl6 : rn_V} {vl7 : rn_V} {as0 : Nat} (hM : rn_sh M) (p_as0 : rn_isT as0)  (k1 : rn_ME 87 [rn_R as0, rn_I xl1, rn_I xl2, rn_I xl3, rn_I xl4, rn_I xl5] M (fun r M1 => rn_WP 95 91 [vl0, rn_I xl1, rn_I xl2, rn_I xl3, rn_I xl4, rn_I xl5, vl6, rn_R as0] (r.toList ++ []) M1 Q)) : rn_WP 95 69 [vl0, rn_I xl1, rn_I xl2, rn_I xl3, rn_I xl4, rn_I xl5, vl6, vl7] [rn_R as0] M Q := by
  refine (rn_step (e := (.astore 7, 71, 7, 0, 0, 0, 0, [])) rfl).mpr ?_
  refine (rn_step (e := (.aload 7, 73, 7, 0, 0, 0, 0, [])) rfl).mpr ?_
  refine (rn_step (e := (.ifnonnull 6, 76, 79, 0, 0, 0, 0, [])) rfl).mpr ?_
  refine (rn_step (e := (.aload 7, 81, 7, 0, 0, 0, 0, [])) rfl).mpr ?_
  refine (rn_step (e := (.iload_n 1, 82, 1, 0, 0, 0, 0, [])) rfl).mpr ?_
  refine (rn_step (e := (.iload_n 2, 83, 2, 0, 0, 0, 0, [])) rfl).mpr ?_
  refine (rn_step (e := (.iload_n 3, 84, 3, 0, 0, 0, 0, [])) rfl).mpr ?_
  refine (rn_step (e := (.iload 4, 86, 4, 0, 0, 0, 0, [])) rfl).mpr ?_
  refine (rn_step (e := (.iload 5, 88, 5, 0, 0, 0, 0, [])) rfl).mpr ?_
  exact (rn_step (e := (.invokevirtual 103, 91, 87, 6, 597, 0, 9, [0])) rfl).mpr (And.intro ((rn_kT (M := M) hM p_as0)) (k1))
set_option maxRecDepth 4000 in
theorem rb_RN_addTown_91 {M : rn_M} {Q : rn_Q} {vl1 : rn_V} {vl2 : rn_V} {vl3 : rn_V} {vl4 : rn_V} {vl5 : rn_V} {vl6 : rn_V} {vl7 : rn_V} (hM : rn_sh M)   (k1 : rn_ME 22 [rn_R 12] M (fun r M1 => rn_WP 95 98 [rn_R 8, vl1, vl2, vl3, vl4, vl5, vl6, vl7] (r.toList ++ []) M1 Q)) : rn_WP 95 91 [rn_R 8, vl1, vl2, vl3, vl4, vl5, vl6, vl7] [] M Q := by
  refine (rn_step (e := (.aload_n 0, 92, 0, 0, 0, 0, 0, [])) rfl).mpr ?_
  refine (rn_step (e := (.getfield 19, 95, 9, 1, 253, 2, 10, [])) rfl).mpr (And.intro ((rn_ks8 (M := M) hM)) (rn_cg (rn_g8_1 (M := M) hM) ?_))
  exact (rn_step (e := (.invokevirtual 67, 98, 22, 1, 584, 0, 2, [0])) rfl).mpr (And.intro ((rn_ks12 (M := M) hM)) (k1))
set_option maxRecDepth 4000 in
theorem rb_RN_addTown_98 {M : rn_M} {Q : rn_Q} {vl0 : rn_V} {vl1 : rn_V} {vl2 : rn_V} {vl3 : rn_V} {vl4 : rn_V} {vl5 : rn_V} {al6 : Nat} {vl7 : rn_V} (hM : rn_sh M) (p_al6 : rn_isB al6)  (hr1 : (-2147483648 : Int) ≤ (rn_gi M al6 1) - 1 ∧ (rn_gi M al6 1) - 1 ≤ 2147483647) (k1 : Q (some (rn_I ((rn_gi M al6 1) - 1))) M) : rn_WP 95 98 [vl0, vl1, vl2, vl3, vl4, vl5, rn_R al6, vl7] [] M Q := by
  refine (rn_step (e := (.aload 6, 100, 6, 0, 0, 0, 0, [])) rfl).mpr ?_
  refine (rn_step (e := (.getfield 109, 103, 0, 1, 187, 0, 1, [])) rfl).mpr (And.intro ((rn_kB (M := M) hM p_al6)) (?_))
  refine (rn_step (e := (.iconst 1, 104, 0, 0, 0, 0, 0, [])) rfl).mpr ?_
  refine (rn_step (e := (.isub, 105, 0, 0, 0, 0, 0, [])) rfl).mpr (rn_cw hr1.1 hr1.2 ?_)
  exact (rn_step (e := (.ireturn, 106, 0, 0, 0, 0, 0, [])) rfl).mpr (And.intro (trivial) (k1))
theorem re_RN_flow {M : rn_M} {Q : rn_Q} {v0 v1 v2 : rn_V} (h : rn_WP 96 0 [v0, v1, v2, rn_J] [] M Q) : rn_ME 96 [v0, v1, v2] M Q := h
set_option maxRecDepth 4000 in
theorem rb_RN_flow_0 {M : rn_M} {Q : rn_Q} {vl1 : rn_V} {vl2 : rn_V} {vl3 : rn_V} (hM : rn_sh M)   (k1 : rn_ME 21 [rn_R 12] M (fun r M1 => rn_WP 96 7 [rn_R 8, vl1, vl2, vl3] (r.toList ++ []) M1 Q)) : rn_WP 96 0 [rn_R 8, vl1, vl2, vl3] [] M Q := by
  refine (rn_step (e := (.aload_n 0, 1, 0, 0, 0, 0, 0, [])) rfl).mpr ?_
  refine (rn_step (e := (.getfield 19, 4, 9, 1, 253, 2, 10, [])) rfl).mpr (And.intro ((rn_ks8 (M := M) hM)) (rn_cg (rn_g8_1 (M := M) hM) ?_))
  exact (rn_step (e := (.invokevirtual 59, 7, 21, 1, 520, 0, 2, [0])) rfl).mpr (And.intro ((rn_ks12 (M := M) hM)) (k1))
set_option maxRecDepth 4000 in
theorem rb_RN_flow_7 {M : rn_M} {Q : rn_Q} {vl0 : rn_V} {xl1 : Int} {vl2 : rn_V} {vl3 : rn_V} {as0 : Nat} (hM : rn_sh M) (p_as0 : rn_isB as0)  (k1 : rn_ME 5 [rn_R as0, rn_I xl1] M (fun r M1 => rn_WP 96 11 [vl0, rn_I xl1, vl2, vl3] (r.toList ++ []) M1 Q)) : rn_WP 96 7 [vl0, rn_I xl1, vl2, vl3] [rn_R as0] M Q := by
  refine (rn_step (e := (.iload_n 1, 8, 1, 0, 0, 0, 0, [])) rfl).mpr ?_
  exact (rn_step (e := (.invokevirtual 112, 11, 5, 2, 430, 0, 1, [0])) rfl).mpr (And.intro ((rn_kB (M := M) hM p_as0)) (k1))
set_option maxRecDepth 4000 in
theorem rb_RN_flow_11n {M : rn_M} {Q : rn_Q} {vl0 : rn_V} {vl1 : rn_V} {vl2 : rn_V} {vl3 : rn_V}   (k1 : Q (some (rn_I (-1))) M) : rn_WP 96 11 [vl0, vl1, vl2, vl3] [rn_N] M Q := by
  refine (rn_step (e := (.astore_n 3, 12, 3, 0, 0, 0, 0, [])) rfl).mpr ?_
  refine (rn_step (e := (.aload_n 3, 13, 3, 0, 0, 0, 0, [])) rfl).mpr ?_
  refine (rn_step (e := (.ifnull 13, 16, 26, 0, 0, 0, 0, [])) rfl).mpr ?_
  refine (rn_step (e := (.iconst (-1), 27, 0, 0, 0, 0, 0, [])) rfl).mpr ?_
  exact (rn_step (e := (.ireturn, 28, 0, 0, 0, 0, 0, [])) rfl).mpr (And.intro (trivial) (k1))
set_option maxRecDepth 4000 in
theorem rb_RN_flow_11s {M : rn_M} {Q : rn_Q} {vl0 : rn_V} {vl1 : rn_V} {xl2 : Int} {vl3 : rn_V} {as0 : Nat} (hM : rn_sh M) (p_as0 : rn_isR as0)  (k1 : (¬ (0 ≤ xl2 ∧ xl2 ≤ 7)) → Q (some (rn_I (-1))) M) (k2 : (0 ≤ xl2 ∧ xl2 ≤ 7) → rn_ME 62 [rn_R as0, rn_I xl2] M (fun r M1 => rn_WP 96 33 [vl0, vl1, rn_I xl2, rn_R as0] (r.toList ++ []) M1 Q)) : rn_WP 96 11 [vl0, vl1, rn_I xl2, vl3] [rn_R as0] M Q := by
  refine (rn_step (e := (.astore_n 3, 12, 3, 0, 0, 0, 0, [])) rfl).mpr ?_
  refine (rn_step (e := (.aload_n 3, 13, 3, 0, 0, 0, 0, [])) rfl).mpr ?_
  refine (rn_step (e := (.ifnull 13, 16, 26, 0, 0, 0, 0, [])) rfl).mpr ?_
  refine (rn_step (e := (.iload_n 2, 17, 2, 0, 0, 0, 0, [])) rfl).mpr ?_
  refine (rn_step (e := (.iconst 0, 18, 0, 0, 0, 0, 0, [])) rfl).mpr ?_
  refine (rn_step (e := (.bipush 7, 20, 0, 0, 0, 0, 0, [])) rfl).mpr ?_
  refine (rn_step (e := (.invokestatic 37, 23, 118, 3, 457, 0, 10, [0])) rfl).mpr (rc_RN_within  ?_)
  refine (rn_step (e := (.ifCond .ne 5, 26, 28, 0, 0, 0, 0, [])) rfl).mpr (And.intro (fun q => ?_) (fun q => ?_))
  · have c1 := rn_b0 q
    refine (rn_step (e := (.iconst (-1), 27, 0, 0, 0, 0, 0, [])) rfl).mpr ?_
    exact (rn_step (e := (.ireturn, 28, 0, 0, 0, 0, 0, [])) rfl).mpr (And.intro (trivial) ((k1 c1)))
  · have c1 := rn_b1 q
    refine (rn_step (e := (.aload_n 3, 29, 3, 0, 0, 0, 0, [])) rfl).mpr ?_
    refine (rn_step (e := (.iload_n 2, 30, 2, 0, 0, 0, 0, [])) rfl).mpr ?_
    exact (rn_step (e := (.invokevirtual 116, 33, 62, 2, 602, 0, 6, [0])) rfl).mpr (And.intro ((rn_kR (M := M) hM p_as0)) ((k2 c1)))
set_option maxRecDepth 4000 in
theorem rb_RN_flow_33 {M : rn_M} {Q : rn_Q} {vl0 : rn_V} {vl1 : rn_V} {xl2 : Int} {al3 : Nat} {xs0 : Int} (hM : rn_sh M) (p_al3 : rn_isR al3)  (k1 : (xs0 = 0) → rn_ME 63 [rn_R al3, rn_I xl2] M (fun r M1 => rn_WP 96 44 [vl0, vl1, rn_I xl2, rn_R al3] (r.toList ++ []) M1 Q)) (k2 : (¬ (xs0 = 0)) → Q (some (rn_I (-2))) M) : rn_WP 96 33 [vl0, vl1, rn_I xl2, rn_R al3] [rn_I xs0] M Q := by
  refine (rn_step (e := (.ifCond .eq 6, 36, 39, 0, 0, 0, 0, [])) rfl).mpr (And.intro (fun c1 => ?_) (fun c1 => ?_))
  ·
    refine (rn_step (e := (.aload_n 3, 40, 3, 0, 0, 0, 0, [])) rfl).mpr ?_
    refine (rn_step (e := (.iload_n 2, 41, 2, 0, 0, 0, 0, [])) rfl).mpr ?_
    exact (rn_step (e := (.invokevirtual 119, 44, 63, 2, 611, 0, 6, [0])) rfl).mpr (And.intro ((rn_kR (M := M) hM p_al3)) ((k1 c1)))
  ·
    refine (rn_step (e := (.bipush (-2), 38, 0, 0, 0, 0, 0, [])) rfl).mpr ?_
    exact (rn_step (e := (.ireturn, 39, 0, 0, 0, 0, 0, [])) rfl).mpr (And.intro (trivial) ((k2 c1)))
set_option maxRecDepth 4000 in
theorem rb_RN_flow_44 {M : rn_M} {Q : rn_Q} {vl1 : rn_V} {vl2 : rn_V} {vl3 : rn_V} {xs0 : Int} (hM : rn_sh M)   (k1 : (xs0 = 0) → Q (some (rn_I (-3))) M) (k2 : (¬ (xs0 = 0)) → rn_ME 22 [rn_R 12] M (fun r M1 => rn_WP 96 57 [rn_R 8, vl1, vl2, vl3] (r.toList ++ []) M1 Q)) : rn_WP 96 44 [rn_R 8, vl1, vl2, vl3] [rn_I xs0] M Q := by
  refine (rn_step (e := (.ifCond .ne 6, 47, 50, 0, 0, 0, 0, [])) rfl).mpr (And.intro (fun c1 => ?_) (fun c1 => ?_))
  ·
    refine (rn_step (e := (.bipush (-3), 49, 0, 0, 0, 0, 0, [])) rfl).mpr ?_
    exact (rn_step (e := (.ireturn, 50, 0, 0, 0, 0, 0, [])) rfl).mpr (And.intro (trivial) ((k1 c1)))
  ·
    refine (rn_step (e := (.aload_n 0, 51, 0, 0, 0, 0, 0, [])) rfl).mpr ?_
    refine (rn_step (e := (.getfield 19, 54, 9, 1, 253, 2, 10, [])) rfl).mpr (And.intro ((rn_ks8 (M := M) hM)) (rn_cg (rn_g8_1 (M := M) hM) ?_))
    exact (rn_step (e := (.invokevirtual 67, 57, 22, 1, 584, 0, 2, [0])) rfl).mpr (And.intro ((rn_ks12 (M := M) hM)) ((k2 c1)))
set_option maxRecDepth 4000 in
theorem rb_RN_flow_57 {M : rn_M} {Q : rn_Q} {vl0 : rn_V} {vl1 : rn_V} {vl2 : rn_V} {al3 : Nat} (hM : rn_sh M) (p_al3 : rn_isR al3)  (k1 : Q (some (rn_I (rn_gi M al3 4))) M) : rn_WP 96 57 [vl0, vl1, vl2, rn_R al3] [] M Q := by
  refine (rn_step (e := (.aload_n 3, 58, 3, 0, 0, 0, 0, [])) rfl).mpr ?_
  refine (rn_step (e := (.getfield 122, 61, 5, 4, 113, 0, 6, [])) rfl).mpr (And.intro ((rn_kR (M := M) hM p_al3)) (?_))
  exact (rn_step (e := (.ireturn, 62, 0, 0, 0, 0, 0, [])) rfl).mpr (And.intro (trivial) (k1))
theorem re_RN_setRank {M : rn_M} {Q : rn_Q} {v0 v1 v2 : rn_V} (h : rn_WP 97 0 [v0, v1, v2, rn_J, rn_J] [] M Q) : rn_ME 97 [v0, v1, v2] M Q := h
set_option maxRecDepth 4000 in
theorem rb_RN_setRank_0 {M : rn_M} {Q : rn_Q} {vl1 : rn_V} {vl2 : rn_V} {vl3 : rn_V} {vl4 : rn_V} (hM : rn_sh M)   (k1 : rn_ME 21 [rn_R 12] M (fun r M1 => rn_WP 97 7 [rn_R 8, vl1, vl2, vl3, vl4] (r.toList ++ []) M1 Q)) : rn_WP 97 0 [rn_R 8, vl1, vl2, vl3, vl4] [] M Q := by
  refine (rn_step (e := (.aload_n 0, 1, 0, 0, 0, 0, 0, [])) rfl).mpr ?_
  refine (rn_step (e := (.getfield 19, 4, 9, 1, 253, 2, 10, [])) rfl).mpr (And.intro ((rn_ks8 (M := M) hM)) (rn_cg (rn_g8_1 (M := M) hM) ?_))
  exact (rn_step (e := (.invokevirtual 59, 7, 21, 1, 520, 0, 2, [0])) rfl).mpr (And.intro ((rn_ks12 (M := M) hM)) (k1))
set_option maxRecDepth 4000 in
theorem rb_RN_setRank_7 {M : rn_M} {Q : rn_Q} {vl0 : rn_V} {xl1 : Int} {vl2 : rn_V} {vl3 : rn_V} {vl4 : rn_V} {as0 : Nat} (hM : rn_sh M) (p_as0 : rn_isB as0)  (k1 : rn_ME 5 [rn_R as0, rn_I xl1] M (fun r M1 => rn_WP 97 11 [vl0, rn_I xl1, vl2, vl3, vl4] (r.toList ++ []) M1 Q)) : rn_WP 97 7 [vl0, rn_I xl1, vl2, vl3, vl4] [rn_R as0] M Q := by
  refine (rn_step (e := (.iload_n 1, 8, 1, 0, 0, 0, 0, [])) rfl).mpr ?_
  exact (rn_step (e := (.invokevirtual 112, 11, 5, 2, 430, 0, 1, [0])) rfl).mpr (And.intro ((rn_kB (M := M) hM p_as0)) (k1))
set_option maxRecDepth 4000 in
theorem rb_RN_setRank_11n {M : rn_M} {Q : rn_Q} {vl0 : rn_V} {vl1 : rn_V} {vl2 : rn_V} {vl3 : rn_V} {vl4 : rn_V}   (k1 : Q (some (rn_I (-1))) M) : rn_WP 97 11 [vl0, vl1, vl2, vl3, vl4] [rn_N] M Q := by
  refine (rn_step (e := (.astore_n 3, 12, 3, 0, 0, 0, 0, [])) rfl).mpr ?_
  refine (rn_step (e := (.aload_n 3, 13, 3, 0, 0, 0, 0, [])) rfl).mpr ?_
  refine (rn_step (e := (.ifnull 10, 16, 23, 0, 0, 0, 0, [])) rfl).mpr ?_
  refine (rn_step (e := (.iconst (-1), 24, 0, 0, 0, 0, 0, [])) rfl).mpr ?_
  exact (rn_step (e := (.ireturn, 25, 0, 0, 0, 0, 0, [])) rfl).mpr (And.intro (trivial) (k1))
set_option maxRecDepth 4000 in
theorem rb_RN_setRank_11s {M : rn_M} {Q : rn_Q} {vl1 : rn_V} {xl2 : Int} {vl3 : rn_V} {vl4 : rn_V} {as0 : Nat} (hM : rn_sh M) (p_as0 : rn_isR as0)  (k1 : (¬ (1 ≤ xl2 ∧ xl2 ≤ 9)) → Q (some (rn_I (-1))) M) (k2 : (1 ≤ xl2 ∧ xl2 ≤ 9) → rn_ME 22 [rn_R 12] (rn_si M as0 1 xl2) (fun r M1 => rn_WP 97 43 [rn_R 8, vl1, rn_I xl2, rn_R as0, rn_I (rn_gi M as0 1)] (r.toList ++ []) M1 Q)) : rn_WP 97 11 [rn_R 8, vl1, rn_I xl2, vl3, vl4] [rn_R as0] M Q := by
  refine (rn_step (e := (.astore_n 3, 12, 3, 0, 0, 0, 0, [])) rfl).mpr ?_
  refine (rn_step (e := (.aload_n 3, 13, 3, 0, 0, 0, 0, [])) rfl).mpr ?_
  refine (rn_step (e := (.ifnull 10, 16, 23, 0, 0, 0, 0, [])) rfl).mpr ?_
  refine (rn_step (e := (.iload_n 2, 17, 2, 0, 0, 0, 0, [])) rfl).mpr ?_
  refine (rn_step (e := (.invokestatic 74, 20, 120, 1, 514, 0, 10, [0])) rfl).mpr (rc_RN_isRank  ?_)
  refine (rn_step (e := (.ifCond .ne 5, 23, 25, 0, 0, 0, 0, [])) rfl).mpr (And.intro (fun q => ?_) (fun q => ?_))
  · have c1 := rn_b0 q
    refine (rn_step (e := (.iconst (-1), 24, 0, 0, 0, 0, 0, [])) rfl).mpr ?_
    exact (rn_step (e := (.ireturn, 25, 0, 0, 0, 0, 0, [])) rfl).mpr (And.intro (trivial) ((k1 c1)))
  · have c1 := rn_b1 q
    refine (rn_step (e := (.aload_n 3, 26, 3, 0, 0, 0, 0, [])) rfl).mpr ?_
    refine (rn_step (e := (.getfield 125, 29, 5, 1, 101, 0, 6, [])) rfl).mpr (And.intro ((rn_kR (M := M) hM p_as0)) (?_))
    refine (rn_step (e := (.istore 4, 31, 4, 0, 0, 0, 0, [])) rfl).mpr ?_
    refine (rn_step (e := (.aload_n 3, 32, 3, 0, 0, 0, 0, [])) rfl).mpr ?_
    refine (rn_step (e := (.iload_n 2, 33, 2, 0, 0, 0, 0, [])) rfl).mpr ?_
    refine (rn_step (e := (.putfield 125, 36, 5, 1, 101, 0, 6, [])) rfl).mpr (And.intro ((rn_kR (M := M) hM p_as0)) (?_))
    refine (rn_step (e := (.aload_n 0, 37, 0, 0, 0, 0, 0, [])) rfl).mpr ?_
    refine (rn_step (e := (.getfield 19, 40, 9, 1, 253, 2, 10, [])) rfl).mpr (And.intro ((rn_ks8 (M := M) hM)) (rn_cg (rn_g8_1 (M := M) hM) ?_))
    exact (rn_step (e := (.invokevirtual 67, 43, 22, 1, 584, 0, 2, [0])) rfl).mpr (And.intro ((rn_ks12 (M := M) hM)) ((k2 c1)))
set_option maxRecDepth 4000 in
theorem rb_RN_setRank_43 {M : rn_M} {Q : rn_Q} {vl0 : rn_V} {vl1 : rn_V} {vl2 : rn_V} {vl3 : rn_V} {xl4 : Int}   (k1 : Q (some (rn_I xl4)) M) : rn_WP 97 43 [vl0, vl1, vl2, vl3, rn_I xl4] [] M Q := by
  refine (rn_step (e := (.iload 4, 45, 4, 0, 0, 0, 0, [])) rfl).mpr ?_
  exact (rn_step (e := (.ireturn, 46, 0, 0, 0, 0, 0, [])) rfl).mpr (And.intro (trivial) (k1))
theorem re_RN_setHalo {M : rn_M} {Q : rn_Q} {v0 v1 v2 : rn_V} (h : rn_WP 98 0 [v0, v1, v2, rn_J, rn_J] [] M Q) : rn_ME 98 [v0, v1, v2] M Q := h
set_option maxRecDepth 4000 in
theorem rb_RN_setHalo_0 {M : rn_M} {Q : rn_Q} {vl1 : rn_V} {vl2 : rn_V} {vl3 : rn_V} {vl4 : rn_V} (hM : rn_sh M)   (k1 : rn_ME 21 [rn_R 12] M (fun r M1 => rn_WP 98 7 [rn_R 8, vl1, vl2, vl3, vl4] (r.toList ++ []) M1 Q)) : rn_WP 98 0 [rn_R 8, vl1, vl2, vl3, vl4] [] M Q := by
  refine (rn_step (e := (.aload_n 0, 1, 0, 0, 0, 0, 0, [])) rfl).mpr ?_
  refine (rn_step (e := (.getfield 19, 4, 9, 1, 253, 2, 10, [])) rfl).mpr (And.intro ((rn_ks8 (M := M) hM)) (rn_cg (rn_g8_1 (M := M) hM) ?_))
  exact (rn_step (e := (.invokevirtual 59, 7, 21, 1, 520, 0, 2, [0])) rfl).mpr (And.intro ((rn_ks12 (M := M) hM)) (k1))
set_option maxRecDepth 4000 in
theorem rb_RN_setHalo_7 {M : rn_M} {Q : rn_Q} {vl0 : rn_V} {xl1 : Int} {vl2 : rn_V} {vl3 : rn_V} {vl4 : rn_V} {as0 : Nat} (hM : rn_sh M) (p_as0 : rn_isB as0)  (k1 : rn_ME 5 [rn_R as0, rn_I xl1] M (fun r M1 => rn_WP 98 11 [vl0, rn_I xl1, vl2, vl3, vl4] (r.toList ++ []) M1 Q)) : rn_WP 98 7 [vl0, rn_I xl1, vl2, vl3, vl4] [rn_R as0] M Q := by
  refine (rn_step (e := (.iload_n 1, 8, 1, 0, 0, 0, 0, [])) rfl).mpr ?_
  exact (rn_step (e := (.invokevirtual 112, 11, 5, 2, 430, 0, 1, [0])) rfl).mpr (And.intro ((rn_kB (M := M) hM p_as0)) (k1))
set_option maxRecDepth 4000 in
theorem rb_RN_setHalo_11n {M : rn_M} {Q : rn_Q} {vl0 : rn_V} {vl1 : rn_V} {vl2 : rn_V} {vl3 : rn_V} {vl4 : rn_V}   (k1 : Q (some (rn_I (-1))) M) : rn_WP 98 11 [vl0, vl1, vl2, vl3, vl4] [rn_N] M Q := by
  refine (rn_step (e := (.astore_n 3, 12, 3, 0, 0, 0, 0, [])) rfl).mpr ?_
  refine (rn_step (e := (.aload_n 3, 13, 3, 0, 0, 0, 0, [])) rfl).mpr ?_
  refine (rn_step (e := (.ifnull 10, 16, 23, 0, 0, 0, 0, [])) rfl).mpr ?_
  refine (rn_step (e := (.iconst (-1), 24, 0, 0, 0, 0, 0, [])) rfl).mpr ?_
  exact (rn_step (e := (.ireturn, 25, 0, 0, 0, 0, 0, [])) rfl).mpr (And.intro (trivial) (k1))
set_option maxRecDepth 4000 in
theorem rb_RN_setHalo_11s {M : rn_M} {Q : rn_Q} {vl1 : rn_V} {xl2 : Int} {vl3 : rn_V} {vl4 : rn_V} {as0 : Nat} (hM : rn_sh M) (p_as0 : rn_isR as0)  (k1 : (¬ (0 ≤ xl2 ∧ xl2 ≤ 2)) → Q (some (rn_I (-1))) M) (k2 : (0 ≤ xl2 ∧ xl2 ≤ 2) → rn_ME 22 [rn_R 12] (rn_si M as0 2 xl2) (fun r M1 => rn_WP 98 43 [rn_R 8, vl1, rn_I xl2, rn_R as0, rn_I (rn_gi M as0 2)] (r.toList ++ []) M1 Q)) : rn_WP 98 11 [rn_R 8, vl1, rn_I xl2, vl3, vl4] [rn_R as0] M Q := by
  refine (rn_step (e := (.astore_n 3, 12, 3, 0, 0, 0, 0, [])) rfl).mpr ?_
  refine (rn_step (e := (.aload_n 3, 13, 3, 0, 0, 0, 0, [])) rfl).mpr ?_
  refine (rn_step (e := (.ifnull 10, 16, 23, 0, 0, 0, 0, [])) rfl).mpr ?_
  refine (rn_step (e := (.iload_n 2, 17, 2, 0, 0, 0, 0, [])) rfl).mpr ?_
  refine (rn_step (e := (.invokestatic 77, 20, 121, 1, 517, 0, 10, [0])) rfl).mpr (rc_RN_isHalo  ?_)
  refine (rn_step (e := (.ifCond .ne 5, 23, 25, 0, 0, 0, 0, [])) rfl).mpr (And.intro (fun q => ?_) (fun q => ?_))
  · have c1 := rn_b0 q
    refine (rn_step (e := (.iconst (-1), 24, 0, 0, 0, 0, 0, [])) rfl).mpr ?_
    exact (rn_step (e := (.ireturn, 25, 0, 0, 0, 0, 0, [])) rfl).mpr (And.intro (trivial) ((k1 c1)))
  · have c1 := rn_b1 q
    refine (rn_step (e := (.aload_n 3, 26, 3, 0, 0, 0, 0, [])) rfl).mpr ?_
    refine (rn_step (e := (.getfield 128, 29, 5, 2, 106, 0, 6, [])) rfl).mpr (And.intro ((rn_kR (M := M) hM p_as0)) (?_))
    refine (rn_step (e := (.istore 4, 31, 4, 0, 0, 0, 0, [])) rfl).mpr ?_
    refine (rn_step (e := (.aload_n 3, 32, 3, 0, 0, 0, 0, [])) rfl).mpr ?_
    refine (rn_step (e := (.iload_n 2, 33, 2, 0, 0, 0, 0, [])) rfl).mpr ?_
    refine (rn_step (e := (.putfield 128, 36, 5, 2, 106, 0, 6, [])) rfl).mpr (And.intro ((rn_kR (M := M) hM p_as0)) (?_))
    refine (rn_step (e := (.aload_n 0, 37, 0, 0, 0, 0, 0, [])) rfl).mpr ?_
    refine (rn_step (e := (.getfield 19, 40, 9, 1, 253, 2, 10, [])) rfl).mpr (And.intro ((rn_ks8 (M := M) hM)) (rn_cg (rn_g8_1 (M := M) hM) ?_))
    exact (rn_step (e := (.invokevirtual 67, 43, 22, 1, 584, 0, 2, [0])) rfl).mpr (And.intro ((rn_ks12 (M := M) hM)) ((k2 c1)))
set_option maxRecDepth 4000 in
theorem rb_RN_setHalo_43 {M : rn_M} {Q : rn_Q} {vl0 : rn_V} {vl1 : rn_V} {vl2 : rn_V} {vl3 : rn_V} {xl4 : Int}   (k1 : Q (some (rn_I xl4)) M) : rn_WP 98 43 [vl0, vl1, vl2, vl3, rn_I xl4] [] M Q := by
  refine (rn_step (e := (.iload 4, 45, 4, 0, 0, 0, 0, [])) rfl).mpr ?_
  exact (rn_step (e := (.ireturn, 46, 0, 0, 0, 0, 0, [])) rfl).mpr (And.intro (trivial) (k1))
theorem re_RN_setTownRank {M : rn_M} {Q : rn_Q} {v0 v1 v2 : rn_V} (h : rn_WP 99 0 [v0, v1, v2, rn_J, rn_J] [] M Q) : rn_ME 99 [v0, v1, v2] M Q := h
set_option maxRecDepth 4000 in
theorem rb_RN_setTownRank_0 {M : rn_M} {Q : rn_Q} {vl1 : rn_V} {vl2 : rn_V} {vl3 : rn_V} {vl4 : rn_V} (hM : rn_sh M)   (k1 : rn_ME 21 [rn_R 12] M (fun r M1 => rn_WP 99 7 [rn_R 8, vl1, vl2, vl3, vl4] (r.toList ++ []) M1 Q)) : rn_WP 99 0 [rn_R 8, vl1, vl2, vl3, vl4] [] M Q := by
  refine (rn_step (e := (.aload_n 0, 1, 0, 0, 0, 0, 0, [])) rfl).mpr ?_
  refine (rn_step (e := (.getfield 19, 4, 9, 1, 253, 2, 10, [])) rfl).mpr (And.intro ((rn_ks8 (M := M) hM)) (rn_cg (rn_g8_1 (M := M) hM) ?_))
  exact (rn_step (e := (.invokevirtual 59, 7, 21, 1, 520, 0, 2, [0])) rfl).mpr (And.intro ((rn_ks12 (M := M) hM)) (k1))
set_option maxRecDepth 4000 in
theorem rb_RN_setTownRank_7 {M : rn_M} {Q : rn_Q} {vl0 : rn_V} {xl1 : Int} {vl2 : rn_V} {vl3 : rn_V} {vl4 : rn_V} {as0 : Nat} (hM : rn_sh M) (p_as0 : rn_isB as0)  (k1 : rn_ME 6 [rn_R as0, rn_I xl1] M (fun r M1 => rn_WP 99 11 [vl0, rn_I xl1, vl2, vl3, vl4] (r.toList ++ []) M1 Q)) : rn_WP 99 7 [vl0, rn_I xl1, vl2, vl3, vl4] [rn_R as0] M Q := by
  refine (rn_step (e := (.iload_n 1, 8, 1, 0, 0, 0, 0, [])) rfl).mpr ?_
  exact (rn_step (e := (.invokevirtual 131, 11, 6, 2, 492, 0, 1, [0])) rfl).mpr (And.intro ((rn_kB (M := M) hM p_as0)) (k1))
set_option maxRecDepth 4000 in
theorem rb_RN_setTownRank_11n {M : rn_M} {Q : rn_Q} {vl0 : rn_V} {vl1 : rn_V} {vl2 : rn_V} {vl3 : rn_V} {vl4 : rn_V}   (k1 : Q (some (rn_I (-1))) M) : rn_WP 99 11 [vl0, vl1, vl2, vl3, vl4] [rn_N] M Q := by
  refine (rn_step (e := (.astore_n 3, 12, 3, 0, 0, 0, 0, [])) rfl).mpr ?_
  refine (rn_step (e := (.aload_n 3, 13, 3, 0, 0, 0, 0, [])) rfl).mpr ?_
  refine (rn_step (e := (.ifnull 10, 16, 23, 0, 0, 0, 0, [])) rfl).mpr ?_
  refine (rn_step (e := (.iconst (-1), 24, 0, 0, 0, 0, 0, [])) rfl).mpr ?_
  exact (rn_step (e := (.ireturn, 25, 0, 0, 0, 0, 0, [])) rfl).mpr (And.intro (trivial) (k1))
set_option maxRecDepth 4000 in
theorem rb_RN_setTownRank_11s {M : rn_M} {Q : rn_Q} {vl1 : rn_V} {xl2 : Int} {vl3 : rn_V} {vl4 : rn_V} {as0 : Nat} (hM : rn_sh M) (p_as0 : rn_isT as0)  (k1 : (¬ (1 ≤ xl2 ∧ xl2 ≤ 9)) → Q (some (rn_I (-1))) M) (k2 : (1 ≤ xl2 ∧ xl2 ≤ 9) → rn_ME 22 [rn_R 12] (rn_si M as0 4 xl2) (fun r M1 => rn_WP 99 43 [rn_R 8, vl1, rn_I xl2, rn_R as0, rn_I (rn_gi M as0 4)] (r.toList ++ []) M1 Q)) : rn_WP 99 11 [rn_R 8, vl1, rn_I xl2, vl3, vl4] [rn_R as0] M Q := by
  refine (rn_step (e := (.astore_n 3, 12, 3, 0, 0, 0, 0, [])) rfl).mpr ?_
  refine (rn_step (e := (.aload_n 3, 13, 3, 0, 0, 0, 0, [])) rfl).mpr ?_
  refine (rn_step (e := (.ifnull 10, 16, 23, 0, 0, 0, 0, [])) rfl).mpr ?_
  refine (rn_step (e := (.iload_n 2, 17, 2, 0, 0, 0, 0, [])) rfl).mpr ?_
  refine (rn_step (e := (.invokestatic 74, 20, 120, 1, 514, 0, 10, [0])) rfl).mpr (rc_RN_isRank  ?_)
  refine (rn_step (e := (.ifCond .ne 5, 23, 25, 0, 0, 0, 0, [])) rfl).mpr (And.intro (fun q => ?_) (fun q => ?_))
  · have c1 := rn_b0 q
    refine (rn_step (e := (.iconst (-1), 24, 0, 0, 0, 0, 0, [])) rfl).mpr ?_
    exact (rn_step (e := (.ireturn, 25, 0, 0, 0, 0, 0, [])) rfl).mpr (And.intro (trivial) ((k1 c1)))
  · have c1 := rn_b1 q
    refine (rn_step (e := (.aload_n 3, 26, 3, 0, 0, 0, 0, [])) rfl).mpr ?_
    refine (rn_step (e := (.getfield 135, 29, 8, 4, 152, 0, 9, [])) rfl).mpr (And.intro ((rn_kT (M := M) hM p_as0)) (?_))
    refine (rn_step (e := (.istore 4, 31, 4, 0, 0, 0, 0, [])) rfl).mpr ?_
    refine (rn_step (e := (.aload_n 3, 32, 3, 0, 0, 0, 0, [])) rfl).mpr ?_
    refine (rn_step (e := (.iload_n 2, 33, 2, 0, 0, 0, 0, [])) rfl).mpr ?_
    refine (rn_step (e := (.putfield 135, 36, 8, 4, 152, 0, 9, [])) rfl).mpr (And.intro ((rn_kT (M := M) hM p_as0)) (?_))
    refine (rn_step (e := (.aload_n 0, 37, 0, 0, 0, 0, 0, [])) rfl).mpr ?_
    refine (rn_step (e := (.getfield 19, 40, 9, 1, 253, 2, 10, [])) rfl).mpr (And.intro ((rn_ks8 (M := M) hM)) (rn_cg (rn_g8_1 (M := M) hM) ?_))
    exact (rn_step (e := (.invokevirtual 67, 43, 22, 1, 584, 0, 2, [0])) rfl).mpr (And.intro ((rn_ks12 (M := M) hM)) ((k2 c1)))
set_option maxRecDepth 4000 in
theorem rb_RN_setTownRank_43 {M : rn_M} {Q : rn_Q} {vl0 : rn_V} {vl1 : rn_V} {vl2 : rn_V} {vl3 : rn_V} {xl4 : Int}   (k1 : Q (some (rn_I xl4)) M) : rn_WP 99 43 [vl0, vl1, vl2, vl3, rn_I xl4] [] M Q := by
  refine (rn_step (e := (.iload 4, 45, 4, 0, 0, 0, 0, [])) rfl).mpr ?_
  exact (rn_step (e := (.ireturn, 46, 0, 0, 0, 0, 0, [])) rfl).mpr (And.intro (trivial) (k1))
theorem re_RN_setGap {M : rn_M} {Q : rn_Q} {v0 v1 : rn_V} (h : rn_WP 100 0 [v0, v1, rn_J, rn_J] [] M Q) : rn_ME 100 [v0, v1] M Q := h
set_option maxRecDepth 4000 in
theorem rb_RN_setGap_0 {M : rn_M} {Q : rn_Q} {xl1 : Int} {vl2 : rn_V} {vl3 : rn_V} (hM : rn_sh M)   (k1 : (¬ (0 ≤ xl1 ∧ xl1 ≤ 60)) → Q (some (rn_I (-1))) M) (k2 : (0 ≤ xl1 ∧ xl1 ≤ 60) → rn_ME 21 [rn_R 12] M (fun r M1 => rn_WP 100 19 [rn_R 8, rn_I xl1, vl2, vl3] (r.toList ++ []) M1 Q)) : rn_WP 100 0 [rn_R 8, rn_I xl1, vl2, vl3] [] M Q := by
  refine (rn_step (e := (.iload_n 1, 1, 1, 0, 0, 0, 0, [])) rfl).mpr ?_
  refine (rn_step (e := (.iconst 0, 2, 0, 0, 0, 0, 0, [])) rfl).mpr ?_
  refine (rn_step (e := (.bipush 60, 4, 0, 0, 0, 0, 0, [])) rfl).mpr ?_
  refine (rn_step (e := (.invokestatic 37, 7, 118, 3, 457, 0, 10, [0])) rfl).mpr (rc_RN_within  ?_)
  refine (rn_step (e := (.ifCond .ne 5, 10, 12, 0, 0, 0, 0, [])) rfl).mpr (And.intro (fun q => ?_) (fun q => ?_))
  · have c1 := rn_b0 q
    refine (rn_step (e := (.iconst (-1), 11, 0, 0, 0, 0, 0, [])) rfl).mpr ?_
    exact (rn_step (e := (.ireturn, 12, 0, 0, 0, 0, 0, [])) rfl).mpr (And.intro (trivial) ((k1 c1)))
  · have c1 := rn_b1 q
    refine (rn_step (e := (.aload_n 0, 13, 0, 0, 0, 0, 0, [])) rfl).mpr ?_
    refine (rn_step (e := (.getfield 19, 16, 9, 1, 253, 2, 10, [])) rfl).mpr (And.intro ((rn_ks8 (M := M) hM)) (rn_cg (rn_g8_1 (M := M) hM) ?_))
    exact (rn_step (e := (.invokevirtual 59, 19, 21, 1, 520, 0, 2, [0])) rfl).mpr (And.intro ((rn_ks12 (M := M) hM)) ((k2 c1)))
set_option maxRecDepth 4000 in
theorem rb_RN_setGap_19 {M : rn_M} {Q : rn_Q} {xl1 : Int} {vl2 : rn_V} {vl3 : rn_V} {as0 : Nat} (hM : rn_sh M) (p_as0 : rn_isB as0)  (k1 : rn_ME 22 [rn_R 12] (rn_si M as0 3 xl1) (fun r M1 => rn_WP 100 37 [rn_R 8, rn_I xl1, rn_R as0, rn_I (rn_gi M as0 3)] (r.toList ++ []) M1 Q)) : rn_WP 100 19 [rn_R 8, rn_I xl1, vl2, vl3] [rn_R as0] M Q := by
  refine (rn_step (e := (.astore_n 2, 20, 2, 0, 0, 0, 0, [])) rfl).mpr ?_
  refine (rn_step (e := (.aload_n 2, 21, 2, 0, 0, 0, 0, [])) rfl).mpr ?_
  refine (rn_step (e := (.getfield 136, 24, 0, 3, 193, 0, 1, [])) rfl).mpr (And.intro ((rn_kB (M := M) hM p_as0)) (?_))
  refine (rn_step (e := (.istore_n 3, 25, 3, 0, 0, 0, 0, [])) rfl).mpr ?_
  refine (rn_step (e := (.aload_n 2, 26, 2, 0, 0, 0, 0, [])) rfl).mpr ?_
  refine (rn_step (e := (.iload_n 1, 27, 1, 0, 0, 0, 0, [])) rfl).mpr ?_
  refine (rn_step (e := (.putfield 136, 30, 0, 3, 193, 0, 1, [])) rfl).mpr (And.intro ((rn_kB (M := M) hM p_as0)) (?_))
  refine (rn_step (e := (.aload_n 0, 31, 0, 0, 0, 0, 0, [])) rfl).mpr ?_
  refine (rn_step (e := (.getfield 19, 34, 9, 1, 253, 2, 10, [])) rfl).mpr (And.intro ((rn_ks8 (M := M) hM)) (rn_cg (rn_g8_1 (M := M) hM) ?_))
  exact (rn_step (e := (.invokevirtual 67, 37, 22, 1, 584, 0, 2, [0])) rfl).mpr (And.intro ((rn_ks12 (M := M) hM)) (k1))
set_option maxRecDepth 4000 in
theorem rb_RN_setGap_37 {M : rn_M} {Q : rn_Q} {vl0 : rn_V} {vl1 : rn_V} {vl2 : rn_V} {xl3 : Int}   (k1 : Q (some (rn_I xl3)) M) : rn_WP 100 37 [vl0, vl1, vl2, rn_I xl3] [] M Q := by
  refine (rn_step (e := (.iload_n 3, 38, 3, 0, 0, 0, 0, [])) rfl).mpr ?_
  exact (rn_step (e := (.ireturn, 39, 0, 0, 0, 0, 0, [])) rfl).mpr (And.intro (trivial) (k1))
theorem re_RN_set {M : rn_M} {Q : rn_Q} {v0 v1 v2 : rn_V} (h : rn_WP 101 0 [v0, v1, v2, rn_J, rn_J] [] M Q) : rn_ME 101 [v0, v1, v2] M Q := h
set_option maxRecDepth 4000 in
theorem rb_RN_set_0 {M : rn_M} {Q : rn_Q} {vl1 : rn_V} {vl2 : rn_V} {vl3 : rn_V} {vl4 : rn_V} (hM : rn_sh M)   (k1 : rn_ME 21 [rn_R 12] M (fun r M1 => rn_WP 101 7 [rn_R 8, vl1, vl2, vl3, vl4] (r.toList ++ []) M1 Q)) : rn_WP 101 0 [rn_R 8, vl1, vl2, vl3, vl4] [] M Q := by
  refine (rn_step (e := (.aload_n 0, 1, 0, 0, 0, 0, 0, [])) rfl).mpr ?_
  refine (rn_step (e := (.getfield 19, 4, 9, 1, 253, 2, 10, [])) rfl).mpr (And.intro ((rn_ks8 (M := M) hM)) (rn_cg (rn_g8_1 (M := M) hM) ?_))
  exact (rn_step (e := (.invokevirtual 59, 7, 21, 1, 520, 0, 2, [0])) rfl).mpr (And.intro ((rn_ks12 (M := M) hM)) (k1))
set_option maxRecDepth 4000 in
theorem rb_RN_set_7 {M : rn_M} {Q : rn_Q} {vl0 : rn_V} {xl1 : Int} {vl2 : rn_V} {vl3 : rn_V} {vl4 : rn_V} {as0 : Nat} (hM : rn_sh M) (p_as0 : rn_isB as0)  (k1 : rn_ME 5 [rn_R as0, rn_I xl1] M (fun r M1 => rn_WP 101 13 [vl0, rn_I xl1, vl2, rn_R as0, vl4] (r.toList ++ []) M1 Q)) : rn_WP 101 7 [vl0, rn_I xl1, vl2, vl3, vl4] [rn_R as0] M Q := by
  refine (rn_step (e := (.astore_n 3, 8, 3, 0, 0, 0, 0, [])) rfl).mpr ?_
  refine (rn_step (e := (.aload_n 3, 9, 3, 0, 0, 0, 0, [])) rfl).mpr ?_
  refine (rn_step (e := (.iload_n 1, 10, 1, 0, 0, 0, 0, [])) rfl).mpr ?_
  exact (rn_step (e := (.invokevirtual 112, 13, 5, 2, 430, 0, 1, [0])) rfl).mpr (And.intro ((rn_kB (M := M) hM p_as0)) (k1))
set_option maxRecDepth 4000 in
theorem rb_RN_set_13n {M : rn_M} {Q : rn_Q} {vl0 : rn_V} {vl1 : rn_V} {vl2 : rn_V} {vl3 : rn_V} {vl4 : rn_V}   (k1 : Q (some (rn_I (-1))) M) : rn_WP 101 13 [vl0, vl1, vl2, vl3, vl4] [rn_N] M Q := by
  refine (rn_step (e := (.astore 4, 15, 4, 0, 0, 0, 0, [])) rfl).mpr ?_
  refine (rn_step (e := (.aload 4, 17, 4, 0, 0, 0, 0, [])) rfl).mpr ?_
  refine (rn_step (e := (.ifnull 10, 20, 27, 0, 0, 0, 0, [])) rfl).mpr ?_
  refine (rn_step (e := (.iconst (-1), 28, 0, 0, 0, 0, 0, [])) rfl).mpr ?_
  exact (rn_step (e := (.ireturn, 29, 0, 0, 0, 0, 0, [])) rfl).mpr (And.intro (trivial) (k1))
set_option maxRecDepth 4000 in
theorem rb_RN_set_13s {M : rn_M} {Q : rn_Q} {vl1 : rn_V} {xl2 : Int} {rl3 : Option Nat} {vl4 : rn_V} {as0 : Nat} (hM : rn_sh M)   (k1 : (¬ (0 ≤ xl2 ∧ xl2 ≤ 60)) → Q (some (rn_I (-1))) M) (k2 : (0 ≤ xl2 ∧ xl2 ≤ 60) → rn_ME 26 [rn_R 462, .inr (.inl (some rl3)), rn_R as0, rn_I xl2, rn_I (-1)] M (fun r M1 => rn_WP 101 41 [rn_R 8, vl1, rn_I xl2, .inr (.inl (some rl3)), rn_R as0] (r.toList ++ []) M1 Q)) : rn_WP 101 13 [rn_R 8, vl1, rn_I xl2, .inr (.inl (some rl3)), vl4] [rn_R as0] M Q := by
  refine (rn_step (e := (.astore 4, 15, 4, 0, 0, 0, 0, [])) rfl).mpr ?_
  refine (rn_step (e := (.aload 4, 17, 4, 0, 0, 0, 0, [])) rfl).mpr ?_
  refine (rn_step (e := (.ifnull 10, 20, 27, 0, 0, 0, 0, [])) rfl).mpr ?_
  refine (rn_step (e := (.iload_n 2, 21, 2, 0, 0, 0, 0, [])) rfl).mpr ?_
  refine (rn_step (e := (.invokestatic 139, 24, 122, 1, 454, 0, 10, [0])) rfl).mpr (rc_RN_isPlaceNumber  ?_)
  refine (rn_step (e := (.ifCond .ne 5, 27, 29, 0, 0, 0, 0, [])) rfl).mpr (And.intro (fun q => ?_) (fun q => ?_))
  · have c1 := rn_b0 q
    refine (rn_step (e := (.iconst (-1), 28, 0, 0, 0, 0, 0, [])) rfl).mpr ?_
    exact (rn_step (e := (.ireturn, 29, 0, 0, 0, 0, 0, [])) rfl).mpr (And.intro (trivial) ((k1 c1)))
  · have c1 := rn_b1 q
    refine (rn_step (e := (.aload_n 0, 30, 0, 0, 0, 0, 0, [])) rfl).mpr ?_
    refine (rn_step (e := (.getfield 26, 33, 9, 2, 254, 2, 10, [])) rfl).mpr (And.intro ((rn_ks8 (M := M) hM)) (rn_cg (rn_g8_2 (M := M) hM) ?_))
    refine (rn_step (e := (.aload_n 3, 34, 3, 0, 0, 0, 0, [])) rfl).mpr ?_
    refine (rn_step (e := (.aload 4, 36, 4, 0, 0, 0, 0, [])) rfl).mpr ?_
    refine (rn_step (e := (.iload_n 2, 37, 2, 0, 0, 0, 0, [])) rfl).mpr ?_
    refine (rn_step (e := (.iconst (-1), 38, 0, 0, 0, 0, 0, [])) rfl).mpr ?_
    exact (rn_step (e := (.invokevirtual 142, 41, 26, 5, 477, 0, 3, [0])) rfl).mpr (And.intro ((rn_ks462 (M := M) hM)) ((k2 c1)))
set_option maxRecDepth 4000 in
theorem rb_RN_set_41 {M : rn_M} {Q : rn_Q} {vl0 : rn_V} {vl1 : rn_V} {xl2 : Int} {al3 : Nat} {rl4 : Option Nat} {xs0 : Int} (hM : rn_sh M) (p_al3 : rn_isB al3)  (k1 : (xs0 = 0) → rn_ME 10 [rn_R al3, .inr (.inl (some rl4)), rn_I xl2] M (fun r M1 => rn_WP 101 54 [vl0, vl1, rn_I xl2, rn_R al3, .inr (.inl (some rl4))] (r.toList ++ []) M1 Q)) (k2 : (¬ (xs0 = 0)) → Q (some (rn_I (-2))) M) : rn_WP 101 41 [vl0, vl1, rn_I xl2, rn_R al3, .inr (.inl (some rl4))] [rn_I xs0] M Q := by
  refine (rn_step (e := (.ifCond .eq 6, 44, 47, 0, 0, 0, 0, [])) rfl).mpr (And.intro (fun c1 => ?_) (fun c1 => ?_))
  ·
    refine (rn_step (e := (.aload_n 3, 48, 3, 0, 0, 0, 0, [])) rfl).mpr ?_
    refine (rn_step (e := (.aload 4, 50, 4, 0, 0, 0, 0, [])) rfl).mpr ?_
    refine (rn_step (e := (.iload_n 2, 51, 2, 0, 0, 0, 0, [])) rfl).mpr ?_
    exact (rn_step (e := (.invokevirtual 146, 54, 10, 3, 636, 0, 1, [0])) rfl).mpr (And.intro ((rn_kB (M := M) hM p_al3)) ((k1 c1)))
  ·
    refine (rn_step (e := (.bipush (-2), 46, 0, 0, 0, 0, 0, [])) rfl).mpr ?_
    exact (rn_step (e := (.ireturn, 47, 0, 0, 0, 0, 0, [])) rfl).mpr (And.intro (trivial) ((k2 c1)))
set_option maxRecDepth 4000 in
theorem rb_RN_set_54 {M : rn_M} {Q : rn_Q} {vl1 : rn_V} {vl2 : rn_V} {vl3 : rn_V} {vl4 : rn_V} {xs0 : Int} (hM : rn_sh M)   (k1 : (xs0 = 0) → Q (some (rn_I (-3))) M) (k2 : (¬ (xs0 = 0)) → rn_ME 22 [rn_R 12] M (fun r M1 => rn_WP 101 67 [rn_R 8, vl1, vl2, vl3, vl4] (r.toList ++ []) M1 Q)) : rn_WP 101 54 [rn_R 8, vl1, vl2, vl3, vl4] [rn_I xs0] M Q := by
  refine (rn_step (e := (.ifCond .ne 6, 57, 60, 0, 0, 0, 0, [])) rfl).mpr (And.intro (fun c1 => ?_) (fun c1 => ?_))
  ·
    refine (rn_step (e := (.bipush (-3), 59, 0, 0, 0, 0, 0, [])) rfl).mpr ?_
    exact (rn_step (e := (.ireturn, 60, 0, 0, 0, 0, 0, [])) rfl).mpr (And.intro (trivial) ((k1 c1)))
  ·
    refine (rn_step (e := (.aload_n 0, 61, 0, 0, 0, 0, 0, [])) rfl).mpr ?_
    refine (rn_step (e := (.getfield 19, 64, 9, 1, 253, 2, 10, [])) rfl).mpr (And.intro ((rn_ks8 (M := M) hM)) (rn_cg (rn_g8_1 (M := M) hM) ?_))
    exact (rn_step (e := (.invokevirtual 67, 67, 22, 1, 584, 0, 2, [0])) rfl).mpr (And.intro ((rn_ks12 (M := M) hM)) ((k2 c1)))
set_option maxRecDepth 4000 in
theorem rb_RN_set_67 {M : rn_M} {Q : rn_Q} {vl0 : rn_V} {vl1 : rn_V} {vl2 : rn_V} {al3 : Nat} {vl4 : rn_V} (hM : rn_sh M) (p_al3 : rn_isB al3)  (hr1 : (-2147483648 : Int) ≤ (rn_gi M al3 2) - 1 ∧ (rn_gi M al3 2) - 1 ≤ 2147483647) (k1 : Q (some (rn_I ((rn_gi M al3 2) - 1))) M) : rn_WP 101 67 [vl0, vl1, vl2, rn_R al3, vl4] [] M Q := by
  refine (rn_step (e := (.aload_n 3, 68, 3, 0, 0, 0, 0, [])) rfl).mpr ?_
  refine (rn_step (e := (.getfield 150, 71, 0, 2, 190, 0, 1, [])) rfl).mpr (And.intro ((rn_kB (M := M) hM p_al3)) (?_))
  refine (rn_step (e := (.iconst 1, 72, 0, 0, 0, 0, 0, [])) rfl).mpr ?_
  refine (rn_step (e := (.isub, 73, 0, 0, 0, 0, 0, [])) rfl).mpr (rn_cw hr1.1 hr1.2 ?_)
  exact (rn_step (e := (.ireturn, 74, 0, 0, 0, 0, 0, [])) rfl).mpr (And.intro (trivial) (k1))
theorem re_RN_remove {M : rn_M} {Q : rn_Q} {v0 v1 : rn_V} (h : rn_WP 102 0 [v0, v1, rn_J] [] M Q) : rn_ME 102 [v0, v1] M Q := h
set_option maxRecDepth 4000 in
theorem rb_RN_remove_0 {M : rn_M} {Q : rn_Q} {vl1 : rn_V} {vl2 : rn_V} (hM : rn_sh M)   (k1 : rn_ME 21 [rn_R 12] M (fun r M1 => rn_WP 102 7 [rn_R 8, vl1, vl2] (r.toList ++ []) M1 Q)) : rn_WP 102 0 [rn_R 8, vl1, vl2] [] M Q := by
  refine (rn_step (e := (.aload_n 0, 1, 0, 0, 0, 0, 0, [])) rfl).mpr ?_
  refine (rn_step (e := (.getfield 19, 4, 9, 1, 253, 2, 10, [])) rfl).mpr (And.intro ((rn_ks8 (M := M) hM)) (rn_cg (rn_g8_1 (M := M) hM) ?_))
  exact (rn_step (e := (.invokevirtual 59, 7, 21, 1, 520, 0, 2, [0])) rfl).mpr (And.intro ((rn_ks12 (M := M) hM)) (k1))
set_option maxRecDepth 4000 in
theorem rb_RN_remove_7 {M : rn_M} {Q : rn_Q} {vl0 : rn_V} {xl1 : Int} {vl2 : rn_V} {as0 : Nat} (hM : rn_sh M) (p_as0 : rn_isB as0)  (k1 : rn_ME 11 [rn_R as0, rn_I xl1] M (fun r M1 => rn_WP 102 13 [vl0, rn_I xl1, rn_R as0] (r.toList ++ []) M1 Q)) : rn_WP 102 7 [vl0, rn_I xl1, vl2] [rn_R as0] M Q := by
  refine (rn_step (e := (.astore_n 2, 8, 2, 0, 0, 0, 0, [])) rfl).mpr ?_
  refine (rn_step (e := (.aload_n 2, 9, 2, 0, 0, 0, 0, [])) rfl).mpr ?_
  refine (rn_step (e := (.iload_n 1, 10, 1, 0, 0, 0, 0, [])) rfl).mpr ?_
  exact (rn_step (e := (.invokevirtual 153, 13, 11, 2, 641, 0, 1, [0])) rfl).mpr (And.intro ((rn_kB (M := M) hM p_as0)) (k1))
set_option maxRecDepth 4000 in
theorem rb_RN_remove_13 {M : rn_M} {Q : rn_Q} {vl1 : rn_V} {vl2 : rn_V} {xs0 : Int} (hM : rn_sh M)   (k1 : (xs0 = 0) → Q (some (rn_I (-1))) M) (k2 : (¬ (xs0 = 0)) → rn_ME 22 [rn_R 12] M (fun r M1 => rn_WP 102 25 [rn_R 8, vl1, vl2] (r.toList ++ []) M1 Q)) : rn_WP 102 13 [rn_R 8, vl1, vl2] [rn_I xs0] M Q := by
  refine (rn_step (e := (.ifCond .ne 5, 16, 18, 0, 0, 0, 0, [])) rfl).mpr (And.intro (fun c1 => ?_) (fun c1 => ?_))
  ·
    refine (rn_step (e := (.iconst (-1), 17, 0, 0, 0, 0, 0, [])) rfl).mpr ?_
    exact (rn_step (e := (.ireturn, 18, 0, 0, 0, 0, 0, [])) rfl).mpr (And.intro (trivial) ((k1 c1)))
  ·
    refine (rn_step (e := (.aload_n 0, 19, 0, 0, 0, 0, 0, [])) rfl).mpr ?_
    refine (rn_step (e := (.getfield 19, 22, 9, 1, 253, 2, 10, [])) rfl).mpr (And.intro ((rn_ks8 (M := M) hM)) (rn_cg (rn_g8_1 (M := M) hM) ?_))
    exact (rn_step (e := (.invokevirtual 67, 25, 22, 1, 584, 0, 2, [0])) rfl).mpr (And.intro ((rn_ks12 (M := M) hM)) ((k2 c1)))
set_option maxRecDepth 4000 in
theorem rb_RN_remove_25 {M : rn_M} {Q : rn_Q} {vl0 : rn_V} {vl1 : rn_V} {al2 : Nat} (hM : rn_sh M) (p_al2 : rn_isB al2)  (k1 : Q (some (rn_I (rn_gi M al2 2))) M) : rn_WP 102 25 [vl0, vl1, rn_R al2] [] M Q := by
  refine (rn_step (e := (.aload_n 2, 26, 2, 0, 0, 0, 0, [])) rfl).mpr ?_
  refine (rn_step (e := (.getfield 150, 29, 0, 2, 190, 0, 1, [])) rfl).mpr (And.intro ((rn_kB (M := M) hM p_al2)) (?_))
  exact (rn_step (e := (.ireturn, 30, 0, 0, 0, 0, 0, [])) rfl).mpr (And.intro (trivial) (k1))
theorem re_RN_place {M : rn_M} {Q : rn_Q} {v0 v1 : rn_V} (h : rn_WP 103 0 [v0, v1, rn_J] [] M Q) : rn_ME 103 [v0, v1] M Q := h
set_option maxRecDepth 4000 in
theorem rb_RN_place_0 {M : rn_M} {Q : rn_Q} {xl1 : Int} {vl2 : rn_V} (hM : rn_sh M)   (k1 : (¬ (1 ≤ xl1 ∧ xl1 ≤ 5)) → Q (some (rn_I (-1))) M) (k2 : (1 ≤ xl1 ∧ xl1 ≤ 5) → rn_ME 21 [rn_R 12] M (fun r M1 => rn_WP 103 18 [rn_R 8, rn_I xl1, vl2] (r.toList ++ []) M1 Q)) : rn_WP 103 0 [rn_R 8, rn_I xl1, vl2] [] M Q := by
  refine (rn_step (e := (.iload_n 1, 1, 1, 0, 0, 0, 0, [])) rfl).mpr ?_
  refine (rn_step (e := (.iconst 1, 2, 0, 0, 0, 0, 0, [])) rfl).mpr ?_
  refine (rn_step (e := (.iconst 5, 3, 0, 0, 0, 0, 0, [])) rfl).mpr ?_
  refine (rn_step (e := (.invokestatic 37, 6, 118, 3, 457, 0, 10, [0])) rfl).mpr (rc_RN_within  ?_)
  refine (rn_step (e := (.ifCond .ne 5, 9, 11, 0, 0, 0, 0, [])) rfl).mpr (And.intro (fun q => ?_) (fun q => ?_))
  · have c1 := rn_b0 q
    refine (rn_step (e := (.iconst (-1), 10, 0, 0, 0, 0, 0, [])) rfl).mpr ?_
    exact (rn_step (e := (.ireturn, 11, 0, 0, 0, 0, 0, [])) rfl).mpr (And.intro (trivial) ((k1 c1)))
  · have c1 := rn_b1 q
    refine (rn_step (e := (.aload_n 0, 12, 0, 0, 0, 0, 0, [])) rfl).mpr ?_
    refine (rn_step (e := (.getfield 19, 15, 9, 1, 253, 2, 10, [])) rfl).mpr (And.intro ((rn_ks8 (M := M) hM)) (rn_cg (rn_g8_1 (M := M) hM) ?_))
    exact (rn_step (e := (.invokevirtual 59, 18, 21, 1, 520, 0, 2, [0])) rfl).mpr (And.intro ((rn_ks12 (M := M) hM)) ((k2 c1)))
set_option maxRecDepth 4000 in
theorem rb_RN_place_18 {M : rn_M} {Q : rn_Q} {xl1 : Int} {vl2 : rn_V} {as0 : Nat} (hM : rn_sh M) (p_as0 : rn_isB as0)  (k1 : rn_ME 35 [rn_R 462, rn_R as0, rn_I xl1] (rn_si M as0 2 0) (fun r M1 => rn_WP 103 33 [rn_R 8, rn_I xl1, rn_R as0] (r.toList ++ []) M1 Q)) : rn_WP 103 18 [rn_R 8, rn_I xl1, vl2] [rn_R as0] M Q := by
  refine (rn_step (e := (.astore_n 2, 19, 2, 0, 0, 0, 0, [])) rfl).mpr ?_
  refine (rn_step (e := (.aload_n 2, 20, 2, 0, 0, 0, 0, [])) rfl).mpr ?_
  refine (rn_step (e := (.iconst 0, 21, 0, 0, 0, 0, 0, [])) rfl).mpr ?_
  refine (rn_step (e := (.putfield 150, 24, 0, 2, 190, 0, 1, [])) rfl).mpr (And.intro ((rn_kB (M := M) hM p_as0)) (?_))
  refine (rn_step (e := (.aload_n 0, 25, 0, 0, 0, 0, 0, [])) rfl).mpr ?_
  refine (rn_step (e := (.getfield 26, 28, 9, 2, 254, 2, 10, [])) rfl).mpr (And.intro ((rn_ks8 (M := M) hM)) (rn_cg (rn_g8_2 (M := M) hM) ?_))
  refine (rn_step (e := (.aload_n 2, 29, 2, 0, 0, 0, 0, [])) rfl).mpr ?_
  refine (rn_step (e := (.iload_n 1, 30, 1, 0, 0, 0, 0, [])) rfl).mpr ?_
  exact (rn_step (e := (.invokevirtual 156, 33, 35, 3, 649, 0, 3, [0])) rfl).mpr (And.intro ((rn_ks462 (M := M) hM)) (k1))
set_option maxRecDepth 4000 in
theorem rb_RN_place_33 {M : rn_M} {Q : rn_Q} {vl1 : rn_V} {vl2 : rn_V} (hM : rn_sh M)   (k1 : rn_ME 22 [rn_R 12] M (fun r M1 => rn_WP 103 40 [rn_R 8, vl1, vl2] (r.toList ++ []) M1 Q)) : rn_WP 103 33 [rn_R 8, vl1, vl2] [] M Q := by
  refine (rn_step (e := (.aload_n 0, 34, 0, 0, 0, 0, 0, [])) rfl).mpr ?_
  refine (rn_step (e := (.getfield 19, 37, 9, 1, 253, 2, 10, [])) rfl).mpr (And.intro ((rn_ks8 (M := M) hM)) (rn_cg (rn_g8_1 (M := M) hM) ?_))
  exact (rn_step (e := (.invokevirtual 67, 40, 22, 1, 584, 0, 2, [0])) rfl).mpr (And.intro ((rn_ks12 (M := M) hM)) (k1))
set_option maxRecDepth 4000 in
theorem rb_RN_place_40 {M : rn_M} {Q : rn_Q} {vl0 : rn_V} {vl1 : rn_V} {al2 : Nat} (hM : rn_sh M) (p_al2 : rn_isB al2)  (k1 : Q (some (rn_I (rn_gi M al2 2))) M) : rn_WP 103 40 [vl0, vl1, rn_R al2] [] M Q := by
  refine (rn_step (e := (.aload_n 2, 41, 2, 0, 0, 0, 0, [])) rfl).mpr ?_
  refine (rn_step (e := (.getfield 150, 44, 0, 2, 190, 0, 1, [])) rfl).mpr (And.intro ((rn_kB (M := M) hM p_al2)) (?_))
  exact (rn_step (e := (.ireturn, 45, 0, 0, 0, 0, 0, [])) rfl).mpr (And.intro (trivial) (k1))
theorem re_RN_tidy {M : rn_M} {Q : rn_Q} {v0 : rn_V} (h : rn_WP 104 0 [v0, rn_J] [] M Q) : rn_ME 104 [v0] M Q := h
set_option maxRecDepth 4000 in
theorem rb_RN_tidy_0 {M : rn_M} {Q : rn_Q} {vl1 : rn_V} (hM : rn_sh M)   (k1 : rn_ME 21 [rn_R 12] M (fun r M1 => rn_WP 104 11 [rn_R 8, vl1] (r.toList ++ [rn_R 462]) M1 Q)) : rn_WP 104 0 [rn_R 8, vl1] [] M Q := by
  refine (rn_step (e := (.aload_n 0, 1, 0, 0, 0, 0, 0, [])) rfl).mpr ?_
  refine (rn_step (e := (.getfield 26, 4, 9, 2, 254, 2, 10, [])) rfl).mpr (And.intro ((rn_ks8 (M := M) hM)) (rn_cg (rn_g8_2 (M := M) hM) ?_))
  refine (rn_step (e := (.aload_n 0, 5, 0, 0, 0, 0, 0, [])) rfl).mpr ?_
  refine (rn_step (e := (.getfield 19, 8, 9, 1, 253, 2, 10, [])) rfl).mpr (And.intro ((rn_ks8 (M := M) hM)) (rn_cg (rn_g8_1 (M := M) hM) ?_))
  exact (rn_step (e := (.invokevirtual 59, 11, 21, 1, 520, 0, 2, [0])) rfl).mpr (And.intro ((rn_ks12 (M := M) hM)) (k1))
set_option maxRecDepth 4000 in
theorem rb_RN_tidy_11 {M : rn_M} {Q : rn_Q} {vl0 : rn_V} {vl1 : rn_V} {rs0 : Option Nat} (hM : rn_sh M)   (k1 : rn_ME 39 [rn_R 462, .inr (.inl (some rs0))] M (fun r M1 => rn_WP 104 14 [vl0, vl1] (r.toList ++ []) M1 Q)) : rn_WP 104 11 [vl0, vl1] [.inr (.inl (some rs0)), rn_R 462] M Q := by
  exact (rn_step (e := (.invokevirtual 160, 14, 39, 2, 742, 0, 3, [0])) rfl).mpr (And.intro ((rn_ks462 (M := M) hM)) (k1))
set_option maxRecDepth 4000 in
theorem rb_RN_tidy_14 {M : rn_M} {Q : rn_Q} {vl1 : rn_V} {xs0 : Int} (hM : rn_sh M)   (k1 : rn_ME 22 [rn_R 12] M (fun r M1 => rn_WP 104 22 [rn_R 8, rn_I xs0] (r.toList ++ []) M1 Q)) : rn_WP 104 14 [rn_R 8, vl1] [rn_I xs0] M Q := by
  refine (rn_step (e := (.istore_n 1, 15, 1, 0, 0, 0, 0, [])) rfl).mpr ?_
  refine (rn_step (e := (.aload_n 0, 16, 0, 0, 0, 0, 0, [])) rfl).mpr ?_
  refine (rn_step (e := (.getfield 19, 19, 9, 1, 253, 2, 10, [])) rfl).mpr (And.intro ((rn_ks8 (M := M) hM)) (rn_cg (rn_g8_1 (M := M) hM) ?_))
  exact (rn_step (e := (.invokevirtual 67, 22, 22, 1, 584, 0, 2, [0])) rfl).mpr (And.intro ((rn_ks12 (M := M) hM)) (k1))
set_option maxRecDepth 4000 in
theorem rb_RN_tidy_22 {M : rn_M} {Q : rn_Q} {vl0 : rn_V} {xl1 : Int}   (k1 : Q (some (rn_I xl1)) M) : rn_WP 104 22 [vl0, rn_I xl1] [] M Q := by
  refine (rn_step (e := (.iload_n 1, 23, 1, 0, 0, 0, 0, [])) rfl).mpr ?_
  exact (rn_step (e := (.ireturn, 24, 0, 0, 0, 0, 0, [])) rfl).mpr (And.intro (trivial) (k1))
theorem re_RN_undo {M : rn_M} {Q : rn_Q} {v0 : rn_V} (h : rn_WP 105 0 [v0] [] M Q) : rn_ME 105 [v0] M Q := h
set_option maxRecDepth 4000 in
theorem rb_RN_undo_0 {M : rn_M} {Q : rn_Q}  (hM : rn_sh M)   (k1 : rn_ME 24 [rn_R 12] M (fun r M1 => rn_WP 105 7 [rn_R 8] (r.toList ++ []) M1 Q)) : rn_WP 105 0 [rn_R 8] [] M Q := by
  refine (rn_step (e := (.aload_n 0, 1, 0, 0, 0, 0, 0, [])) rfl).mpr ?_
  refine (rn_step (e := (.getfield 19, 4, 9, 1, 253, 2, 10, [])) rfl).mpr (And.intro ((rn_ks8 (M := M) hM)) (rn_cg (rn_g8_1 (M := M) hM) ?_))
  exact (rn_step (e := (.invokevirtual 163, 7, 24, 1, 269, 0, 2, [0])) rfl).mpr (And.intro ((rn_ks12 (M := M) hM)) (k1))
set_option maxRecDepth 4000 in
theorem rb_RN_undo_7 {M : rn_M} {Q : rn_Q} {vl0 : rn_V} {xs0 : Int}   (k1 : Q (some (rn_I xs0)) M) : rn_WP 105 7 [vl0] [rn_I xs0] M Q := by
  exact (rn_step (e := (.ireturn, 8, 0, 0, 0, 0, 0, [])) rfl).mpr (And.intro (trivial) (k1))
theorem re_RN_count {M : rn_M} {Q : rn_Q} {v0 v1 : rn_V} (h : rn_WP 106 0 [v0, v1, rn_J] [] M Q) : rn_ME 106 [v0, v1] M Q := h
set_option maxRecDepth 4000 in
theorem rb_RN_count_0 {M : rn_M} {Q : rn_Q} {xl1 : Int} {vl2 : rn_V} (hM : rn_sh M)   (hr1 : rn_gr M 12 2 = some (rn_go M 12 2)) (hr2 : (xl1 = 0) → rn_isB (rn_go M 12 2)) (hr3 : (xl1 = 1) → rn_isB (rn_go M 12 2)) (hr4 : (xl1 = 2) → rn_isB (rn_go M 12 2)) (hr5 : (xl1 = 3) → rn_isB (rn_go M 12 2)) (hr6 : (xl1 = 4) → rn_isB (rn_go M 12 2)) (hr7 : (xl1 = 6) → rn_isB (rn_go M 12 2)) (hr8 : (xl1 = 7) → rn_isB (rn_go M 12 2)) (k1 : (xl1 < 0 ∨ 9 < xl1) → Q (some (rn_I (-1))) M) (k2 : (xl1 = 0) → Q (some (rn_I (rn_gi M (rn_go M 12 2) 0))) M) (k3 : (xl1 = 1) → Q (some (rn_I (rn_gi M (rn_go M 12 2) 1))) M) (k4 : (xl1 = 2) → Q (some (rn_I (rn_gi M (rn_go M 12 2) 2))) M) (k5 : (xl1 = 3) → Q (some (rn_I (rn_gi M (rn_go M 12 2) 3))) M) (k6 : (xl1 = 4) → rn_ME 15 [rn_R (rn_go M 12 2)] M (fun r M1 => rn_WP 106 88 [rn_R 8, rn_I xl1, rn_R (rn_go M 12 2)] (r.toList ++ []) M1 Q)) (k7 : (xl1 = 5) → rn_ME 38 [rn_R 462, rn_R (rn_go M 12 2)] M (fun r M1 => rn_WP 106 97 [rn_R 8, rn_I xl1, rn_R (rn_go M 12 2)] (r.toList ++ []) M1 Q)) (k8 : (xl1 = 6) → rn_ME 17 [rn_R (rn_go M 12 2)] M (fun r M1 => rn_WP 106 102 [rn_R 8, rn_I xl1, rn_R (rn_go M 12 2)] (r.toList ++ []) M1 Q)) (k9 : (xl1 = 7) → rn_ME 16 [rn_R (rn_go M 12 2), rn_R 464] M (fun r M1 => rn_WP 106 111 [rn_R 8, rn_I xl1, rn_R (rn_go M 12 2)] (r.toList ++ []) M1 Q)) (k10 : (xl1 = 8) → Q (some (rn_I (rn_gi M 12 0))) M) (k11 : (xl1 = 9) → Q (some (rn_I (rn_gi M 10 0))) M) : rn_WP 106 0 [rn_R 8, rn_I xl1, vl2] [] M Q := by
  refine (rn_step (e := (.aload_n 0, 1, 0, 0, 0, 0, 0, [])) rfl).mpr ?_
  refine (rn_step (e := (.getfield 19, 4, 9, 1, 253, 2, 10, [])) rfl).mpr (And.intro ((rn_ks8 (M := M) hM)) (rn_cg (rn_g8_1 (M := M) hM) ?_))
  refine (rn_step (e := (.invokevirtual 166, 7, 20, 1, 280, 0, 2, [0])) rfl).mpr (And.intro ((rn_ks12 (M := M) hM)) ((rc_Hi_present hM (hr1) ?_)))
  refine (rn_step (e := (.astore_n 2, 8, 2, 0, 0, 0, 0, [])) rfl).mpr ?_
  refine (rn_step (e := (.iload_n 1, 9, 1, 0, 0, 0, 0, [])) rfl).mpr ?_
  refine (rn_step (e := (.tableswitch 122 0 9 #[55, 60, 65, 70, 75, 80, 89, 94, 103, 111], 64, 131, 0, 0, 0, 0, [64, 69, 74, 79, 84, 89, 98, 103, 112, 120])) rfl).mpr (And.intro (fun c1 => ?_) (fun q => ?_))
  ·
    refine (rn_step (e := (.iconst (-1), 132, 0, 0, 0, 0, 0, [])) rfl).mpr ?_
    exact (rn_step (e := (.ireturn, 133, 0, 0, 0, 0, 0, [])) rfl).mpr (And.intro (trivial) ((k1 c1)))
  ·
    obtain ⟨n, hn⟩ : ∃ n : Nat, xl1 = (n : Int) := ⟨(xl1).toNat, by omega⟩
    rw [show (xl1 - 0).toNat = n by omega]
    match n, hn with
    | 0, c1 =>
      refine (rn_step (e := (.aload_n 2, 65, 2, 0, 0, 0, 0, [])) rfl).mpr ?_
      refine (rn_step (e := (.getfield 169, 68, 0, 0, 184, 0, 1, [])) rfl).mpr (And.intro ((rn_kB (M := M) hM (hr2 c1))) (?_))
      exact (rn_step (e := (.ireturn, 69, 0, 0, 0, 0, 0, [])) rfl).mpr (And.intro (trivial) ((k2 c1)))
    | 1, c1 =>
      refine (rn_step (e := (.aload_n 2, 70, 2, 0, 0, 0, 0, [])) rfl).mpr ?_
      refine (rn_step (e := (.getfield 109, 73, 0, 1, 187, 0, 1, [])) rfl).mpr (And.intro ((rn_kB (M := M) hM (hr3 c1))) (?_))
      exact (rn_step (e := (.ireturn, 74, 0, 0, 0, 0, 0, [])) rfl).mpr (And.intro (trivial) ((k3 c1)))
    | 2, c1 =>
      refine (rn_step (e := (.aload_n 2, 75, 2, 0, 0, 0, 0, [])) rfl).mpr ?_
      refine (rn_step (e := (.getfield 150, 78, 0, 2, 190, 0, 1, [])) rfl).mpr (And.intro ((rn_kB (M := M) hM (hr4 c1))) (?_))
      exact (rn_step (e := (.ireturn, 79, 0, 0, 0, 0, 0, [])) rfl).mpr (And.intro (trivial) ((k4 c1)))
    | 3, c1 =>
      refine (rn_step (e := (.aload_n 2, 80, 2, 0, 0, 0, 0, [])) rfl).mpr ?_
      refine (rn_step (e := (.getfield 136, 83, 0, 3, 193, 0, 1, [])) rfl).mpr (And.intro ((rn_kB (M := M) hM (hr5 c1))) (?_))
      exact (rn_step (e := (.ireturn, 84, 0, 0, 0, 0, 0, [])) rfl).mpr (And.intro (trivial) ((k5 c1)))
    | 4, c1 =>
      refine (rn_step (e := (.aload_n 2, 85, 2, 0, 0, 0, 0, [])) rfl).mpr ?_
      exact (rn_step (e := (.invokevirtual 172, 88, 15, 1, 284, 0, 1, [0])) rfl).mpr (And.intro ((rn_kB (M := M) hM (hr6 c1))) ((k6 c1)))
    | 5, c1 =>
      refine (rn_step (e := (.aload_n 0, 90, 0, 0, 0, 0, 0, [])) rfl).mpr ?_
      refine (rn_step (e := (.getfield 26, 93, 9, 2, 254, 2, 10, [])) rfl).mpr (And.intro ((rn_ks8 (M := M) hM)) (rn_cg (rn_g8_2 (M := M) hM) ?_))
      refine (rn_step (e := (.aload_n 2, 94, 2, 0, 0, 0, 0, [])) rfl).mpr ?_
      exact (rn_step (e := (.invokevirtual 175, 97, 38, 2, 311, 0, 3, [0])) rfl).mpr (And.intro ((rn_ks462 (M := M) hM)) ((k7 c1)))
    | 6, c1 =>
      refine (rn_step (e := (.aload_n 2, 99, 2, 0, 0, 0, 0, [])) rfl).mpr ?_
      exact (rn_step (e := (.invokevirtual 178, 102, 17, 1, 373, 0, 1, [0])) rfl).mpr (And.intro ((rn_kB (M := M) hM (hr7 c1))) ((k8 c1)))
    | 7, c1 =>
      refine (rn_step (e := (.aload_n 2, 104, 2, 0, 0, 0, 0, [])) rfl).mpr ?_
      refine (rn_step (e := (.aload_n 0, 105, 0, 0, 0, 0, 0, [])) rfl).mpr ?_
      refine (rn_step (e := (.getfield 33, 108, 9, 3, 255, 2, 10, [])) rfl).mpr (And.intro ((rn_ks8 (M := M) hM)) (rn_cg (rn_g8_3 (M := M) hM) ?_))
      exact (rn_step (e := (.invokevirtual 181, 111, 16, 2, 385, 0, 1, [0])) rfl).mpr (And.intro ((rn_kB (M := M) hM (hr8 c1))) ((k9 c1)))
    | 8, c1 =>
      refine (rn_step (e := (.aload_n 0, 113, 0, 0, 0, 0, 0, [])) rfl).mpr ?_
      refine (rn_step (e := (.getfield 19, 116, 9, 1, 253, 2, 10, [])) rfl).mpr (And.intro ((rn_ks8 (M := M) hM)) (rn_cg (rn_g8_1 (M := M) hM) ?_))
      refine (rn_step (e := (.getfield 185, 119, 1, 0, 213, 0, 2, [])) rfl).mpr (And.intro ((rn_ks12 (M := M) hM)) (?_))
      exact (rn_step (e := (.ireturn, 120, 0, 0, 0, 0, 0, [])) rfl).mpr (And.intro (trivial) ((k10 c1)))
    | 9, c1 =>
      refine (rn_step (e := (.aload_n 0, 121, 0, 0, 0, 0, 0, [])) rfl).mpr ?_
      refine (rn_step (e := (.getfield 12, 124, 9, 0, 252, 2, 10, [])) rfl).mpr (And.intro ((rn_ks8 (M := M) hM)) (rn_cg (rn_g8_0 (M := M) hM) ?_))
      refine (rn_step (e := (.getfield 41, 127, 4, 0, 59, 2, 5, [])) rfl).mpr (And.intro ((rn_ks9 (M := M) hM)) (rn_cg (rn_g9_0 (M := M) hM) ?_))
      refine (rn_step (e := (.getfield 51, 130, 7, 0, 50, 0, 8, [])) rfl).mpr (And.intro ((rn_ks10 (M := M) hM)) (?_))
      exact (rn_step (e := (.ireturn, 131, 0, 0, 0, 0, 0, [])) rfl).mpr (And.intro (trivial) ((k11 c1)))
    | n + 10, hn => exact absurd (Or.inr (by omega)) q
set_option maxRecDepth 4000 in
theorem rb_RN_count_88 {M : rn_M} {Q : rn_Q} {vl0 : rn_V} {vl1 : rn_V} {vl2 : rn_V} {xs0 : Int}   (k1 : Q (some (rn_I xs0)) M) : rn_WP 106 88 [vl0, vl1, vl2] [rn_I xs0] M Q := by
  exact (rn_step (e := (.ireturn, 89, 0, 0, 0, 0, 0, [])) rfl).mpr (And.intro (trivial) (k1))
set_option maxRecDepth 4000 in
theorem rb_RN_count_97 {M : rn_M} {Q : rn_Q} {vl0 : rn_V} {vl1 : rn_V} {vl2 : rn_V} {xs0 : Int}   (k1 : Q (some (rn_I xs0)) M) : rn_WP 106 97 [vl0, vl1, vl2] [rn_I xs0] M Q := by
  exact (rn_step (e := (.ireturn, 98, 0, 0, 0, 0, 0, [])) rfl).mpr (And.intro (trivial) (k1))
set_option maxRecDepth 4000 in
theorem rb_RN_count_102 {M : rn_M} {Q : rn_Q} {vl0 : rn_V} {vl1 : rn_V} {vl2 : rn_V} {xs0 : Int}   (k1 : Q (some (rn_I xs0)) M) : rn_WP 106 102 [vl0, vl1, vl2] [rn_I xs0] M Q := by
  exact (rn_step (e := (.ireturn, 103, 0, 0, 0, 0, 0, [])) rfl).mpr (And.intro (trivial) (k1))
set_option maxRecDepth 4000 in
theorem rb_RN_count_111 {M : rn_M} {Q : rn_Q} {vl0 : rn_V} {vl1 : rn_V} {vl2 : rn_V} {xs0 : Int}   (k1 : Q (some (rn_I xs0)) M) : rn_WP 106 111 [vl0, vl1, vl2] [rn_I xs0] M Q := by
  exact (rn_step (e := (.ireturn, 112, 0, 0, 0, 0, 0, [])) rfl).mpr (And.intro (trivial) (k1))
theorem re_RN_river {M : rn_M} {Q : rn_Q} {v0 v1 v2 : rn_V} (h : rn_WP 107 0 [v0, v1, v2, rn_J, rn_J] [] M Q) : rn_ME 107 [v0, v1, v2] M Q := h
set_option maxRecDepth 4000 in
theorem rb_RN_river_0 {M : rn_M} {Q : rn_Q} {xl1 : Int} {vl2 : rn_V} {vl3 : rn_V} {vl4 : rn_V} (hM : rn_sh M)   (hr1 : rn_gr M 12 2 = some (rn_go M 12 2) ∧ rn_isB (rn_go M 12 2)) (k1 : rn_ME 5 [rn_R (rn_go M 12 2), rn_I xl1] M (fun r M1 => rn_WP 107 13 [rn_R 8, rn_I xl1, vl2, rn_R (rn_go M 12 2), vl4] (r.toList ++ []) M1 Q)) : rn_WP 107 0 [rn_R 8, rn_I xl1, vl2, vl3, vl4] [] M Q := by
  refine (rn_step (e := (.aload_n 0, 1, 0, 0, 0, 0, 0, [])) rfl).mpr ?_
  refine (rn_step (e := (.getfield 19, 4, 9, 1, 253, 2, 10, [])) rfl).mpr (And.intro ((rn_ks8 (M := M) hM)) (rn_cg (rn_g8_1 (M := M) hM) ?_))
  refine (rn_step (e := (.invokevirtual 166, 7, 20, 1, 280, 0, 2, [0])) rfl).mpr (And.intro ((rn_ks12 (M := M) hM)) ((rc_Hi_present hM (hr1.1) ?_)))
  refine (rn_step (e := (.astore_n 3, 8, 3, 0, 0, 0, 0, [])) rfl).mpr ?_
  refine (rn_step (e := (.aload_n 3, 9, 3, 0, 0, 0, 0, [])) rfl).mpr ?_
  refine (rn_step (e := (.iload_n 1, 10, 1, 0, 0, 0, 0, [])) rfl).mpr ?_
  exact (rn_step (e := (.invokevirtual 112, 13, 5, 2, 430, 0, 1, [0])) rfl).mpr (And.intro ((rn_kB (M := M) hM hr1.2)) (k1))
set_option maxRecDepth 4000 in
theorem rb_RN_river_13n {M : rn_M} {Q : rn_Q} {vl0 : rn_V} {vl1 : rn_V} {vl2 : rn_V} {vl3 : rn_V} {vl4 : rn_V}   (k1 : Q (some (rn_I (-1))) M) : rn_WP 107 13 [vl0, vl1, vl2, vl3, vl4] [rn_N] M Q := by
  refine (rn_step (e := (.astore 4, 15, 4, 0, 0, 0, 0, [])) rfl).mpr ?_
  refine (rn_step (e := (.aload 4, 17, 4, 0, 0, 0, 0, [])) rfl).mpr ?_
  refine (rn_step (e := (.ifnonnull 5, 20, 22, 0, 0, 0, 0, [])) rfl).mpr ?_
  refine (rn_step (e := (.iconst (-1), 21, 0, 0, 0, 0, 0, [])) rfl).mpr ?_
  exact (rn_step (e := (.ireturn, 22, 0, 0, 0, 0, 0, [])) rfl).mpr (And.intro (trivial) (k1))
set_option maxRecDepth 4000 in
theorem rb_RN_river_13s {M : rn_M} {Q : rn_Q} {vl1 : rn_V} {xl2 : Int} {al3 : Nat} {vl4 : rn_V} {as0 : Nat} (hM : rn_sh M) (p_as0 : rn_isR as0) (p_al3 : rn_isB al3)  (hr1 : (xl2 = 6) → (-2147483648 : Int) ≤ rn_gi M as0 4 + 1 ∧ rn_gi M as0 4 + 1 ≤ 2147483647) (k1 : (xl2 < 0 ∨ 6 < xl2) → Q (some (rn_I (-1))) M) (k2 : (xl2 = 0) → Q (some (rn_I (rn_gi M as0 1))) M) (k3 : (xl2 = 1) → Q (some (rn_I (rn_gi M as0 2))) M) (k4 : (xl2 = 2) → Q (some (rn_I (rn_gi M as0 3))) M) (k5 : (xl2 = 3) → Q (some (rn_I (rn_gi M as0 4))) M) (k6 : (xl2 = 4) → rn_ME 12 [rn_R al3, rn_R as0] M (fun r M1 => rn_WP 107 94 [rn_R 8, vl1, rn_I xl2, rn_R al3, rn_R as0] (r.toList ++ []) M1 Q)) (k7 : (xl2 = 5) → rn_ME 77 [rn_R as0, rn_R 464] M (fun r M1 => rn_WP 107 104 [rn_R 8, vl1, rn_I xl2, rn_R al3, rn_R as0] (r.toList ++ []) M1 Q)) (k8 : (xl2 = 6) → rn_ME 70 [rn_R as0, rn_I 0, rn_I (rn_gi M as0 4 + 1)] M (fun r M1 => rn_WP 107 118 [rn_R 8, vl1, rn_I xl2, rn_R al3, rn_R as0] (r.toList ++ []) M1 Q)) : rn_WP 107 13 [rn_R 8, vl1, rn_I xl2, rn_R al3, vl4] [rn_R as0] M Q := by
  refine (rn_step (e := (.astore 4, 15, 4, 0, 0, 0, 0, [])) rfl).mpr ?_
  refine (rn_step (e := (.aload 4, 17, 4, 0, 0, 0, 0, [])) rfl).mpr ?_
  refine (rn_step (e := (.ifnonnull 5, 20, 22, 0, 0, 0, 0, [])) rfl).mpr ?_
  refine (rn_step (e := (.iload_n 2, 23, 2, 0, 0, 0, 0, [])) rfl).mpr ?_
  refine (rn_step (e := (.tableswitch 96 0 6 #[41, 47, 53, 59, 65, 72, 82], 64, 119, 0, 0, 0, 0, [64, 70, 76, 82, 88, 95, 105])) rfl).mpr (And.intro (fun c1 => ?_) (fun q => ?_))
  ·
    refine (rn_step (e := (.iconst (-1), 120, 0, 0, 0, 0, 0, [])) rfl).mpr ?_
    exact (rn_step (e := (.ireturn, 121, 0, 0, 0, 0, 0, [])) rfl).mpr (And.intro (trivial) ((k1 c1)))
  ·
    obtain ⟨n, hn⟩ : ∃ n : Nat, xl2 = (n : Int) := ⟨(xl2).toNat, by omega⟩
    rw [show (xl2 - 0).toNat = n by omega]
    match n, hn with
    | 0, c1 =>
      refine (rn_step (e := (.aload 4, 66, 4, 0, 0, 0, 0, [])) rfl).mpr ?_
      refine (rn_step (e := (.getfield 125, 69, 5, 1, 101, 0, 6, [])) rfl).mpr (And.intro ((rn_kR (M := M) hM p_as0)) (?_))
      exact (rn_step (e := (.ireturn, 70, 0, 0, 0, 0, 0, [])) rfl).mpr (And.intro (trivial) ((k2 c1)))
    | 1, c1 =>
      refine (rn_step (e := (.aload 4, 72, 4, 0, 0, 0, 0, [])) rfl).mpr ?_
      refine (rn_step (e := (.getfield 128, 75, 5, 2, 106, 0, 6, [])) rfl).mpr (And.intro ((rn_kR (M := M) hM p_as0)) (?_))
      exact (rn_step (e := (.ireturn, 76, 0, 0, 0, 0, 0, [])) rfl).mpr (And.intro (trivial) ((k3 c1)))
    | 2, c1 =>
      refine (rn_step (e := (.aload 4, 78, 4, 0, 0, 0, 0, [])) rfl).mpr ?_
      refine (rn_step (e := (.getfield 188, 81, 5, 3, 110, 0, 6, [])) rfl).mpr (And.intro ((rn_kR (M := M) hM p_as0)) (?_))
      exact (rn_step (e := (.ireturn, 82, 0, 0, 0, 0, 0, [])) rfl).mpr (And.intro (trivial) ((k4 c1)))
    | 3, c1 =>
      refine (rn_step (e := (.aload 4, 84, 4, 0, 0, 0, 0, [])) rfl).mpr ?_
      refine (rn_step (e := (.getfield 122, 87, 5, 4, 113, 0, 6, [])) rfl).mpr (And.intro ((rn_kR (M := M) hM p_as0)) (?_))
      exact (rn_step (e := (.ireturn, 88, 0, 0, 0, 0, 0, [])) rfl).mpr (And.intro (trivial) ((k5 c1)))
    | 4, c1 =>
      refine (rn_step (e := (.aload_n 3, 89, 3, 0, 0, 0, 0, [])) rfl).mpr ?_
      refine (rn_step (e := (.aload 4, 91, 4, 0, 0, 0, 0, [])) rfl).mpr ?_
      exact (rn_step (e := (.invokevirtual 191, 94, 12, 2, 431, 0, 1, [0])) rfl).mpr (And.intro ((rn_kB (M := M) hM p_al3)) ((k6 c1)))
    | 5, c1 =>
      refine (rn_step (e := (.aload 4, 97, 4, 0, 0, 0, 0, [])) rfl).mpr ?_
      refine (rn_step (e := (.aload_n 0, 98, 0, 0, 0, 0, 0, [])) rfl).mpr ?_
      refine (rn_step (e := (.getfield 33, 101, 9, 3, 255, 2, 10, [])) rfl).mpr (And.intro ((rn_ks8 (M := M) hM)) (rn_cg (rn_g8_3 (M := M) hM) ?_))
      exact (rn_step (e := (.invokevirtual 195, 104, 77, 2, 432, 0, 6, [0])) rfl).mpr (And.intro ((rn_kR (M := M) hM p_as0)) ((k7 c1)))
    | 6, c1 =>
      refine (rn_step (e := (.aload 4, 107, 4, 0, 0, 0, 0, [])) rfl).mpr ?_
      refine (rn_step (e := (.iconst 0, 108, 0, 0, 0, 0, 0, [])) rfl).mpr ?_
      refine (rn_step (e := (.aload 4, 110, 4, 0, 0, 0, 0, [])) rfl).mpr ?_
      refine (rn_step (e := (.getfield 122, 113, 5, 4, 113, 0, 6, [])) rfl).mpr (And.intro ((rn_kR (M := M) hM p_as0)) (?_))
      refine (rn_step (e := (.iconst 1, 114, 0, 0, 0, 0, 0, [])) rfl).mpr ?_
      refine (rn_step (e := (.iadd, 115, 0, 0, 0, 0, 0, [])) rfl).mpr (rn_cw (hr1 c1).1 (hr1 c1).2 ?_)
      exact (rn_step (e := (.invokevirtual 198, 118, 70, 3, 440, 0, 6, [0])) rfl).mpr (And.intro ((rn_kR (M := M) hM p_as0)) ((k8 c1)))
    | n + 7, hn => exact absurd (Or.inr (by omega)) q
set_option maxRecDepth 4000 in
theorem rb_RN_river_94 {M : rn_M} {Q : rn_Q} {vl0 : rn_V} {vl1 : rn_V} {vl2 : rn_V} {vl3 : rn_V} {vl4 : rn_V} {xs0 : Int}   (k1 : Q (some (rn_I xs0)) M) : rn_WP 107 94 [vl0, vl1, vl2, vl3, vl4] [rn_I xs0] M Q := by
  exact (rn_step (e := (.ireturn, 95, 0, 0, 0, 0, 0, [])) rfl).mpr (And.intro (trivial) (k1))
set_option maxRecDepth 4000 in
theorem rb_RN_river_104 {M : rn_M} {Q : rn_Q} {vl0 : rn_V} {vl1 : rn_V} {vl2 : rn_V} {vl3 : rn_V} {vl4 : rn_V} {xs0 : Int}   (k1 : Q (some (rn_I xs0)) M) : rn_WP 107 104 [vl0, vl1, vl2, vl3, vl4] [rn_I xs0] M Q := by
  exact (rn_step (e := (.ireturn, 105, 0, 0, 0, 0, 0, [])) rfl).mpr (And.intro (trivial) (k1))
set_option maxRecDepth 4000 in
theorem rb_RN_river_118 {M : rn_M} {Q : rn_Q} {vl0 : rn_V} {vl1 : rn_V} {vl2 : rn_V} {vl3 : rn_V} {vl4 : rn_V} {xs0 : Int}   (k1 : Q (some (rn_I xs0)) M) : rn_WP 107 118 [vl0, vl1, vl2, vl3, vl4] [rn_I xs0] M Q := by
  exact (rn_step (e := (.ireturn, 119, 0, 0, 0, 0, 0, [])) rfl).mpr (And.intro (trivial) (k1))
theorem re_RN_cell {M : rn_M} {Q : rn_Q} {v0 v1 v2 : rn_V} (h : rn_WP 108 0 [v0, v1, v2, rn_J] [] M Q) : rn_ME 108 [v0, v1, v2] M Q := h
set_option maxRecDepth 4000 in
theorem rb_RN_cell_0 {M : rn_M} {Q : rn_Q} {xl1 : Int} {vl2 : rn_V} {vl3 : rn_V} (hM : rn_sh M)   (hr1 : rn_gr M 12 2 = some (rn_go M 12 2) ∧ rn_isB (rn_go M 12 2)) (k1 : rn_ME 5 [rn_R (rn_go M 12 2), rn_I xl1] M (fun r M1 => rn_WP 108 11 [rn_R 8, rn_I xl1, vl2, vl3] (r.toList ++ []) M1 Q)) : rn_WP 108 0 [rn_R 8, rn_I xl1, vl2, vl3] [] M Q := by
  refine (rn_step (e := (.aload_n 0, 1, 0, 0, 0, 0, 0, [])) rfl).mpr ?_
  refine (rn_step (e := (.getfield 19, 4, 9, 1, 253, 2, 10, [])) rfl).mpr (And.intro ((rn_ks8 (M := M) hM)) (rn_cg (rn_g8_1 (M := M) hM) ?_))
  refine (rn_step (e := (.invokevirtual 166, 7, 20, 1, 280, 0, 2, [0])) rfl).mpr (And.intro ((rn_ks12 (M := M) hM)) ((rc_Hi_present hM (hr1.1) ?_)))
  refine (rn_step (e := (.iload_n 1, 8, 1, 0, 0, 0, 0, [])) rfl).mpr ?_
  exact (rn_step (e := (.invokevirtual 112, 11, 5, 2, 430, 0, 1, [0])) rfl).mpr (And.intro ((rn_kB (M := M) hM hr1.2)) (k1))
set_option maxRecDepth 4000 in
theorem rb_RN_cell_11n {M : rn_M} {Q : rn_Q} {vl0 : rn_V} {vl1 : rn_V} {vl2 : rn_V} {vl3 : rn_V}   (k1 : Q (some (rn_I (-1))) M) : rn_WP 108 11 [vl0, vl1, vl2, vl3] [rn_N] M Q := by
  refine (rn_step (e := (.astore_n 3, 12, 3, 0, 0, 0, 0, [])) rfl).mpr ?_
  refine (rn_step (e := (.aload_n 3, 13, 3, 0, 0, 0, 0, [])) rfl).mpr ?_
  refine (rn_step (e := (.ifnull 10, 16, 23, 0, 0, 0, 0, [])) rfl).mpr ?_
  refine (rn_step (e := (.iconst (-1), 24, 0, 0, 0, 0, 0, [])) rfl).mpr ?_
  exact (rn_step (e := (.ireturn, 25, 0, 0, 0, 0, 0, [])) rfl).mpr (And.intro (trivial) (k1))
set_option maxRecDepth 4000 in
theorem rb_RN_cell_11s {M : rn_M} {Q : rn_Q} {vl0 : rn_V} {vl1 : rn_V} {xl2 : Int} {vl3 : rn_V} {as0 : Nat} (hM : rn_sh M) (p_as0 : rn_isR as0)  (hr1 : (0 ≤ xl2 ∧ xl2 ≤ 60) → (0 ≤ xl2 ∧ xl2 ≤ rn_gi M as0 4) → ((0 : Int) ≤ xl2 ∧ xl2 ≤ rn_gi M as0 4) ∧ rn_gi M as0 4 ≤ 60 ∧ (-2147483648 : Int) ≤ 100 * (rn_gi M (as0 + 3) (xl2).toNat) ∧ 100 * (rn_gi M (as0 + 3) (xl2).toNat) ≤ 2147483647 ∧ (-2147483648 : Int) ≤ (100 * (rn_gi M (as0 + 3) (xl2).toNat)) + (rn_gi M (as0 + 4) (xl2).toNat) ∧ (100 * (rn_gi M (as0 + 3) (xl2).toNat)) + (rn_gi M (as0 + 4) (xl2).toNat) ≤ 2147483647) (k1 : (¬ (0 ≤ xl2 ∧ xl2 ≤ 60)) → Q (some (rn_I (-1))) M) (k2 : (0 ≤ xl2 ∧ xl2 ≤ 60) → (¬ (0 ≤ xl2 ∧ xl2 ≤ rn_gi M as0 4)) → Q (some (rn_I (-9))) M) (k3 : (0 ≤ xl2 ∧ xl2 ≤ 60) → (0 ≤ xl2 ∧ xl2 ≤ rn_gi M as0 4) → Q (some (rn_I ((100 * (rn_gi M (as0 + 3) (xl2).toNat)) + (rn_gi M (as0 + 4) (xl2).toNat)))) M) : rn_WP 108 11 [vl0, vl1, rn_I xl2, vl3] [rn_R as0] M Q := by
  refine (rn_step (e := (.astore_n 3, 12, 3, 0, 0, 0, 0, [])) rfl).mpr ?_
  refine (rn_step (e := (.aload_n 3, 13, 3, 0, 0, 0, 0, [])) rfl).mpr ?_
  refine (rn_step (e := (.ifnull 10, 16, 23, 0, 0, 0, 0, [])) rfl).mpr ?_
  refine (rn_step (e := (.iload_n 2, 17, 2, 0, 0, 0, 0, [])) rfl).mpr ?_
  refine (rn_step (e := (.invokestatic 139, 20, 122, 1, 454, 0, 10, [0])) rfl).mpr (rc_RN_isPlaceNumber  ?_)
  refine (rn_step (e := (.ifCond .ne 5, 23, 25, 0, 0, 0, 0, [])) rfl).mpr (And.intro (fun q => ?_) (fun q => ?_))
  · have c1 := rn_b0 q
    refine (rn_step (e := (.iconst (-1), 24, 0, 0, 0, 0, 0, [])) rfl).mpr ?_
    exact (rn_step (e := (.ireturn, 25, 0, 0, 0, 0, 0, [])) rfl).mpr (And.intro (trivial) ((k1 c1)))
  · have c1 := rn_b1 q
    refine (rn_step (e := (.aload_n 3, 26, 3, 0, 0, 0, 0, [])) rfl).mpr ?_
    refine (rn_step (e := (.iload_n 2, 27, 2, 0, 0, 0, 0, [])) rfl).mpr ?_
    refine (rn_step (e := (.invokevirtual 202, 30, 64, 2, 458, 0, 6, [0])) rfl).mpr (And.intro ((rn_kR (M := M) hM p_as0)) ((rc_Ri_hasPlace hM p_as0  ?_)))
    refine (rn_step (e := (.ifCond .eq 20, 33, 50, 0, 0, 0, 0, [])) rfl).mpr (And.intro (fun q => ?_) (fun q => ?_))
    · have c2 := rn_b0 q
      refine (rn_step (e := (.bipush (-9), 52, 0, 0, 0, 0, 0, [])) rfl).mpr ?_
      exact (rn_step (e := (.ireturn, 53, 0, 0, 0, 0, 0, [])) rfl).mpr (And.intro (trivial) ((k2 c1 c2)))
    · have c2 := rn_b1 q
      refine (rn_step (e := (.bipush 100, 35, 0, 0, 0, 0, 0, [])) rfl).mpr ?_
      refine (rn_step (e := (.aload_n 3, 36, 3, 0, 0, 0, 0, [])) rfl).mpr ?_
      refine (rn_step (e := (.iload_n 2, 37, 2, 0, 0, 0, 0, [])) rfl).mpr ?_
      refine (rn_step (e := (.invokevirtual 205, 40, 65, 2, 459, 0, 6, [0])) rfl).mpr (And.intro ((rn_kR (M := M) hM p_as0)) ((rc_Ri_columnAt hM p_as0 ((hr1 c1 c2).1) ((hr1 c1 c2).2.1) ?_)))
      refine (rn_step (e := (.imul, 41, 0, 0, 0, 0, 0, [])) rfl).mpr (rn_cw (hr1 c1 c2).2.2.1 (hr1 c1 c2).2.2.2.1 ?_)
      refine (rn_step (e := (.aload_n 3, 42, 3, 0, 0, 0, 0, [])) rfl).mpr ?_
      refine (rn_step (e := (.iload_n 2, 43, 2, 0, 0, 0, 0, [])) rfl).mpr ?_
      refine (rn_step (e := (.invokevirtual 209, 46, 66, 2, 460, 0, 6, [0])) rfl).mpr (And.intro ((rn_kR (M := M) hM p_as0)) ((rc_Ri_rowAt hM p_as0 ((hr1 c1 c2).1) ((hr1 c1 c2).2.1) ?_)))
      refine (rn_step (e := (.iadd, 47, 0, 0, 0, 0, 0, [])) rfl).mpr (rn_cw (hr1 c1 c2).2.2.2.2.1 (hr1 c1 c2).2.2.2.2.2 ?_)
      refine (rn_step (e := (.goto 5, 50, 52, 0, 0, 0, 0, [])) rfl).mpr ?_
      exact (rn_step (e := (.ireturn, 53, 0, 0, 0, 0, 0, [])) rfl).mpr (And.intro (trivial) ((k3 c1 c2)))
theorem re_RN_letter {M : rn_M} {Q : rn_Q} {v0 v1 v2 : rn_V} (h : rn_WP 109 0 [v0, v1, v2, rn_J] [] M Q) : rn_ME 109 [v0, v1, v2] M Q := h
set_option maxRecDepth 4000 in
theorem rb_RN_letter_0 {M : rn_M} {Q : rn_Q} {xl1 : Int} {vl2 : rn_V} {vl3 : rn_V} (hM : rn_sh M)   (hr1 : rn_gr M 12 2 = some (rn_go M 12 2) ∧ rn_isB (rn_go M 12 2)) (k1 : rn_ME 5 [rn_R (rn_go M 12 2), rn_I xl1] M (fun r M1 => rn_WP 109 11 [rn_R 8, rn_I xl1, vl2, vl3] (r.toList ++ []) M1 Q)) : rn_WP 109 0 [rn_R 8, rn_I xl1, vl2, vl3] [] M Q := by
  refine (rn_step (e := (.aload_n 0, 1, 0, 0, 0, 0, 0, [])) rfl).mpr ?_
  refine (rn_step (e := (.getfield 19, 4, 9, 1, 253, 2, 10, [])) rfl).mpr (And.intro ((rn_ks8 (M := M) hM)) (rn_cg (rn_g8_1 (M := M) hM) ?_))
  refine (rn_step (e := (.invokevirtual 166, 7, 20, 1, 280, 0, 2, [0])) rfl).mpr (And.intro ((rn_ks12 (M := M) hM)) ((rc_Hi_present hM (hr1.1) ?_)))
  refine (rn_step (e := (.iload_n 1, 8, 1, 0, 0, 0, 0, [])) rfl).mpr ?_
  exact (rn_step (e := (.invokevirtual 112, 11, 5, 2, 430, 0, 1, [0])) rfl).mpr (And.intro ((rn_kB (M := M) hM hr1.2)) (k1))
set_option maxRecDepth 4000 in
theorem rb_RN_letter_11n {M : rn_M} {Q : rn_Q} {vl0 : rn_V} {vl1 : rn_V} {vl2 : rn_V} {vl3 : rn_V}   (k1 : Q (some (rn_I (-1))) M) : rn_WP 109 11 [vl0, vl1, vl2, vl3] [rn_N] M Q := by
  refine (rn_step (e := (.astore_n 3, 12, 3, 0, 0, 0, 0, [])) rfl).mpr ?_
  refine (rn_step (e := (.aload_n 3, 13, 3, 0, 0, 0, 0, [])) rfl).mpr ?_
  refine (rn_step (e := (.ifnull 7, 16, 20, 0, 0, 0, 0, [])) rfl).mpr ?_
  refine (rn_step (e := (.iconst (-1), 21, 0, 0, 0, 0, 0, [])) rfl).mpr ?_
  exact (rn_step (e := (.ireturn, 22, 0, 0, 0, 0, 0, [])) rfl).mpr (And.intro (trivial) (k1))
set_option maxRecDepth 4000 in
theorem rb_RN_letter_11s {M : rn_M} {Q : rn_Q} {vl0 : rn_V} {vl1 : rn_V} {xl2 : Int} {vl3 : rn_V} {as0 : Nat} (hM : rn_sh M) (p_as0 : rn_isR as0)  (hr1 : (0 ≤ xl2) → (0 ≤ rn_gi M as0 3 ∧ rn_gi M as0 3 ≤ 12)) (k1 : (0 ≤ xl2) → Q (some (rn_I (rn_lt2 M as0 xl2))) M) (k2 : (¬ (0 ≤ xl2)) → Q (some (rn_I (-1))) M) : rn_WP 109 11 [vl0, vl1, rn_I xl2, vl3] [rn_R as0] M Q := by
  refine (rn_step (e := (.astore_n 3, 12, 3, 0, 0, 0, 0, [])) rfl).mpr ?_
  refine (rn_step (e := (.aload_n 3, 13, 3, 0, 0, 0, 0, [])) rfl).mpr ?_
  refine (rn_step (e := (.ifnull 7, 16, 20, 0, 0, 0, 0, [])) rfl).mpr ?_
  refine (rn_step (e := (.iload_n 2, 17, 2, 0, 0, 0, 0, [])) rfl).mpr ?_
  refine (rn_step (e := (.ifCond .ge 5, 20, 22, 0, 0, 0, 0, [])) rfl).mpr (And.intro (fun c1 => ?_) (fun c1 => ?_))
  ·
    refine (rn_step (e := (.aload_n 3, 23, 3, 0, 0, 0, 0, [])) rfl).mpr ?_
    refine (rn_step (e := (.iload_n 2, 24, 2, 0, 0, 0, 0, [])) rfl).mpr ?_
    refine (rn_step (e := (.invokevirtual 212, 27, 67, 2, 445, 0, 6, [0])) rfl).mpr (And.intro ((rn_kR (M := M) hM p_as0)) ((rc_Ri_letterAt hM p_as0 ((hr1 c1)) ?_)))
    exact (rn_step (e := (.ireturn, 28, 0, 0, 0, 0, 0, [])) rfl).mpr (And.intro (trivial) ((k1 c1)))
  ·
    refine (rn_step (e := (.iconst (-1), 21, 0, 0, 0, 0, 0, [])) rfl).mpr ?_
    exact (rn_step (e := (.ireturn, 22, 0, 0, 0, 0, 0, [])) rfl).mpr (And.intro (trivial) ((k2 c1)))
theorem re_RN_town {M : rn_M} {Q : rn_Q} {v0 v1 v2 : rn_V} (h : rn_WP 110 0 [v0, v1, v2, rn_J, rn_J] [] M Q) : rn_ME 110 [v0, v1, v2] M Q := h
set_option maxRecDepth 4000 in
theorem rb_RN_town_0 {M : rn_M} {Q : rn_Q} {xl1 : Int} {vl2 : rn_V} {vl3 : rn_V} {vl4 : rn_V} (hM : rn_sh M)   (hr1 : rn_gr M 12 2 = some (rn_go M 12 2) ∧ rn_isB (rn_go M 12 2)) (k1 : rn_ME 6 [rn_R (rn_go M 12 2), rn_I xl1] M (fun r M1 => rn_WP 110 13 [rn_R 8, rn_I xl1, vl2, rn_R (rn_go M 12 2), vl4] (r.toList ++ []) M1 Q)) : rn_WP 110 0 [rn_R 8, rn_I xl1, vl2, vl3, vl4] [] M Q := by
  refine (rn_step (e := (.aload_n 0, 1, 0, 0, 0, 0, 0, [])) rfl).mpr ?_
  refine (rn_step (e := (.getfield 19, 4, 9, 1, 253, 2, 10, [])) rfl).mpr (And.intro ((rn_ks8 (M := M) hM)) (rn_cg (rn_g8_1 (M := M) hM) ?_))
  refine (rn_step (e := (.invokevirtual 166, 7, 20, 1, 280, 0, 2, [0])) rfl).mpr (And.intro ((rn_ks12 (M := M) hM)) ((rc_Hi_present hM (hr1.1) ?_)))
  refine (rn_step (e := (.astore_n 3, 8, 3, 0, 0, 0, 0, [])) rfl).mpr ?_
  refine (rn_step (e := (.aload_n 3, 9, 3, 0, 0, 0, 0, [])) rfl).mpr ?_
  refine (rn_step (e := (.iload_n 1, 10, 1, 0, 0, 0, 0, [])) rfl).mpr ?_
  exact (rn_step (e := (.invokevirtual 131, 13, 6, 2, 492, 0, 1, [0])) rfl).mpr (And.intro ((rn_kB (M := M) hM hr1.2)) (k1))
set_option maxRecDepth 4000 in
theorem rb_RN_town_13n {M : rn_M} {Q : rn_Q} {vl0 : rn_V} {vl1 : rn_V} {vl2 : rn_V} {vl3 : rn_V} {vl4 : rn_V}   (k1 : Q (some (rn_I (-1))) M) : rn_WP 110 13 [vl0, vl1, vl2, vl3, vl4] [rn_N] M Q := by
  refine (rn_step (e := (.astore 4, 15, 4, 0, 0, 0, 0, [])) rfl).mpr ?_
  refine (rn_step (e := (.aload 4, 17, 4, 0, 0, 0, 0, [])) rfl).mpr ?_
  refine (rn_step (e := (.ifnonnull 5, 20, 22, 0, 0, 0, 0, [])) rfl).mpr ?_
  refine (rn_step (e := (.iconst (-1), 21, 0, 0, 0, 0, 0, [])) rfl).mpr ?_
  exact (rn_step (e := (.ireturn, 22, 0, 0, 0, 0, 0, [])) rfl).mpr (And.intro (trivial) (k1))
set_option maxRecDepth 4000 in
theorem rb_RN_town_13s {M : rn_M} {Q : rn_Q} {vl0 : rn_V} {vl1 : rn_V} {xl2 : Int} {al3 : Nat} {vl4 : rn_V} {as0 : Nat} (hM : rn_sh M) (p_as0 : rn_isT as0) (p_al3 : rn_isB al3)  (k1 : (xl2 < 0 ∨ 5 < xl2) → Q (some (rn_I (-1))) M) (k2 : (xl2 = 0) → Q (some (rn_I (rn_gi M as0 0))) M) (k3 : (xl2 = 1) → Q (some (rn_I (rn_gi M as0 1))) M) (k4 : (xl2 = 2) → Q (some (rn_I (rn_gi M as0 2))) M) (k5 : (xl2 = 3) → Q (some (rn_I (rn_gi M as0 3))) M) (k6 : (xl2 = 4) → Q (some (rn_I (rn_gi M as0 4))) M) (k7 : (xl2 = 5) → rn_ME 13 [rn_R al3, rn_R as0] M (fun r M1 => rn_WP 110 96 [vl0, vl1, rn_I xl2, rn_R al3, rn_R as0] (r.toList ++ []) M1 Q)) : rn_WP 110 13 [vl0, vl1, rn_I xl2, rn_R al3, vl4] [rn_R as0] M Q := by
  refine (rn_step (e := (.astore 4, 15, 4, 0, 0, 0, 0, [])) rfl).mpr ?_
  refine (rn_step (e := (.aload 4, 17, 4, 0, 0, 0, 0, [])) rfl).mpr ?_
  refine (rn_step (e := (.ifnonnull 5, 20, 22, 0, 0, 0, 0, [])) rfl).mpr ?_
  refine (rn_step (e := (.iload_n 2, 23, 2, 0, 0, 0, 0, [])) rfl).mpr ?_
  refine (rn_step (e := (.tableswitch 74 0 5 #[37, 43, 49, 55, 61, 67], 60, 97, 0, 0, 0, 0, [60, 66, 72, 78, 84, 90])) rfl).mpr (And.intro (fun c1 => ?_) (fun q => ?_))
  ·
    refine (rn_step (e := (.iconst (-1), 98, 0, 0, 0, 0, 0, [])) rfl).mpr ?_
    exact (rn_step (e := (.ireturn, 99, 0, 0, 0, 0, 0, [])) rfl).mpr (And.intro (trivial) ((k1 c1)))
  ·
    obtain ⟨n, hn⟩ : ∃ n : Nat, xl2 = (n : Int) := ⟨(xl2).toNat, by omega⟩
    rw [show (xl2 - 0).toNat = n by omega]
    match n, hn with
    | 0, c1 =>
      refine (rn_step (e := (.aload 4, 62, 4, 0, 0, 0, 0, [])) rfl).mpr ?_
      refine (rn_step (e := (.getfield 215, 65, 8, 0, 143, 0, 9, [])) rfl).mpr (And.intro ((rn_kT (M := M) hM p_as0)) (?_))
      exact (rn_step (e := (.ireturn, 66, 0, 0, 0, 0, 0, [])) rfl).mpr (And.intro (trivial) ((k2 c1)))
    | 1, c1 =>
      refine (rn_step (e := (.aload 4, 68, 4, 0, 0, 0, 0, [])) rfl).mpr ?_
      refine (rn_step (e := (.getfield 218, 71, 8, 1, 145, 0, 9, [])) rfl).mpr (And.intro ((rn_kT (M := M) hM p_as0)) (?_))
      exact (rn_step (e := (.ireturn, 72, 0, 0, 0, 0, 0, [])) rfl).mpr (And.intro (trivial) ((k3 c1)))
    | 2, c1 =>
      refine (rn_step (e := (.aload 4, 74, 4, 0, 0, 0, 0, [])) rfl).mpr ?_
      refine (rn_step (e := (.getfield 221, 77, 8, 2, 147, 0, 9, [])) rfl).mpr (And.intro ((rn_kT (M := M) hM p_as0)) (?_))
      exact (rn_step (e := (.ireturn, 78, 0, 0, 0, 0, 0, [])) rfl).mpr (And.intro (trivial) ((k4 c1)))
    | 3, c1 =>
      refine (rn_step (e := (.aload 4, 80, 4, 0, 0, 0, 0, [])) rfl).mpr ?_
      refine (rn_step (e := (.getfield 224, 83, 8, 3, 149, 0, 9, [])) rfl).mpr (And.intro ((rn_kT (M := M) hM p_as0)) (?_))
      exact (rn_step (e := (.ireturn, 84, 0, 0, 0, 0, 0, [])) rfl).mpr (And.intro (trivial) ((k5 c1)))
    | 4, c1 =>
      refine (rn_step (e := (.aload 4, 86, 4, 0, 0, 0, 0, [])) rfl).mpr ?_
      refine (rn_step (e := (.getfield 135, 89, 8, 4, 152, 0, 9, [])) rfl).mpr (And.intro ((rn_kT (M := M) hM p_as0)) (?_))
      exact (rn_step (e := (.ireturn, 90, 0, 0, 0, 0, 0, [])) rfl).mpr (And.intro (trivial) ((k6 c1)))
    | 5, c1 =>
      refine (rn_step (e := (.aload_n 3, 91, 3, 0, 0, 0, 0, [])) rfl).mpr ?_
      refine (rn_step (e := (.aload 4, 93, 4, 0, 0, 0, 0, [])) rfl).mpr ?_
      exact (rn_step (e := (.invokevirtual 227, 96, 13, 2, 493, 0, 1, [0])) rfl).mpr (And.intro ((rn_kB (M := M) hM p_al3)) ((k7 c1)))
    | n + 6, hn => exact absurd (Or.inr (by omega)) q
set_option maxRecDepth 4000 in
theorem rb_RN_town_96 {M : rn_M} {Q : rn_Q} {vl0 : rn_V} {vl1 : rn_V} {vl2 : rn_V} {vl3 : rn_V} {vl4 : rn_V} {xs0 : Int}   (k1 : Q (some (rn_I xs0)) M) : rn_WP 110 96 [vl0, vl1, vl2, vl3, vl4] [rn_I xs0] M Q := by
  exact (rn_step (e := (.ireturn, 97, 0, 0, 0, 0, 0, [])) rfl).mpr (And.intro (trivial) (k1))
theorem re_RN_label {M : rn_M} {Q : rn_Q} {v0 v1 v2 : rn_V} (h : rn_WP 111 0 [v0, v1, v2, rn_J, rn_J, rn_J] [] M Q) : rn_ME 111 [v0, v1, v2] M Q := h
set_option maxRecDepth 4000 in
theorem rb_RN_label_0 {M : rn_M} {Q : rn_Q} {xl1 : Int} {vl2 : rn_V} {vl3 : rn_V} {vl4 : rn_V} {vl5 : rn_V} (hM : rn_sh M)   (hr1 : rn_gr M 12 2 = some (rn_go M 12 2) ∧ rn_isB (rn_go M 12 2)) (k1 : rn_ME 7 [rn_R (rn_go M 12 2), rn_I xl1] M (fun r M1 => rn_WP 111 13 [rn_R 8, rn_I xl1, vl2, rn_R (rn_go M 12 2), vl4, vl5] (r.toList ++ []) M1 Q)) : rn_WP 111 0 [rn_R 8, rn_I xl1, vl2, vl3, vl4, vl5] [] M Q := by
  refine (rn_step (e := (.aload_n 0, 1, 0, 0, 0, 0, 0, [])) rfl).mpr ?_
  refine (rn_step (e := (.getfield 19, 4, 9, 1, 253, 2, 10, [])) rfl).mpr (And.intro ((rn_ks8 (M := M) hM)) (rn_cg (rn_g8_1 (M := M) hM) ?_))
  refine (rn_step (e := (.invokevirtual 166, 7, 20, 1, 280, 0, 2, [0])) rfl).mpr (And.intro ((rn_ks12 (M := M) hM)) ((rc_Hi_present hM (hr1.1) ?_)))
  refine (rn_step (e := (.astore_n 3, 8, 3, 0, 0, 0, 0, [])) rfl).mpr ?_
  refine (rn_step (e := (.aload_n 3, 9, 3, 0, 0, 0, 0, [])) rfl).mpr ?_
  refine (rn_step (e := (.iload_n 1, 10, 1, 0, 0, 0, 0, [])) rfl).mpr ?_
  exact (rn_step (e := (.invokevirtual 231, 13, 7, 2, 465, 0, 1, [0])) rfl).mpr (And.intro ((rn_kB (M := M) hM hr1.2)) (k1))
set_option maxRecDepth 4000 in
theorem rb_RN_label_13n {M : rn_M} {Q : rn_Q} {vl0 : rn_V} {vl1 : rn_V} {vl2 : rn_V} {vl3 : rn_V} {vl4 : rn_V} {vl5 : rn_V}   (k1 : Q (some (rn_I (-1))) M) : rn_WP 111 13 [vl0, vl1, vl2, vl3, vl4, vl5] [rn_N] M Q := by
  refine (rn_step (e := (.astore 4, 15, 4, 0, 0, 0, 0, [])) rfl).mpr ?_
  refine (rn_step (e := (.aload 4, 17, 4, 0, 0, 0, 0, [])) rfl).mpr ?_
  refine (rn_step (e := (.ifnonnull 5, 20, 22, 0, 0, 0, 0, [])) rfl).mpr ?_
  refine (rn_step (e := (.iconst (-1), 21, 0, 0, 0, 0, 0, [])) rfl).mpr ?_
  exact (rn_step (e := (.ireturn, 22, 0, 0, 0, 0, 0, [])) rfl).mpr (And.intro (trivial) (k1))
set_option maxRecDepth 4000 in
theorem rb_RN_label_13s {M : rn_M} {Q : rn_Q} {xl1 : Int} {xl2 : Int} {al3 : Nat} {vl4 : rn_V} {vl5 : rn_V} {as0 : Nat} (hM : rn_sh M) (p_as0 : rn_isL as0) (p_al3 : rn_isB al3)  (hr1 : rn_gr M as0 0 = some (rn_go M as0 0)) (hr2 : (xl2 = 0) → rn_isR (rn_go M as0 0)) (hr3 : (xl2 = 2) → rn_isR (rn_go M as0 0)) (hr4 : (xl2 = 3) → rn_isR (rn_go M as0 0)) (hr5 : (xl2 = 4) → rn_isR (rn_go M as0 0)) (k1 : (xl2 < 0 ∨ 7 < xl2) → Q (some (rn_I (-1))) M) (k2 : (xl2 = 0) → Q (some (rn_I (rn_gi M (rn_go M as0 0) 0))) M) (k3 : (xl2 = 1) → Q (some (rn_I (rn_gi M as0 1))) M) (k4 : (xl2 = 2) → rn_ME 72 [rn_R (rn_go M as0 0), rn_I (rn_gi M as0 1)] M (fun r M1 => rn_WP 111 98 [rn_R 8, rn_I xl1, rn_I xl2, rn_R al3, rn_R as0, rn_R (rn_go M as0 0)] (r.toList ++ []) M1 Q)) (k5 : (xl2 = 3) → rn_ME 70 [rn_R (rn_go M as0 0), rn_I (rn_gi M as0 1), rn_I (rn_gi M (rn_go M as0 0) 3)] M (fun r M1 => rn_WP 111 114 [rn_R 8, rn_I xl1, rn_I xl2, rn_R al3, rn_R as0, rn_R (rn_go M as0 0)] (r.toList ++ []) M1 Q)) (k6 : (xl2 = 4) → rn_ME 73 [rn_R (rn_go M as0 0), rn_I (rn_gi M as0 1)] M (fun r M1 => rn_WP 111 125 [rn_R 8, rn_I xl1, rn_I xl2, rn_R al3, rn_R as0, rn_R (rn_go M as0 0)] (r.toList ++ []) M1 Q)) (k7 : (xl2 = 5) → rn_ME 44 [rn_R as0, rn_R 464] M (fun r M1 => rn_WP 111 143 [rn_R 8, rn_I xl1, rn_I xl2, rn_R al3, rn_R as0, rn_R (rn_go M as0 0)] (r.toList ++ []) M1 Q)) (k8 : (xl2 = 6) → rn_ME 26 [rn_R 462, rn_R al3, rn_R (rn_go M as0 0), rn_I (rn_gi M as0 1), rn_I xl1] M (fun r M1 => rn_WP 111 160 [rn_R 8, rn_I xl1, rn_I xl2, rn_R al3, rn_R as0, rn_R (rn_go M as0 0)] (r.toList ++ []) M1 Q)) (k9 : (xl2 = 7) → rn_ME 14 [rn_R al3, rn_R as0] M (fun r M1 => rn_WP 111 167 [rn_R 8, rn_I xl1, rn_I xl2, rn_R al3, rn_R as0, rn_R (rn_go M as0 0)] (r.toList ++ []) M1 Q)) : rn_WP 111 13 [rn_R 8, rn_I xl1, rn_I xl2, rn_R al3, vl4, vl5] [rn_R as0] M Q := by
  refine (rn_step (e := (.astore 4, 15, 4, 0, 0, 0, 0, [])) rfl).mpr ?_
  refine (rn_step (e := (.aload 4, 17, 4, 0, 0, 0, 0, [])) rfl).mpr ?_
  refine (rn_step (e := (.ifnonnull 5, 20, 22, 0, 0, 0, 0, [])) rfl).mpr ?_
  refine (rn_step (e := (.aload 4, 24, 4, 0, 0, 0, 0, [])) rfl).mpr ?_
  refine (rn_step (e := (.getfield 235, 27, 3, 0, 172, 2, 4, [])) rfl).mpr (And.intro ((rn_kL (M := M) hM p_as0)) (rn_cg hr1 ?_))
  refine (rn_step (e := (.astore 5, 29, 5, 0, 0, 0, 0, [])) rfl).mpr ?_
  refine (rn_step (e := (.iload_n 2, 30, 2, 0, 0, 0, 0, [])) rfl).mpr ?_
  refine (rn_step (e := (.tableswitch 138 0 7 #[46, 52, 58, 69, 85, 104, 114, 131], 76, 168, 0, 0, 0, 0, [76, 82, 88, 99, 115, 134, 144, 161])) rfl).mpr (And.intro (fun c1 => ?_) (fun q => ?_))
  ·
    refine (rn_step (e := (.iconst (-1), 169, 0, 0, 0, 0, 0, [])) rfl).mpr ?_
    exact (rn_step (e := (.ireturn, 170, 0, 0, 0, 0, 0, [])) rfl).mpr (And.intro (trivial) ((k1 c1)))
  ·
    obtain ⟨n, hn⟩ : ∃ n : Nat, xl2 = (n : Int) := ⟨(xl2).toNat, by omega⟩
    rw [show (xl2 - 0).toNat = n by omega]
    match n, hn with
    | 0, c1 =>
      refine (rn_step (e := (.aload 5, 78, 5, 0, 0, 0, 0, [])) rfl).mpr ?_
      refine (rn_step (e := (.getfield 96, 81, 5, 0, 98, 0, 6, [])) rfl).mpr (And.intro ((rn_kR (M := M) hM (hr2 c1))) (?_))
      exact (rn_step (e := (.ireturn, 82, 0, 0, 0, 0, 0, [])) rfl).mpr (And.intro (trivial) ((k2 c1)))
    | 1, c1 =>
      refine (rn_step (e := (.aload 4, 84, 4, 0, 0, 0, 0, [])) rfl).mpr ?_
      refine (rn_step (e := (.getfield 241, 87, 3, 1, 176, 0, 4, [])) rfl).mpr (And.intro ((rn_kL (M := M) hM p_as0)) (?_))
      exact (rn_step (e := (.ireturn, 88, 0, 0, 0, 0, 0, [])) rfl).mpr (And.intro (trivial) ((k3 c1)))
    | 2, c1 =>
      refine (rn_step (e := (.aload 5, 90, 5, 0, 0, 0, 0, [])) rfl).mpr ?_
      refine (rn_step (e := (.aload 4, 92, 4, 0, 0, 0, 0, [])) rfl).mpr ?_
      refine (rn_step (e := (.getfield 241, 95, 3, 1, 176, 0, 4, [])) rfl).mpr (And.intro ((rn_kL (M := M) hM p_as0)) (?_))
      exact (rn_step (e := (.invokevirtual 244, 98, 72, 2, 466, 0, 6, [0])) rfl).mpr (And.intro ((rn_kR (M := M) hM (hr3 c1))) ((k4 c1)))
    | 3, c1 =>
      refine (rn_step (e := (.aload 5, 101, 5, 0, 0, 0, 0, [])) rfl).mpr ?_
      refine (rn_step (e := (.aload 4, 103, 4, 0, 0, 0, 0, [])) rfl).mpr ?_
      refine (rn_step (e := (.getfield 241, 106, 3, 1, 176, 0, 4, [])) rfl).mpr (And.intro ((rn_kL (M := M) hM p_as0)) (?_))
      refine (rn_step (e := (.aload 5, 108, 5, 0, 0, 0, 0, [])) rfl).mpr ?_
      refine (rn_step (e := (.getfield 188, 111, 5, 3, 110, 0, 6, [])) rfl).mpr (And.intro ((rn_kR (M := M) hM (hr4 c1))) (?_))
      exact (rn_step (e := (.invokevirtual 198, 114, 70, 3, 440, 0, 6, [0])) rfl).mpr (And.intro ((rn_kR (M := M) hM (hr4 c1))) ((k5 c1)))
    | 4, c1 =>
      refine (rn_step (e := (.aload 5, 117, 5, 0, 0, 0, 0, [])) rfl).mpr ?_
      refine (rn_step (e := (.aload 4, 119, 4, 0, 0, 0, 0, [])) rfl).mpr ?_
      refine (rn_step (e := (.getfield 241, 122, 3, 1, 176, 0, 4, [])) rfl).mpr (And.intro ((rn_kL (M := M) hM p_as0)) (?_))
      exact (rn_step (e := (.invokevirtual 247, 125, 73, 2, 467, 0, 6, [0])) rfl).mpr (And.intro ((rn_kR (M := M) hM (hr5 c1))) ((k6 c1)))
    | 5, c1 =>
      refine (rn_step (e := (.aload 4, 136, 4, 0, 0, 0, 0, [])) rfl).mpr ?_
      refine (rn_step (e := (.aload_n 0, 137, 0, 0, 0, 0, 0, [])) rfl).mpr ?_
      refine (rn_step (e := (.getfield 33, 140, 9, 3, 255, 2, 10, [])) rfl).mpr (And.intro ((rn_ks8 (M := M) hM)) (rn_cg (rn_g8_3 (M := M) hM) ?_))
      exact (rn_step (e := (.invokevirtual 250, 143, 44, 2, 471, 0, 4, [0])) rfl).mpr (And.intro ((rn_kL (M := M) hM p_as0)) ((k7 c1)))
    | 6, c1 =>
      refine (rn_step (e := (.aload_n 0, 145, 0, 0, 0, 0, 0, [])) rfl).mpr ?_
      refine (rn_step (e := (.getfield 26, 148, 9, 2, 254, 2, 10, [])) rfl).mpr (And.intro ((rn_ks8 (M := M) hM)) (rn_cg (rn_g8_2 (M := M) hM) ?_))
      refine (rn_step (e := (.aload_n 3, 149, 3, 0, 0, 0, 0, [])) rfl).mpr ?_
      refine (rn_step (e := (.aload 5, 151, 5, 0, 0, 0, 0, [])) rfl).mpr ?_
      refine (rn_step (e := (.aload 4, 153, 4, 0, 0, 0, 0, [])) rfl).mpr ?_
      refine (rn_step (e := (.getfield 241, 156, 3, 1, 176, 0, 4, [])) rfl).mpr (And.intro ((rn_kL (M := M) hM p_as0)) (?_))
      refine (rn_step (e := (.iload_n 1, 157, 1, 0, 0, 0, 0, [])) rfl).mpr ?_
      exact (rn_step (e := (.invokevirtual 142, 160, 26, 5, 477, 0, 3, [0])) rfl).mpr (And.intro ((rn_ks462 (M := M) hM)) ((k8 c1)))
    | 7, c1 =>
      refine (rn_step (e := (.aload_n 3, 162, 3, 0, 0, 0, 0, [])) rfl).mpr ?_
      refine (rn_step (e := (.aload 4, 164, 4, 0, 0, 0, 0, [])) rfl).mpr ?_
      exact (rn_step (e := (.invokevirtual 253, 167, 14, 2, 478, 0, 1, [0])) rfl).mpr (And.intro ((rn_kB (M := M) hM p_al3)) ((k9 c1)))
    | n + 8, hn => exact absurd (Or.inr (by omega)) q
set_option maxRecDepth 4000 in
theorem rb_RN_label_98 {M : rn_M} {Q : rn_Q} {vl0 : rn_V} {vl1 : rn_V} {vl2 : rn_V} {vl3 : rn_V} {vl4 : rn_V} {vl5 : rn_V} {xs0 : Int}   (k1 : Q (some (rn_I xs0)) M) : rn_WP 111 98 [vl0, vl1, vl2, vl3, vl4, vl5] [rn_I xs0] M Q := by
  exact (rn_step (e := (.ireturn, 99, 0, 0, 0, 0, 0, [])) rfl).mpr (And.intro (trivial) (k1))
set_option maxRecDepth 4000 in
theorem rb_RN_label_114 {M : rn_M} {Q : rn_Q} {vl0 : rn_V} {vl1 : rn_V} {vl2 : rn_V} {vl3 : rn_V} {vl4 : rn_V} {vl5 : rn_V} {xs0 : Int}   (k1 : Q (some (rn_I xs0)) M) : rn_WP 111 114 [vl0, vl1, vl2, vl3, vl4, vl5] [rn_I xs0] M Q := by
  exact (rn_step (e := (.ireturn, 115, 0, 0, 0, 0, 0, [])) rfl).mpr (And.intro (trivial) (k1))
set_option maxRecDepth 4000 in
theorem rb_RN_label_125 {M : rn_M} {Q : rn_Q} {vl0 : rn_V} {vl1 : rn_V} {vl2 : rn_V} {vl3 : rn_V} {vl4 : rn_V} {vl5 : rn_V} {xs0 : Int}   (k1 : (xs0 = 0) → Q (some (rn_I 0)) M) (k2 : (¬ (xs0 = 0)) → Q (some (rn_I 1)) M) : rn_WP 111 125 [vl0, vl1, vl2, vl3, vl4, vl5] [rn_I xs0] M Q := by
  refine (rn_step (e := (.ifCond .eq 7, 128, 132, 0, 0, 0, 0, [])) rfl).mpr (And.intro (fun c1 => ?_) (fun c1 => ?_))
  ·
    refine (rn_step (e := (.iconst 0, 133, 0, 0, 0, 0, 0, [])) rfl).mpr ?_
    exact (rn_step (e := (.ireturn, 134, 0, 0, 0, 0, 0, [])) rfl).mpr (And.intro (trivial) ((k1 c1)))
  ·
    refine (rn_step (e := (.iconst 1, 129, 0, 0, 0, 0, 0, [])) rfl).mpr ?_
    refine (rn_step (e := (.goto 4, 132, 133, 0, 0, 0, 0, [])) rfl).mpr ?_
    exact (rn_step (e := (.ireturn, 134, 0, 0, 0, 0, 0, [])) rfl).mpr (And.intro (trivial) ((k2 c1)))
set_option maxRecDepth 4000 in
theorem rb_RN_label_143 {M : rn_M} {Q : rn_Q} {vl0 : rn_V} {vl1 : rn_V} {vl2 : rn_V} {vl3 : rn_V} {vl4 : rn_V} {vl5 : rn_V} {xs0 : Int}   (k1 : Q (some (rn_I xs0)) M) : rn_WP 111 143 [vl0, vl1, vl2, vl3, vl4, vl5] [rn_I xs0] M Q := by
  exact (rn_step (e := (.ireturn, 144, 0, 0, 0, 0, 0, [])) rfl).mpr (And.intro (trivial) (k1))
set_option maxRecDepth 4000 in
theorem rb_RN_label_160 {M : rn_M} {Q : rn_Q} {vl0 : rn_V} {vl1 : rn_V} {vl2 : rn_V} {vl3 : rn_V} {vl4 : rn_V} {vl5 : rn_V} {xs0 : Int}   (k1 : Q (some (rn_I xs0)) M) : rn_WP 111 160 [vl0, vl1, vl2, vl3, vl4, vl5] [rn_I xs0] M Q := by
  exact (rn_step (e := (.ireturn, 161, 0, 0, 0, 0, 0, [])) rfl).mpr (And.intro (trivial) (k1))
set_option maxRecDepth 4000 in
theorem rb_RN_label_167 {M : rn_M} {Q : rn_Q} {vl0 : rn_V} {vl1 : rn_V} {vl2 : rn_V} {vl3 : rn_V} {vl4 : rn_V} {vl5 : rn_V} {xs0 : Int}   (k1 : Q (some (rn_I xs0)) M) : rn_WP 111 167 [vl0, vl1, vl2, vl3, vl4, vl5] [rn_I xs0] M Q := by
  exact (rn_step (e := (.ireturn, 168, 0, 0, 0, 0, 0, [])) rfl).mpr (And.intro (trivial) (k1))
theorem re_RN_written {M : rn_M} {Q : rn_Q} {v0 v1 v2 : rn_V} (h : rn_WP 112 0 [v0, v1, v2] [] M Q) : rn_ME 112 [v0, v1, v2] M Q := h
set_option maxRecDepth 4000 in
theorem rb_RN_written_0 {M : rn_M} {Q : rn_Q} {xl1 : Int} {xl2 : Int} (hM : rn_sh M)   (hr1 : ((0 ≤ xl1 ∧ xl1 < 60) ∧ 0 ≤ xl2 ∧ xl2 < 40) → rn_gr M 12 2 = some (rn_go M 12 2) ∧ rn_isB (rn_go M 12 2)) (k1 : (¬ ((0 ≤ xl1 ∧ xl1 < 60) ∧ 0 ≤ xl2 ∧ xl2 < 40)) → Q (some (rn_I (-1))) M) (k2 : ((0 ≤ xl1 ∧ xl1 < 60) ∧ 0 ≤ xl2 ∧ xl2 < 40) → rn_ME 18 [rn_R (rn_go M 12 2), rn_I xl1, rn_I xl2] M (fun r M1 => rn_WP 112 22 [rn_R 8, rn_I xl1, rn_I xl2] (r.toList ++ []) M1 Q)) : rn_WP 112 0 [rn_R 8, rn_I xl1, rn_I xl2] [] M Q := by
  refine (rn_step (e := (.iload_n 1, 1, 1, 0, 0, 0, 0, [])) rfl).mpr ?_
  refine (rn_step (e := (.iload_n 2, 2, 2, 0, 0, 0, 0, [])) rfl).mpr ?_
  refine (rn_step (e := (.invokestatic 70, 5, 119, 2, 513, 0, 10, [0])) rfl).mpr (rc_RN_onMap  ?_)
  refine (rn_step (e := (.ifCond .ne 5, 8, 10, 0, 0, 0, 0, [])) rfl).mpr (And.intro (fun q => ?_) (fun q => ?_))
  · have c1 := rn_b0 q
    refine (rn_step (e := (.iconst (-1), 9, 0, 0, 0, 0, 0, [])) rfl).mpr ?_
    exact (rn_step (e := (.ireturn, 10, 0, 0, 0, 0, 0, [])) rfl).mpr (And.intro (trivial) ((k1 c1)))
  · have c1 := rn_b1 q
    refine (rn_step (e := (.aload_n 0, 11, 0, 0, 0, 0, 0, [])) rfl).mpr ?_
    refine (rn_step (e := (.getfield 19, 14, 9, 1, 253, 2, 10, [])) rfl).mpr (And.intro ((rn_ks8 (M := M) hM)) (rn_cg (rn_g8_1 (M := M) hM) ?_))
    refine (rn_step (e := (.invokevirtual 166, 17, 20, 1, 280, 0, 2, [0])) rfl).mpr (And.intro ((rn_ks12 (M := M) hM)) ((rc_Hi_present hM ((hr1 c1).1) ?_)))
    refine (rn_step (e := (.iload_n 1, 18, 1, 0, 0, 0, 0, [])) rfl).mpr ?_
    refine (rn_step (e := (.iload_n 2, 19, 2, 0, 0, 0, 0, [])) rfl).mpr ?_
    exact (rn_step (e := (.invokevirtual 257, 22, 18, 3, 677, 0, 1, [0])) rfl).mpr (And.intro ((rn_kB (M := M) hM (hr1 c1).2)) ((k2 c1)))
set_option maxRecDepth 4000 in
theorem rb_RN_written_22 {M : rn_M} {Q : rn_Q} {vl0 : rn_V} {vl1 : rn_V} {vl2 : rn_V} {xs0 : Int}   (k1 : Q (some (rn_I xs0)) M) : rn_WP 112 22 [vl0, vl1, vl2] [rn_I xs0] M Q := by
  exact (rn_step (e := (.ireturn, 23, 0, 0, 0, 0, 0, [])) rfl).mpr (And.intro (trivial) (k1))
theorem re_RN_bend {M : rn_M} {Q : rn_Q} {v0 v1 v2 v3 : rn_V} (h : rn_WP 113 0 [v0, v1, v2, v3, rn_J] [] M Q) : rn_ME 113 [v0, v1, v2, v3] M Q := h
set_option maxRecDepth 4000 in
theorem rb_RN_bend_0 {M : rn_M} {Q : rn_Q} {xl1 : Int} {vl2 : rn_V} {vl3 : rn_V} {vl4 : rn_V} (hM : rn_sh M)   (hr1 : rn_gr M 12 2 = some (rn_go M 12 2) ∧ rn_isB (rn_go M 12 2)) (k1 : rn_ME 5 [rn_R (rn_go M 12 2), rn_I xl1] M (fun r M1 => rn_WP 113 11 [rn_R 8, rn_I xl1, vl2, vl3, vl4] (r.toList ++ []) M1 Q)) : rn_WP 113 0 [rn_R 8, rn_I xl1, vl2, vl3, vl4] [] M Q := by
  refine (rn_step (e := (.aload_n 0, 1, 0, 0, 0, 0, 0, [])) rfl).mpr ?_
  refine (rn_step (e := (.getfield 19, 4, 9, 1, 253, 2, 10, [])) rfl).mpr (And.intro ((rn_ks8 (M := M) hM)) (rn_cg (rn_g8_1 (M := M) hM) ?_))
  refine (rn_step (e := (.invokevirtual 166, 7, 20, 1, 280, 0, 2, [0])) rfl).mpr (And.intro ((rn_ks12 (M := M) hM)) ((rc_Hi_present hM (hr1.1) ?_)))
  refine (rn_step (e := (.iload_n 1, 8, 1, 0, 0, 0, 0, [])) rfl).mpr ?_
  exact (rn_step (e := (.invokevirtual 112, 11, 5, 2, 430, 0, 1, [0])) rfl).mpr (And.intro ((rn_kB (M := M) hM hr1.2)) (k1))
set_option maxRecDepth 4000 in
theorem rb_RN_bend_11n {M : rn_M} {Q : rn_Q} {vl0 : rn_V} {vl1 : rn_V} {vl2 : rn_V} {vl3 : rn_V} {vl4 : rn_V}   (k1 : Q (some (rn_I (-1))) M) : rn_WP 113 11 [vl0, vl1, vl2, vl3, vl4] [rn_N] M Q := by
  refine (rn_step (e := (.astore 4, 13, 4, 0, 0, 0, 0, [])) rfl).mpr ?_
  refine (rn_step (e := (.aload 4, 15, 4, 0, 0, 0, 0, [])) rfl).mpr ?_
  refine (rn_step (e := (.ifnull 20, 18, 35, 0, 0, 0, 0, [])) rfl).mpr ?_
  refine (rn_step (e := (.iconst (-1), 36, 0, 0, 0, 0, 0, [])) rfl).mpr ?_
  exact (rn_step (e := (.ireturn, 37, 0, 0, 0, 0, 0, [])) rfl).mpr (And.intro (trivial) (k1))
set_option maxRecDepth 4000 in
theorem rb_RN_bend_11s {M : rn_M} {Q : rn_Q} {vl0 : rn_V} {vl1 : rn_V} {xl2 : Int} {xl3 : Int} {vl4 : rn_V} {as0 : Nat} (hM : rn_sh M) (p_as0 : rn_isR as0)  (hr1 : (0 ≤ xl2 ∧ xl2 ≤ 60) → (1 ≤ xl3 ∧ xl3 ≤ 61) → ((-1000 : Int) ≤ xl3 ∧ (xl3 : Int) ≤ 1000) ∧ (-1000 ≤ rn_gi M as0 4 ∧ rn_gi M as0 4 ≤ 1000)) (k1 : (¬ (0 ≤ xl2 ∧ xl2 ≤ 60)) → Q (some (rn_I (-1))) M) (k2 : (0 ≤ xl2 ∧ xl2 ≤ 60) → (¬ (1 ≤ xl3 ∧ xl3 ≤ 61)) → Q (some (rn_I (-1))) M) (k3 : (0 ≤ xl2 ∧ xl2 ≤ 60) → (1 ≤ xl3 ∧ xl3 ≤ 61) → (rn_gi M as0 4 + 1 - xl3 < xl2) → Q (some (rn_I (-9))) M) (k4 : (0 ≤ xl2 ∧ xl2 ≤ 60) → (1 ≤ xl3 ∧ xl3 ≤ 61) → (¬ (rn_gi M as0 4 + 1 - xl3 < xl2)) → rn_ME 70 [rn_R as0, rn_I xl2, rn_I xl3] M (fun r M1 => rn_WP 113 54 [vl0, vl1, rn_I xl2, rn_I xl3, rn_R as0] (r.toList ++ []) M1 Q)) : rn_WP 113 11 [vl0, vl1, rn_I xl2, rn_I xl3, vl4] [rn_R as0] M Q := by
  refine (rn_step (e := (.astore 4, 13, 4, 0, 0, 0, 0, [])) rfl).mpr ?_
  refine (rn_step (e := (.aload 4, 15, 4, 0, 0, 0, 0, [])) rfl).mpr ?_
  refine (rn_step (e := (.ifnull 20, 18, 35, 0, 0, 0, 0, [])) rfl).mpr ?_
  refine (rn_step (e := (.iload_n 2, 19, 2, 0, 0, 0, 0, [])) rfl).mpr ?_
  refine (rn_step (e := (.invokestatic 139, 22, 122, 1, 454, 0, 10, [0])) rfl).mpr (rc_RN_isPlaceNumber  ?_)
  refine (rn_step (e := (.ifCond .eq 13, 25, 35, 0, 0, 0, 0, [])) rfl).mpr (And.intro (fun q => ?_) (fun q => ?_))
  · have c1 := rn_b0 q
    refine (rn_step (e := (.iconst (-1), 36, 0, 0, 0, 0, 0, [])) rfl).mpr ?_
    exact (rn_step (e := (.ireturn, 37, 0, 0, 0, 0, 0, [])) rfl).mpr (And.intro (trivial) ((k1 c1)))
  · have c1 := rn_b1 q
    refine (rn_step (e := (.iload_n 3, 26, 3, 0, 0, 0, 0, [])) rfl).mpr ?_
    refine (rn_step (e := (.iconst 1, 27, 0, 0, 0, 0, 0, [])) rfl).mpr ?_
    refine (rn_step (e := (.bipush 61, 29, 0, 0, 0, 0, 0, [])) rfl).mpr ?_
    refine (rn_step (e := (.invokestatic 37, 32, 118, 3, 457, 0, 10, [0])) rfl).mpr (rc_RN_within  ?_)
    refine (rn_step (e := (.ifCond .ne 5, 35, 37, 0, 0, 0, 0, [])) rfl).mpr (And.intro (fun q => ?_) (fun q => ?_))
    · have c2 := rn_b0 q
      refine (rn_step (e := (.iconst (-1), 36, 0, 0, 0, 0, 0, [])) rfl).mpr ?_
      exact (rn_step (e := (.ireturn, 37, 0, 0, 0, 0, 0, [])) rfl).mpr (And.intro (trivial) ((k2 c1 c2)))
    · have c2 := rn_b1 q
      refine (rn_step (e := (.iload_n 2, 38, 2, 0, 0, 0, 0, [])) rfl).mpr ?_
      refine (rn_step (e := (.aload 4, 40, 4, 0, 0, 0, 0, [])) rfl).mpr ?_
      refine (rn_step (e := (.iload_n 3, 41, 3, 0, 0, 0, 0, [])) rfl).mpr ?_
      refine (rn_step (e := (.invokevirtual 260, 44, 68, 2, 691, 0, 6, [0])) rfl).mpr (And.intro ((rn_kR (M := M) hM p_as0)) ((rc_Ri_lastStart hM p_as0 ((hr1 c1 c2).1) ((hr1 c1 c2).2) ?_)))
      refine (rn_step (e := (.if_icmp .gt 13, 47, 57, 0, 0, 0, 0, [])) rfl).mpr (And.intro (fun c3 => ?_) (fun c3 => ?_))
      ·
        refine (rn_step (e := (.bipush (-9), 59, 0, 0, 0, 0, 0, [])) rfl).mpr ?_
        exact (rn_step (e := (.ireturn, 60, 0, 0, 0, 0, 0, [])) rfl).mpr (And.intro (trivial) ((k3 c1 c2 c3)))
      ·
        refine (rn_step (e := (.aload 4, 49, 4, 0, 0, 0, 0, [])) rfl).mpr ?_
        refine (rn_step (e := (.iload_n 2, 50, 2, 0, 0, 0, 0, [])) rfl).mpr ?_
        refine (rn_step (e := (.iload_n 3, 51, 3, 0, 0, 0, 0, [])) rfl).mpr ?_
        exact (rn_step (e := (.invokevirtual 198, 54, 70, 3, 440, 0, 6, [0])) rfl).mpr (And.intro ((rn_kR (M := M) hM p_as0)) ((k4 c1 c2 c3)))
set_option maxRecDepth 4000 in
theorem rb_RN_bend_54 {M : rn_M} {Q : rn_Q} {vl0 : rn_V} {vl1 : rn_V} {vl2 : rn_V} {vl3 : rn_V} {vl4 : rn_V} {xs0 : Int}   (k1 : Q (some (rn_I xs0)) M) : rn_WP 113 54 [vl0, vl1, vl2, vl3, vl4] [rn_I xs0] M Q := by
  refine (rn_step (e := (.goto 5, 57, 59, 0, 0, 0, 0, [])) rfl).mpr ?_
  exact (rn_step (e := (.ireturn, 60, 0, 0, 0, 0, 0, [])) rfl).mpr (And.intro (trivial) (k1))
theorem re_RN_straightest {M : rn_M} {Q : rn_Q} {v0 v1 v2 : rn_V} (h : rn_WP 114 0 [v0, v1, v2, rn_J] [] M Q) : rn_ME 114 [v0, v1, v2] M Q := h
set_option maxRecDepth 4000 in
theorem rb_RN_straightest_0 {M : rn_M} {Q : rn_Q} {xl1 : Int} {vl2 : rn_V} {vl3 : rn_V} (hM : rn_sh M)   (hr1 : rn_gr M 12 2 = some (rn_go M 12 2) ∧ rn_isB (rn_go M 12 2)) (k1 : rn_ME 5 [rn_R (rn_go M 12 2), rn_I xl1] M (fun r M1 => rn_WP 114 11 [rn_R 8, rn_I xl1, vl2, vl3] (r.toList ++ []) M1 Q)) : rn_WP 114 0 [rn_R 8, rn_I xl1, vl2, vl3] [] M Q := by
  refine (rn_step (e := (.aload_n 0, 1, 0, 0, 0, 0, 0, [])) rfl).mpr ?_
  refine (rn_step (e := (.getfield 19, 4, 9, 1, 253, 2, 10, [])) rfl).mpr (And.intro ((rn_ks8 (M := M) hM)) (rn_cg (rn_g8_1 (M := M) hM) ?_))
  refine (rn_step (e := (.invokevirtual 166, 7, 20, 1, 280, 0, 2, [0])) rfl).mpr (And.intro ((rn_ks12 (M := M) hM)) ((rc_Hi_present hM (hr1.1) ?_)))
  refine (rn_step (e := (.iload_n 1, 8, 1, 0, 0, 0, 0, [])) rfl).mpr ?_
  exact (rn_step (e := (.invokevirtual 112, 11, 5, 2, 430, 0, 1, [0])) rfl).mpr (And.intro ((rn_kB (M := M) hM hr1.2)) (k1))
set_option maxRecDepth 4000 in
theorem rb_RN_straightest_11n {M : rn_M} {Q : rn_Q} {vl0 : rn_V} {vl1 : rn_V} {vl2 : rn_V} {vl3 : rn_V}   (k1 : Q (some (rn_I (-1))) M) : rn_WP 114 11 [vl0, vl1, vl2, vl3] [rn_N] M Q := by
  refine (rn_step (e := (.astore_n 3, 12, 3, 0, 0, 0, 0, [])) rfl).mpr ?_
  refine (rn_step (e := (.aload_n 3, 13, 3, 0, 0, 0, 0, [])) rfl).mpr ?_
  refine (rn_step (e := (.ifnull 13, 16, 26, 0, 0, 0, 0, [])) rfl).mpr ?_
  refine (rn_step (e := (.iconst (-1), 27, 0, 0, 0, 0, 0, [])) rfl).mpr ?_
  exact (rn_step (e := (.ireturn, 28, 0, 0, 0, 0, 0, [])) rfl).mpr (And.intro (trivial) (k1))
set_option maxRecDepth 4000 in
theorem rb_RN_straightest_11s {M : rn_M} {Q : rn_Q} {vl0 : rn_V} {vl1 : rn_V} {xl2 : Int} {vl3 : rn_V} {as0 : Nat} (hM : rn_sh M) (p_as0 : rn_isR as0)  (k1 : (¬ (1 ≤ xl2 ∧ xl2 ≤ 61)) → Q (some (rn_I (-1))) M) (k2 : (1 ≤ xl2 ∧ xl2 ≤ 61) → rn_ME 71 [rn_R as0, rn_I xl2] M (fun r M1 => rn_WP 114 33 [vl0, vl1, rn_I xl2, rn_R as0] (r.toList ++ []) M1 Q)) : rn_WP 114 11 [vl0, vl1, rn_I xl2, vl3] [rn_R as0] M Q := by
  refine (rn_step (e := (.astore_n 3, 12, 3, 0, 0, 0, 0, [])) rfl).mpr ?_
  refine (rn_step (e := (.aload_n 3, 13, 3, 0, 0, 0, 0, [])) rfl).mpr ?_
  refine (rn_step (e := (.ifnull 13, 16, 26, 0, 0, 0, 0, [])) rfl).mpr ?_
  refine (rn_step (e := (.iload_n 2, 17, 2, 0, 0, 0, 0, [])) rfl).mpr ?_
  refine (rn_step (e := (.iconst 1, 18, 0, 0, 0, 0, 0, [])) rfl).mpr ?_
  refine (rn_step (e := (.bipush 61, 20, 0, 0, 0, 0, 0, [])) rfl).mpr ?_
  refine (rn_step (e := (.invokestatic 37, 23, 118, 3, 457, 0, 10, [0])) rfl).mpr (rc_RN_within  ?_)
  refine (rn_step (e := (.ifCond .ne 5, 26, 28, 0, 0, 0, 0, [])) rfl).mpr (And.intro (fun q => ?_) (fun q => ?_))
  · have c1 := rn_b0 q
    refine (rn_step (e := (.iconst (-1), 27, 0, 0, 0, 0, 0, [])) rfl).mpr ?_
    exact (rn_step (e := (.ireturn, 28, 0, 0, 0, 0, 0, [])) rfl).mpr (And.intro (trivial) ((k1 c1)))
  · have c1 := rn_b1 q
    refine (rn_step (e := (.aload_n 3, 29, 3, 0, 0, 0, 0, [])) rfl).mpr ?_
    refine (rn_step (e := (.iload_n 2, 30, 2, 0, 0, 0, 0, [])) rfl).mpr ?_
    exact (rn_step (e := (.invokevirtual 263, 33, 71, 2, 696, 0, 6, [0])) rfl).mpr (And.intro ((rn_kR (M := M) hM p_as0)) ((k2 c1)))
set_option maxRecDepth 4000 in
theorem rb_RN_straightest_33 {M : rn_M} {Q : rn_Q} {vl0 : rn_V} {vl1 : rn_V} {vl2 : rn_V} {vl3 : rn_V} {xs0 : Int}   (k1 : Q (some (rn_I xs0)) M) : rn_WP 114 33 [vl0, vl1, vl2, vl3] [rn_I xs0] M Q := by
  exact (rn_step (e := (.ireturn, 34, 0, 0, 0, 0, 0, [])) rfl).mpr (And.intro (trivial) (k1))
theorem re_RN_reason {M : rn_M} {Q : rn_Q} {v0 v1 v2 : rn_V} (h : rn_WP 115 0 [v0, v1, v2, rn_J, rn_J] [] M Q) : rn_ME 115 [v0, v1, v2] M Q := h
set_option maxRecDepth 4000 in
theorem rb_RN_reason_0 {M : rn_M} {Q : rn_Q} {xl1 : Int} {vl2 : rn_V} {vl3 : rn_V} {vl4 : rn_V} (hM : rn_sh M)   (hr1 : rn_gr M 12 2 = some (rn_go M 12 2) ∧ rn_isB (rn_go M 12 2)) (k1 : rn_ME 5 [rn_R (rn_go M 12 2), rn_I xl1] M (fun r M1 => rn_WP 115 13 [rn_R 8, rn_I xl1, vl2, rn_R (rn_go M 12 2), vl4] (r.toList ++ []) M1 Q)) : rn_WP 115 0 [rn_R 8, rn_I xl1, vl2, vl3, vl4] [] M Q := by
  refine (rn_step (e := (.aload_n 0, 1, 0, 0, 0, 0, 0, [])) rfl).mpr ?_
  refine (rn_step (e := (.getfield 19, 4, 9, 1, 253, 2, 10, [])) rfl).mpr (And.intro ((rn_ks8 (M := M) hM)) (rn_cg (rn_g8_1 (M := M) hM) ?_))
  refine (rn_step (e := (.invokevirtual 166, 7, 20, 1, 280, 0, 2, [0])) rfl).mpr (And.intro ((rn_ks12 (M := M) hM)) ((rc_Hi_present hM (hr1.1) ?_)))
  refine (rn_step (e := (.astore_n 3, 8, 3, 0, 0, 0, 0, [])) rfl).mpr ?_
  refine (rn_step (e := (.aload_n 3, 9, 3, 0, 0, 0, 0, [])) rfl).mpr ?_
  refine (rn_step (e := (.iload_n 1, 10, 1, 0, 0, 0, 0, [])) rfl).mpr ?_
  exact (rn_step (e := (.invokevirtual 112, 13, 5, 2, 430, 0, 1, [0])) rfl).mpr (And.intro ((rn_kB (M := M) hM hr1.2)) (k1))
set_option maxRecDepth 4000 in
theorem rb_RN_reason_13n {M : rn_M} {Q : rn_Q} {vl0 : rn_V} {vl1 : rn_V} {vl2 : rn_V} {vl3 : rn_V} {vl4 : rn_V}   (k1 : Q (some (rn_I (-1))) M) : rn_WP 115 13 [vl0, vl1, vl2, vl3, vl4] [rn_N] M Q := by
  refine (rn_step (e := (.astore 4, 15, 4, 0, 0, 0, 0, [])) rfl).mpr ?_
  refine (rn_step (e := (.aload 4, 17, 4, 0, 0, 0, 0, [])) rfl).mpr ?_
  refine (rn_step (e := (.ifnull 10, 20, 27, 0, 0, 0, 0, [])) rfl).mpr ?_
  refine (rn_step (e := (.iconst (-1), 28, 0, 0, 0, 0, 0, [])) rfl).mpr ?_
  exact (rn_step (e := (.ireturn, 29, 0, 0, 0, 0, 0, [])) rfl).mpr (And.intro (trivial) (k1))
set_option maxRecDepth 4000 in
theorem rb_RN_reason_13s {M : rn_M} {Q : rn_Q} {vl1 : rn_V} {xl2 : Int} {rl3 : Option Nat} {vl4 : rn_V} {as0 : Nat} (hM : rn_sh M)   (k1 : (¬ (0 ≤ xl2 ∧ xl2 ≤ 60)) → Q (some (rn_I (-1))) M) (k2 : (0 ≤ xl2 ∧ xl2 ≤ 60) → rn_ME 26 [rn_R 462, .inr (.inl (some rl3)), rn_R as0, rn_I xl2, rn_I (-1)] M (fun r M1 => rn_WP 115 41 [rn_R 8, vl1, rn_I xl2, .inr (.inl (some rl3)), rn_R as0] (r.toList ++ []) M1 Q)) : rn_WP 115 13 [rn_R 8, vl1, rn_I xl2, .inr (.inl (some rl3)), vl4] [rn_R as0] M Q := by
  refine (rn_step (e := (.astore 4, 15, 4, 0, 0, 0, 0, [])) rfl).mpr ?_
  refine (rn_step (e := (.aload 4, 17, 4, 0, 0, 0, 0, [])) rfl).mpr ?_
  refine (rn_step (e := (.ifnull 10, 20, 27, 0, 0, 0, 0, [])) rfl).mpr ?_
  refine (rn_step (e := (.iload_n 2, 21, 2, 0, 0, 0, 0, [])) rfl).mpr ?_
  refine (rn_step (e := (.invokestatic 139, 24, 122, 1, 454, 0, 10, [0])) rfl).mpr (rc_RN_isPlaceNumber  ?_)
  refine (rn_step (e := (.ifCond .ne 5, 27, 29, 0, 0, 0, 0, [])) rfl).mpr (And.intro (fun q => ?_) (fun q => ?_))
  · have c1 := rn_b0 q
    refine (rn_step (e := (.iconst (-1), 28, 0, 0, 0, 0, 0, [])) rfl).mpr ?_
    exact (rn_step (e := (.ireturn, 29, 0, 0, 0, 0, 0, [])) rfl).mpr (And.intro (trivial) ((k1 c1)))
  · have c1 := rn_b1 q
    refine (rn_step (e := (.aload_n 0, 30, 0, 0, 0, 0, 0, [])) rfl).mpr ?_
    refine (rn_step (e := (.getfield 26, 33, 9, 2, 254, 2, 10, [])) rfl).mpr (And.intro ((rn_ks8 (M := M) hM)) (rn_cg (rn_g8_2 (M := M) hM) ?_))
    refine (rn_step (e := (.aload_n 3, 34, 3, 0, 0, 0, 0, [])) rfl).mpr ?_
    refine (rn_step (e := (.aload 4, 36, 4, 0, 0, 0, 0, [])) rfl).mpr ?_
    refine (rn_step (e := (.iload_n 2, 37, 2, 0, 0, 0, 0, [])) rfl).mpr ?_
    refine (rn_step (e := (.iconst (-1), 38, 0, 0, 0, 0, 0, [])) rfl).mpr ?_
    exact (rn_step (e := (.invokevirtual 142, 41, 26, 5, 477, 0, 3, [0])) rfl).mpr (And.intro ((rn_ks462 (M := M) hM)) ((k2 c1)))
set_option maxRecDepth 4000 in
theorem rb_RN_reason_41 {M : rn_M} {Q : rn_Q} {vl0 : rn_V} {vl1 : rn_V} {vl2 : rn_V} {vl3 : rn_V} {vl4 : rn_V} {xs0 : Int}   (k1 : Q (some (rn_I xs0)) M) : rn_WP 115 41 [vl0, vl1, vl2, vl3, vl4] [rn_I xs0] M Q := by
  exact (rn_step (e := (.ireturn, 42, 0, 0, 0, 0, 0, [])) rfl).mpr (And.intro (trivial) (k1))
theorem re_RN_best {M : rn_M} {Q : rn_Q} {v0 v1 v2 : rn_V} (h : rn_WP 116 0 [v0, v1, v2, rn_J, rn_J, rn_J] [] M Q) : rn_ME 116 [v0, v1, v2] M Q := h
set_option maxRecDepth 4000 in
theorem rb_RN_best_0 {M : rn_M} {Q : rn_Q} {xl1 : Int} {vl2 : rn_V} {vl3 : rn_V} {vl4 : rn_V} {vl5 : rn_V} (hM : rn_sh M)   (hr1 : rn_gr M 12 2 = some (rn_go M 12 2) ∧ rn_isB (rn_go M 12 2)) (k1 : rn_ME 5 [rn_R (rn_go M 12 2), rn_I xl1] M (fun r M1 => rn_WP 116 13 [rn_R 8, rn_I xl1, vl2, rn_R (rn_go M 12 2), vl4, vl5] (r.toList ++ []) M1 Q)) : rn_WP 116 0 [rn_R 8, rn_I xl1, vl2, vl3, vl4, vl5] [] M Q := by
  refine (rn_step (e := (.aload_n 0, 1, 0, 0, 0, 0, 0, [])) rfl).mpr ?_
  refine (rn_step (e := (.getfield 19, 4, 9, 1, 253, 2, 10, [])) rfl).mpr (And.intro ((rn_ks8 (M := M) hM)) (rn_cg (rn_g8_1 (M := M) hM) ?_))
  refine (rn_step (e := (.invokevirtual 166, 7, 20, 1, 280, 0, 2, [0])) rfl).mpr (And.intro ((rn_ks12 (M := M) hM)) ((rc_Hi_present hM (hr1.1) ?_)))
  refine (rn_step (e := (.astore_n 3, 8, 3, 0, 0, 0, 0, [])) rfl).mpr ?_
  refine (rn_step (e := (.aload_n 3, 9, 3, 0, 0, 0, 0, [])) rfl).mpr ?_
  refine (rn_step (e := (.iload_n 1, 10, 1, 0, 0, 0, 0, [])) rfl).mpr ?_
  exact (rn_step (e := (.invokevirtual 112, 13, 5, 2, 430, 0, 1, [0])) rfl).mpr (And.intro ((rn_kB (M := M) hM hr1.2)) (k1))
set_option maxRecDepth 4000 in
theorem rb_RN_best_13n {M : rn_M} {Q : rn_Q} {vl0 : rn_V} {vl1 : rn_V} {vl2 : rn_V} {vl3 : rn_V} {vl4 : rn_V} {vl5 : rn_V}   (k1 : Q (some (rn_I (-1))) M) : rn_WP 116 13 [vl0, vl1, vl2, vl3, vl4, vl5] [rn_N] M Q := by
  refine (rn_step (e := (.astore 4, 15, 4, 0, 0, 0, 0, [])) rfl).mpr ?_
  refine (rn_step (e := (.aload 4, 17, 4, 0, 0, 0, 0, [])) rfl).mpr ?_
  refine (rn_step (e := (.ifnull 12, 20, 29, 0, 0, 0, 0, [])) rfl).mpr ?_
  refine (rn_step (e := (.iconst (-1), 30, 0, 0, 0, 0, 0, [])) rfl).mpr ?_
  exact (rn_step (e := (.ireturn, 31, 0, 0, 0, 0, 0, [])) rfl).mpr (And.intro (trivial) (k1))
set_option maxRecDepth 4000 in
theorem rb_RN_best_13s {M : rn_M} {Q : rn_Q} {vl1 : rn_V} {xl2 : Int} {rl3 : Option Nat} {vl4 : rn_V} {vl5 : rn_V} {as0 : Nat} (hM : rn_sh M)   (k1 : (¬ (0 ≤ xl2 ∧ xl2 ≤ 1)) → Q (some (rn_I (-1))) M) (k2 : (0 ≤ xl2 ∧ xl2 ≤ 1) → rn_ME 32 [rn_R 462, .inr (.inl (some rl3)), rn_R as0] M (fun r M1 => rn_WP 116 41 [rn_R 8, vl1, rn_I xl2, .inr (.inl (some rl3)), rn_R as0, vl5] (r.toList ++ []) M1 Q)) : rn_WP 116 13 [rn_R 8, vl1, rn_I xl2, .inr (.inl (some rl3)), vl4, vl5] [rn_R as0] M Q := by
  refine (rn_step (e := (.astore 4, 15, 4, 0, 0, 0, 0, [])) rfl).mpr ?_
  refine (rn_step (e := (.aload 4, 17, 4, 0, 0, 0, 0, [])) rfl).mpr ?_
  refine (rn_step (e := (.ifnull 12, 20, 29, 0, 0, 0, 0, [])) rfl).mpr ?_
  refine (rn_step (e := (.iload_n 2, 21, 2, 0, 0, 0, 0, [])) rfl).mpr ?_
  refine (rn_step (e := (.iconst 0, 22, 0, 0, 0, 0, 0, [])) rfl).mpr ?_
  refine (rn_step (e := (.iconst 1, 23, 0, 0, 0, 0, 0, [])) rfl).mpr ?_
  refine (rn_step (e := (.invokestatic 37, 26, 118, 3, 457, 0, 10, [0])) rfl).mpr (rc_RN_within  ?_)
  refine (rn_step (e := (.ifCond .ne 5, 29, 31, 0, 0, 0, 0, [])) rfl).mpr (And.intro (fun q => ?_) (fun q => ?_))
  · have c1 := rn_b0 q
    refine (rn_step (e := (.iconst (-1), 30, 0, 0, 0, 0, 0, [])) rfl).mpr ?_
    exact (rn_step (e := (.ireturn, 31, 0, 0, 0, 0, 0, [])) rfl).mpr (And.intro (trivial) ((k1 c1)))
  · have c1 := rn_b1 q
    refine (rn_step (e := (.aload_n 0, 32, 0, 0, 0, 0, 0, [])) rfl).mpr ?_
    refine (rn_step (e := (.getfield 26, 35, 9, 2, 254, 2, 10, [])) rfl).mpr (And.intro ((rn_ks8 (M := M) hM)) (rn_cg (rn_g8_2 (M := M) hM) ?_))
    refine (rn_step (e := (.aload_n 3, 36, 3, 0, 0, 0, 0, [])) rfl).mpr ?_
    refine (rn_step (e := (.aload 4, 38, 4, 0, 0, 0, 0, [])) rfl).mpr ?_
    exact (rn_step (e := (.invokevirtual 266, 41, 32, 3, 709, 0, 3, [0])) rfl).mpr (And.intro ((rn_ks462 (M := M) hM)) ((k2 c1)))
set_option maxRecDepth 4000 in
theorem rb_RN_best_41 {M : rn_M} {Q : rn_Q} {vl0 : rn_V} {vl1 : rn_V} {xl2 : Int} {vl3 : rn_V} {al4 : Nat} {vl5 : rn_V} {xs0 : Int} (hM : rn_sh M) (p_al4 : rn_isR al4)  (k1 : (xs0 = (-9)) → Q (some (rn_I xs0)) M) (k2 : (¬ (xs0 = (-9))) → (xl2 = 0) → Q (some (rn_I xs0)) M) (k3 : (¬ (xs0 = (-9))) → (¬ (xl2 = 0)) → rn_ME 72 [rn_R al4, rn_I xs0] M (fun r M1 => rn_WP 116 66 [vl0, vl1, rn_I xl2, vl3, rn_R al4, rn_I xs0] (r.toList ++ []) M1 Q)) : rn_WP 116 41 [vl0, vl1, rn_I xl2, vl3, rn_R al4, vl5] [rn_I xs0] M Q := by
  refine (rn_step (e := (.istore 5, 43, 5, 0, 0, 0, 0, [])) rfl).mpr ?_
  refine (rn_step (e := (.iload 5, 45, 5, 0, 0, 0, 0, [])) rfl).mpr ?_
  refine (rn_step (e := (.bipush (-9), 47, 0, 0, 0, 0, 0, [])) rfl).mpr ?_
  refine (rn_step (e := (.if_icmp .eq 7, 50, 54, 0, 0, 0, 0, [])) rfl).mpr (And.intro (fun c1 => ?_) (fun c1 => ?_))
  ·
    refine (rn_step (e := (.iload 5, 56, 5, 0, 0, 0, 0, [])) rfl).mpr ?_
    refine (rn_step (e := (.goto 10, 59, 66, 0, 0, 0, 0, [])) rfl).mpr ?_
    exact (rn_step (e := (.ireturn, 67, 0, 0, 0, 0, 0, [])) rfl).mpr (And.intro (trivial) ((k1 c1)))
  ·
    refine (rn_step (e := (.iload_n 2, 51, 2, 0, 0, 0, 0, [])) rfl).mpr ?_
    refine (rn_step (e := (.ifCond .ne 8, 54, 59, 0, 0, 0, 0, [])) rfl).mpr (And.intro (fun c2 => ?_) (fun c2 => ?_))
    ·
      refine (rn_step (e := (.iload 5, 56, 5, 0, 0, 0, 0, [])) rfl).mpr ?_
      refine (rn_step (e := (.goto 10, 59, 66, 0, 0, 0, 0, [])) rfl).mpr ?_
      exact (rn_step (e := (.ireturn, 67, 0, 0, 0, 0, 0, [])) rfl).mpr (And.intro (trivial) ((k2 c1 c2)))
    ·
      refine (rn_step (e := (.aload 4, 61, 4, 0, 0, 0, 0, [])) rfl).mpr ?_
      refine (rn_step (e := (.iload 5, 63, 5, 0, 0, 0, 0, [])) rfl).mpr ?_
      exact (rn_step (e := (.invokevirtual 244, 66, 72, 2, 466, 0, 6, [0])) rfl).mpr (And.intro ((rn_kR (M := M) hM p_al4)) ((k3 c1 c2)))
set_option maxRecDepth 4000 in
theorem rb_RN_best_66 {M : rn_M} {Q : rn_Q} {vl0 : rn_V} {vl1 : rn_V} {vl2 : rn_V} {vl3 : rn_V} {vl4 : rn_V} {vl5 : rn_V} {xs0 : Int}   (k1 : Q (some (rn_I xs0)) M) : rn_WP 116 66 [vl0, vl1, vl2, vl3, vl4, vl5] [rn_I xs0] M Q := by
  exact (rn_step (e := (.ireturn, 67, 0, 0, 0, 0, 0, [])) rfl).mpr (And.intro (trivial) (k1))
theorem re_RN_rankFor {M : rn_M} {Q : rn_Q} {v0 v1 : rn_V} (h : rn_WP 117 0 [v0, v1, rn_J, rn_J] [] M Q) : rn_ME 117 [v0, v1] M Q := h
set_option maxRecDepth 4000 in
theorem rb_RN_rankFor_0 {M : rn_M} {Q : rn_Q} {xl1 : Int} {vl2 : rn_V} {vl3 : rn_V} (hM : rn_sh M)   (hr1 : rn_gr M 12 2 = some (rn_go M 12 2) ∧ rn_isB (rn_go M 12 2)) (k1 : rn_ME 5 [rn_R (rn_go M 12 2), rn_I xl1] M (fun r M1 => rn_WP 117 13 [rn_R 8, rn_I xl1, rn_R (rn_go M 12 2), vl3] (r.toList ++ []) M1 Q)) : rn_WP 117 0 [rn_R 8, rn_I xl1, vl2, vl3] [] M Q := by
  refine (rn_step (e := (.aload_n 0, 1, 0, 0, 0, 0, 0, [])) rfl).mpr ?_
  refine (rn_step (e := (.getfield 19, 4, 9, 1, 253, 2, 10, [])) rfl).mpr (And.intro ((rn_ks8 (M := M) hM)) (rn_cg (rn_g8_1 (M := M) hM) ?_))
  refine (rn_step (e := (.invokevirtual 166, 7, 20, 1, 280, 0, 2, [0])) rfl).mpr (And.intro ((rn_ks12 (M := M) hM)) ((rc_Hi_present hM (hr1.1) ?_)))
  refine (rn_step (e := (.astore_n 2, 8, 2, 0, 0, 0, 0, [])) rfl).mpr ?_
  refine (rn_step (e := (.aload_n 2, 9, 2, 0, 0, 0, 0, [])) rfl).mpr ?_
  refine (rn_step (e := (.iload_n 1, 10, 1, 0, 0, 0, 0, [])) rfl).mpr ?_
  exact (rn_step (e := (.invokevirtual 112, 13, 5, 2, 430, 0, 1, [0])) rfl).mpr (And.intro ((rn_kB (M := M) hM hr1.2)) (k1))
set_option maxRecDepth 4000 in
theorem rb_RN_rankFor_13n {M : rn_M} {Q : rn_Q} {vl0 : rn_V} {vl1 : rn_V} {vl2 : rn_V} {vl3 : rn_V}   (k1 : Q (some (rn_I (-1))) M) : rn_WP 117 13 [vl0, vl1, vl2, vl3] [rn_N] M Q := by
  refine (rn_step (e := (.astore_n 3, 14, 3, 0, 0, 0, 0, [])) rfl).mpr ?_
  refine (rn_step (e := (.aload_n 3, 15, 3, 0, 0, 0, 0, [])) rfl).mpr ?_
  refine (rn_step (e := (.ifnonnull 7, 18, 22, 0, 0, 0, 0, [])) rfl).mpr ?_
  refine (rn_step (e := (.iconst (-1), 19, 0, 0, 0, 0, 0, [])) rfl).mpr ?_
  refine (rn_step (e := (.goto 12, 22, 31, 0, 0, 0, 0, [])) rfl).mpr ?_
  exact (rn_step (e := (.ireturn, 32, 0, 0, 0, 0, 0, [])) rfl).mpr (And.intro (trivial) (k1))
set_option maxRecDepth 4000 in
theorem rb_RN_rankFor_13s {M : rn_M} {Q : rn_Q} {vl1 : rn_V} {rl2 : Option Nat} {vl3 : rn_V} {as0 : Nat} (hM : rn_sh M)   (k1 : rn_ME 34 [rn_R 462, .inr (.inl (some rl2)), rn_R as0] M (fun r M1 => rn_WP 117 31 [rn_R 8, vl1, .inr (.inl (some rl2)), rn_R as0] (r.toList ++ []) M1 Q)) : rn_WP 117 13 [rn_R 8, vl1, .inr (.inl (some rl2)), vl3] [rn_R as0] M Q := by
  refine (rn_step (e := (.astore_n 3, 14, 3, 0, 0, 0, 0, [])) rfl).mpr ?_
  refine (rn_step (e := (.aload_n 3, 15, 3, 0, 0, 0, 0, [])) rfl).mpr ?_
  refine (rn_step (e := (.ifnonnull 7, 18, 22, 0, 0, 0, 0, [])) rfl).mpr ?_
  refine (rn_step (e := (.aload_n 0, 23, 0, 0, 0, 0, 0, [])) rfl).mpr ?_
  refine (rn_step (e := (.getfield 26, 26, 9, 2, 254, 2, 10, [])) rfl).mpr (And.intro ((rn_ks8 (M := M) hM)) (rn_cg (rn_g8_2 (M := M) hM) ?_))
  refine (rn_step (e := (.aload_n 2, 27, 2, 0, 0, 0, 0, [])) rfl).mpr ?_
  refine (rn_step (e := (.aload_n 3, 28, 3, 0, 0, 0, 0, [])) rfl).mpr ?_
  exact (rn_step (e := (.invokevirtual 270, 31, 34, 3, 717, 0, 3, [0])) rfl).mpr (And.intro ((rn_ks462 (M := M) hM)) (k1))
set_option maxRecDepth 4000 in
theorem rb_RN_rankFor_31 {M : rn_M} {Q : rn_Q} {vl0 : rn_V} {vl1 : rn_V} {vl2 : rn_V} {vl3 : rn_V} {xs0 : Int}   (k1 : Q (some (rn_I xs0)) M) : rn_WP 117 31 [vl0, vl1, vl2, vl3] [rn_I xs0] M Q := by
  exact (rn_step (e := (.ireturn, 32, 0, 0, 0, 0, 0, [])) rfl).mpr (And.intro (trivial) (k1))
