theorem re_Re_readInto {M : rn_M} {Q : rn_Q} {v0 v1 : rn_V} (h : rn_WP 46 0 [v0, v1, rn_J] [] M Q) : rn_ME 46 [v0, v1] M Q := h
set_option maxRecDepth 4000 in
theorem rb_Re_readInto_0 {M : rn_M} {Q : rn_Q} {vl1 : rn_V} {vl2 : rn_V} (hM : rn_sh M)   (k1 : rn_WP 46 12 [rn_R 9, vl1, rn_I 0] [] (rn_si (rn_si M 9 2 0) 9 4 0) Q) : rn_WP 46 0 [rn_R 9, vl1, vl2] [] M Q := by
  refine (rn_step (e := (.aload_n 0, 1, 0, 0, 0, 0, 0, [])) rfl).mpr ?_
  refine (rn_step (e := (.iconst 0, 2, 0, 0, 0, 0, 0, [])) rfl).mpr ?_
  refine (rn_step (e := (.putfield 18, 5, 4, 2, 119, 0, 5, [])) rfl).mpr (And.intro ((rn_ks9 (M := M) hM)) (?_))
  refine (rn_step (e := (.aload_n 0, 6, 0, 0, 0, 0, 0, [])) rfl).mpr ?_
  refine (rn_step (e := (.iconst 0, 7, 0, 0, 0, 0, 0, [])) rfl).mpr ?_
  refine (rn_step (e := (.putfield 22, 10, 4, 4, 121, 1, 5, [])) rfl).mpr (And.intro ((Or.inl rfl)) (And.intro ((rn_ks9 (M := M) hM)) (?_)))
  refine (rn_step (e := (.iconst 0, 11, 0, 0, 0, 0, 0, [])) rfl).mpr ?_
  refine (rn_step (e := (.istore_n 2, 12, 2, 0, 0, 0, 0, [])) rfl).mpr ?_
  exact k1
set_option maxRecDepth 4000 in
theorem rb_Re_readInto_12 {M : rn_M} {Q : rn_Q} {vl1 : rn_V} {xl2 : Int} (hM : rn_sh M)   (hr1 : (rn_gi M 10 0 < xl2) → (-2147483648 : Int) ≤ (-1000) - (rn_gi M 9 1) ∧ (-1000) - (rn_gi M 9 1) ≤ 2147483647) (hr2 : (¬ (rn_gi M 10 0 < xl2)) → (¬ (rn_gi M 9 4 = 0)) → (-2147483648 : Int) ≤ (-1000) - (rn_gi M 9 1) ∧ (-1000) - (rn_gi M 9 1) ≤ 2147483647) (k1 : (rn_gi M 10 0 < xl2) → Q (some (rn_I ((-1000) - (rn_gi M 9 1)))) M) (k2 : (¬ (rn_gi M 10 0 < xl2)) → (rn_gi M 9 4 = 0) → rn_ME 54 [rn_R 9] M (fun r M1 => rn_WP 46 34 [rn_R 9, vl1, rn_I xl2] (r.toList ++ []) M1 Q)) (k3 : (¬ (rn_gi M 10 0 < xl2)) → (¬ (rn_gi M 9 4 = 0)) → Q (some (rn_I ((-1000) - (rn_gi M 9 1)))) M) : rn_WP 46 12 [rn_R 9, vl1, rn_I xl2] [] M Q := by
  refine (rn_step (e := (.iload_n 2, 13, 2, 0, 0, 0, 0, [])) rfl).mpr ?_
  refine (rn_step (e := (.aload_n 0, 14, 0, 0, 0, 0, 0, [])) rfl).mpr ?_
  refine (rn_step (e := (.getfield 12, 17, 4, 0, 116, 2, 5, [])) rfl).mpr (And.intro ((rn_ks9 (M := M) hM)) (rn_cg (rn_g9_0 (M := M) hM) ?_))
  refine (rn_step (e := (.getfield 26, 20, 7, 0, 107, 0, 8, [])) rfl).mpr (And.intro ((rn_ks10 (M := M) hM)) (?_))
  refine (rn_step (e := (.if_icmp .gt 74, 23, 94, 0, 0, 0, 0, [])) rfl).mpr (And.intro (fun c1 => ?_) (fun c1 => ?_))
  ·
    refine (rn_step (e := (.sipush (-1000), 97, 0, 0, 0, 0, 0, [])) rfl).mpr ?_
    refine (rn_step (e := (.aload_n 0, 98, 0, 0, 0, 0, 0, [])) rfl).mpr ?_
    refine (rn_step (e := (.getfield 61, 101, 4, 1, 118, 0, 5, [])) rfl).mpr (And.intro ((rn_ks9 (M := M) hM)) (?_))
    refine (rn_step (e := (.isub, 102, 0, 0, 0, 0, 0, [])) rfl).mpr (rn_cw (hr1 c1).1 (hr1 c1).2 ?_)
    exact (rn_step (e := (.ireturn, 103, 0, 0, 0, 0, 0, [])) rfl).mpr (And.intro (trivial) ((k1 c1)))
  ·
    refine (rn_step (e := (.aload_n 0, 24, 0, 0, 0, 0, 0, [])) rfl).mpr ?_
    refine (rn_step (e := (.getfield 22, 27, 4, 4, 121, 1, 5, [])) rfl).mpr (And.intro ((rn_ks9 (M := M) hM)) (?_))
    refine (rn_step (e := (.ifCond .ne 67, 30, 94, 0, 0, 0, 0, [])) rfl).mpr (And.intro (fun c2 => ?_) (fun c2 => ?_))
    ·
      refine (rn_step (e := (.aload_n 0, 31, 0, 0, 0, 0, 0, [])) rfl).mpr ?_
      exact (rn_step (e := (.invokevirtual 29, 34, 54, 1, 423, 0, 5, [0])) rfl).mpr (And.intro ((rn_ks9 (M := M) hM)) ((k2 c1 c2)))
    ·
      refine (rn_step (e := (.sipush (-1000), 97, 0, 0, 0, 0, 0, [])) rfl).mpr ?_
      refine (rn_step (e := (.aload_n 0, 98, 0, 0, 0, 0, 0, [])) rfl).mpr ?_
      refine (rn_step (e := (.getfield 61, 101, 4, 1, 118, 0, 5, [])) rfl).mpr (And.intro ((rn_ks9 (M := M) hM)) (?_))
      refine (rn_step (e := (.isub, 102, 0, 0, 0, 0, 0, [])) rfl).mpr (rn_cw (hr2 c1 c2).1 (hr2 c1 c2).2 ?_)
      exact (rn_step (e := (.ireturn, 103, 0, 0, 0, 0, 0, [])) rfl).mpr (And.intro (trivial) ((k3 c1 c2)))
set_option maxRecDepth 4000 in
theorem rb_Re_readInto_34 {M : rn_M} {Q : rn_Q} {vl1 : rn_V} {xl2 : Int} (hM : rn_sh M)   (k1 : (rn_gi M 9 3 = 0) → Q (some (rn_I xl2)) M) (k2 : (¬ (rn_gi M 9 3 = 0)) → rn_ME 56 [rn_R 9, rn_R 3] M (fun r M1 => rn_WP 46 49 [rn_R 9, vl1, rn_I xl2] (r.toList ++ []) M1 Q)) : rn_WP 46 34 [rn_R 9, vl1, rn_I xl2] [] M Q := by
  refine (rn_step (e := (.aload_n 0, 35, 0, 0, 0, 0, 0, [])) rfl).mpr ?_
  refine (rn_step (e := (.getfield 32, 38, 4, 3, 120, 0, 5, [])) rfl).mpr (And.intro ((rn_ks9 (M := M) hM)) (?_))
  refine (rn_step (e := (.ifCond .ne 5, 41, 43, 0, 0, 0, 0, [])) rfl).mpr (And.intro (fun c1 => ?_) (fun c1 => ?_))
  ·
    refine (rn_step (e := (.iload_n 2, 42, 2, 0, 0, 0, 0, [])) rfl).mpr ?_
    exact (rn_step (e := (.ireturn, 43, 0, 0, 0, 0, 0, [])) rfl).mpr (And.intro (trivial) ((k1 c1)))
  ·
    refine (rn_step (e := (.aload_n 0, 44, 0, 0, 0, 0, 0, [])) rfl).mpr ?_
    refine (rn_step (e := (.ldc 35, 46, 3, 0, 0, 0, 0, [])) rfl).mpr ?_
    exact (rn_step (e := (.invokevirtual 37, 49, 56, 2, 439, 0, 5, [0])) rfl).mpr (And.intro ((rn_ks9 (M := M) hM)) ((k2 c1)))
set_option maxRecDepth 4000 in
theorem rb_Re_readInto_49 {M : rn_M} {Q : rn_Q} {al1 : Nat} {vl2 : rn_V} {xs0 : Int} (hM : rn_sh M) (p_al1 : rn_isB al1)  (k1 : (xs0 = 0) → rn_ME 56 [rn_R 9, rn_R 4] M (fun r M1 => rn_WP 46 69 [rn_R 9, rn_R al1, vl2] (r.toList ++ []) M1 Q)) (k2 : (¬ (xs0 = 0)) → rn_ME 8 [rn_R al1] M (fun r M1 => rn_WP 46 57 [rn_R 9, rn_R al1, vl2] (r.toList ++ [rn_R 9]) M1 Q)) : rn_WP 46 49 [rn_R 9, rn_R al1, vl2] [rn_I xs0] M Q := by
  refine (rn_step (e := (.ifCond .eq 14, 52, 63, 0, 0, 0, 0, [])) rfl).mpr (And.intro (fun c1 => ?_) (fun c1 => ?_))
  ·
    refine (rn_step (e := (.aload_n 0, 64, 0, 0, 0, 0, 0, [])) rfl).mpr ?_
    refine (rn_step (e := (.ldc 51, 66, 4, 0, 0, 0, 0, [])) rfl).mpr ?_
    exact (rn_step (e := (.invokevirtual 37, 69, 56, 2, 439, 0, 5, [0])) rfl).mpr (And.intro ((rn_ks9 (M := M) hM)) ((k1 c1)))
  ·
    refine (rn_step (e := (.aload_n 0, 53, 0, 0, 0, 0, 0, [])) rfl).mpr ?_
    refine (rn_step (e := (.aload_n 1, 54, 1, 0, 0, 0, 0, [])) rfl).mpr ?_
    exact (rn_step (e := (.invokevirtual 41, 57, 8, 1, 491, 0, 1, [0])) rfl).mpr (And.intro ((rn_kB (M := M) hM p_al1)) ((k2 c1)))
set_option maxRecDepth 4000 in
theorem rb_Re_readInto_57 {M : rn_M} {Q : rn_Q} {vl0 : rn_V} {vl1 : rn_V} {vl2 : rn_V} {vs0 : rn_V} (hM : rn_sh M)   (k1 : rn_ME 47 [rn_R 9, vs0] M (fun r M1 => rn_WP 46 60 [vl0, vl1, vl2] (r.toList ++ []) M1 Q)) : rn_WP 46 57 [vl0, vl1, vl2] [vs0, rn_R 9] M Q := by
  exact (rn_step (e := (.invokevirtual 47, 60, 47, 2, 492, 0, 5, [0])) rfl).mpr (And.intro ((rn_ks9 (M := M) hM)) (k1))
set_option maxRecDepth 4000 in
theorem rb_Re_readInto_60 {M : rn_M} {Q : rn_Q} {vl0 : rn_V} {vl1 : rn_V} {xl2 : Int}   (hr1 : (-2147483648 : Int) ≤ xl2 + 1 ∧ xl2 + 1 ≤ 2147483647) (k1 : rn_WP 46 12 [vl0, vl1, rn_I (xl2 + 1)] [] M Q) : rn_WP 46 60 [vl0, vl1, rn_I xl2] [] M Q := by
  refine (rn_step (e := (.goto 28, 63, 88, 0, 0, 0, 0, [])) rfl).mpr ?_
  refine (rn_step (e := (.iinc 2 1, 91, 2, 0, 0, 0, 0, [])) rfl).mpr (rn_ci hr1.1 hr1.2 ?_)
  refine (rn_step (e := (.goto (-79), 94, 12, 0, 0, 0, 0, [])) rfl).mpr ?_
  exact k1
set_option maxRecDepth 4000 in
theorem rb_Re_readInto_69 {M : rn_M} {Q : rn_Q} {al1 : Nat} {xl2 : Int} {xs0 : Int} (hM : rn_sh M) (p_al1 : rn_isB al1)  (hr1 : (xs0 = 0) → (-2147483648 : Int) ≤ xl2 + 1 ∧ xl2 + 1 ≤ 2147483647) (k1 : (xs0 = 0) → rn_WP 46 12 [rn_R 9, rn_R al1, rn_I (xl2 + 1)] [] (rn_si M 9 4 1) Q) (k2 : (¬ (xs0 = 0)) → rn_ME 9 [rn_R al1] M (fun r M1 => rn_WP 46 77 [rn_R 9, rn_R al1, rn_I xl2] (r.toList ++ [rn_R 9]) M1 Q)) : rn_WP 46 69 [rn_R 9, rn_R al1, rn_I xl2] [rn_I xs0] M Q := by
  refine (rn_step (e := (.ifCond .eq 14, 72, 83, 0, 0, 0, 0, [])) rfl).mpr (And.intro (fun c1 => ?_) (fun c1 => ?_))
  ·
    refine (rn_step (e := (.aload_n 0, 84, 0, 0, 0, 0, 0, [])) rfl).mpr ?_
    refine (rn_step (e := (.iconst 1, 85, 0, 0, 0, 0, 0, [])) rfl).mpr ?_
    refine (rn_step (e := (.putfield 22, 88, 4, 4, 121, 1, 5, [])) rfl).mpr (And.intro ((Or.inr rfl)) (And.intro ((rn_ks9 (M := M) hM)) (?_)))
    refine (rn_step (e := (.iinc 2 1, 91, 2, 0, 0, 0, 0, [])) rfl).mpr (rn_ci (hr1 c1).1 (hr1 c1).2 ?_)
    refine (rn_step (e := (.goto (-79), 94, 12, 0, 0, 0, 0, [])) rfl).mpr ?_
    exact (k1 c1)
  ·
    refine (rn_step (e := (.aload_n 0, 73, 0, 0, 0, 0, 0, [])) rfl).mpr ?_
    refine (rn_step (e := (.aload_n 1, 74, 1, 0, 0, 0, 0, [])) rfl).mpr ?_
    exact (rn_step (e := (.invokevirtual 53, 77, 9, 1, 553, 0, 1, [0])) rfl).mpr (And.intro ((rn_kB (M := M) hM p_al1)) ((k2 c1)))
set_option maxRecDepth 4000 in
theorem rb_Re_readInto_77 {M : rn_M} {Q : rn_Q} {vl0 : rn_V} {vl1 : rn_V} {vl2 : rn_V} {vs0 : rn_V} (hM : rn_sh M)   (k1 : rn_ME 48 [rn_R 9, vs0] M (fun r M1 => rn_WP 46 80 [vl0, vl1, vl2] (r.toList ++ []) M1 Q)) : rn_WP 46 77 [vl0, vl1, vl2] [vs0, rn_R 9] M Q := by
  exact (rn_step (e := (.invokevirtual 57, 80, 48, 2, 554, 0, 5, [0])) rfl).mpr (And.intro ((rn_ks9 (M := M) hM)) (k1))
set_option maxRecDepth 4000 in
theorem rb_Re_readInto_80 {M : rn_M} {Q : rn_Q} {vl0 : rn_V} {vl1 : rn_V} {xl2 : Int}   (hr1 : (-2147483648 : Int) ≤ xl2 + 1 ∧ xl2 + 1 ≤ 2147483647) (k1 : rn_WP 46 12 [vl0, vl1, rn_I (xl2 + 1)] [] M Q) : rn_WP 46 80 [vl0, vl1, rn_I xl2] [] M Q := by
  refine (rn_step (e := (.goto 8, 83, 88, 0, 0, 0, 0, [])) rfl).mpr ?_
  refine (rn_step (e := (.iinc 2 1, 91, 2, 0, 0, 0, 0, [])) rfl).mpr (rn_ci hr1.1 hr1.2 ?_)
  refine (rn_step (e := (.goto (-79), 94, 12, 0, 0, 0, 0, [])) rfl).mpr ?_
  exact k1
theorem re_Re_readRiver {M : rn_M} {Q : rn_Q} {v0 v1 : rn_V} (h : rn_WP 47 0 [v0, v1, rn_J, rn_J, rn_J, rn_J] [] M Q) : rn_ME 47 [v0, v1] M Q := h
set_option maxRecDepth 4000 in
theorem rb_Re_readRiver_0n {M : rn_M} {Q : rn_Q} {vl2 : rn_V} {vl3 : rn_V} {vl4 : rn_V} {vl5 : rn_V} (hM : rn_sh M)   (k1 : Q none (rn_si M 9 4 1)) : rn_WP 47 0 [rn_R 9, rn_N, vl2, vl3, vl4, vl5] [] M Q := by
  refine (rn_step (e := (.aload_n 1, 1, 1, 0, 0, 0, 0, [])) rfl).mpr ?_
  refine (rn_step (e := (.ifnonnull 9, 4, 10, 0, 0, 0, 0, [])) rfl).mpr ?_
  refine (rn_step (e := (.aload_n 0, 5, 0, 0, 0, 0, 0, [])) rfl).mpr ?_
  refine (rn_step (e := (.iconst 1, 6, 0, 0, 0, 0, 0, [])) rfl).mpr ?_
  refine (rn_step (e := (.putfield 22, 9, 4, 4, 121, 1, 5, [])) rfl).mpr (And.intro ((Or.inr rfl)) (And.intro ((rn_ks9 (M := M) hM)) (?_)))
  exact (rn_step (e := (.return_, 10, 0, 0, 0, 0, 0, [])) rfl).mpr k1
set_option maxRecDepth 4000 in
theorem rb_Re_readRiver_0s {M : rn_M} {Q : rn_Q} {al1 : Nat} {vl2 : rn_V} {vl3 : rn_V} {vl4 : rn_V} {vl5 : rn_V} (hM : rn_sh M)   (k1 : rn_ME 49 [rn_R 9, rn_R al1] M (fun r M1 => rn_WP 47 15 [rn_R 9, rn_R al1, vl2, vl3, vl4, vl5] (r.toList ++ []) M1 Q)) : rn_WP 47 0 [rn_R 9, rn_R al1, vl2, vl3, vl4, vl5] [] M Q := by
  refine (rn_step (e := (.aload_n 1, 1, 1, 0, 0, 0, 0, [])) rfl).mpr ?_
  refine (rn_step (e := (.ifnonnull 9, 4, 10, 0, 0, 0, 0, [])) rfl).mpr ?_
  refine (rn_step (e := (.aload_n 0, 11, 0, 0, 0, 0, 0, [])) rfl).mpr ?_
  refine (rn_step (e := (.aload_n 1, 12, 1, 0, 0, 0, 0, [])) rfl).mpr ?_
  exact (rn_step (e := (.invokevirtual 64, 15, 49, 2, 496, 0, 5, [0])) rfl).mpr (And.intro ((rn_ks9 (M := M) hM)) (k1))
set_option maxRecDepth 4000 in
theorem rb_Re_readRiver_15 {M : rn_M} {Q : rn_Q} {vl1 : rn_V} {vl2 : rn_V} {vl3 : rn_V} {vl4 : rn_V} {vl5 : rn_V} (hM : rn_sh M)   (k1 : rn_ME 51 [rn_R 9, rn_I 0, rn_I 59] M (fun r M1 => rn_WP 47 22 [rn_R 9, vl1, vl2, vl3, vl4, vl5] (r.toList ++ []) M1 Q)) : rn_WP 47 15 [rn_R 9, vl1, vl2, vl3, vl4, vl5] [] M Q := by
  refine (rn_step (e := (.aload_n 0, 16, 0, 0, 0, 0, 0, [])) rfl).mpr ?_
  refine (rn_step (e := (.iconst 0, 17, 0, 0, 0, 0, 0, [])) rfl).mpr ?_
  refine (rn_step (e := (.bipush 59, 19, 0, 0, 0, 0, 0, [])) rfl).mpr ?_
  exact (rn_step (e := (.invokevirtual 67, 22, 51, 3, 509, 0, 5, [0])) rfl).mpr (And.intro ((rn_ks9 (M := M) hM)) (k1))
set_option maxRecDepth 4000 in
theorem rb_Re_readRiver_22 {M : rn_M} {Q : rn_Q} {vl1 : rn_V} {vl2 : rn_V} {vl3 : rn_V} {vl4 : rn_V} {vl5 : rn_V} {xs0 : Int} (hM : rn_sh M)   (k1 : rn_ME 51 [rn_R 9, rn_I 0, rn_I 39] M (fun r M1 => rn_WP 47 30 [rn_R 9, vl1, rn_I xs0, vl3, vl4, vl5] (r.toList ++ []) M1 Q)) : rn_WP 47 22 [rn_R 9, vl1, vl2, vl3, vl4, vl5] [rn_I xs0] M Q := by
  refine (rn_step (e := (.istore_n 2, 23, 2, 0, 0, 0, 0, [])) rfl).mpr ?_
  refine (rn_step (e := (.aload_n 0, 24, 0, 0, 0, 0, 0, [])) rfl).mpr ?_
  refine (rn_step (e := (.iconst 0, 25, 0, 0, 0, 0, 0, [])) rfl).mpr ?_
  refine (rn_step (e := (.bipush 39, 27, 0, 0, 0, 0, 0, [])) rfl).mpr ?_
  exact (rn_step (e := (.invokevirtual 67, 30, 51, 3, 509, 0, 5, [0])) rfl).mpr (And.intro ((rn_ks9 (M := M) hM)) (k1))
set_option maxRecDepth 4000 in
theorem rb_Re_readRiver_30 {M : rn_M} {Q : rn_Q} {vl1 : rn_V} {vl2 : rn_V} {vl3 : rn_V} {vl4 : rn_V} {vl5 : rn_V} {xs0 : Int} (hM : rn_sh M)   (k1 : rn_ME 51 [rn_R 9, rn_I 1, rn_I 9] M (fun r M1 => rn_WP 47 38 [rn_R 9, vl1, vl2, rn_I xs0, vl4, vl5] (r.toList ++ []) M1 Q)) : rn_WP 47 30 [rn_R 9, vl1, vl2, vl3, vl4, vl5] [rn_I xs0] M Q := by
  refine (rn_step (e := (.istore_n 3, 31, 3, 0, 0, 0, 0, [])) rfl).mpr ?_
  refine (rn_step (e := (.aload_n 0, 32, 0, 0, 0, 0, 0, [])) rfl).mpr ?_
  refine (rn_step (e := (.iconst 1, 33, 0, 0, 0, 0, 0, [])) rfl).mpr ?_
  refine (rn_step (e := (.bipush 9, 35, 0, 0, 0, 0, 0, [])) rfl).mpr ?_
  exact (rn_step (e := (.invokevirtual 67, 38, 51, 3, 509, 0, 5, [0])) rfl).mpr (And.intro ((rn_ks9 (M := M) hM)) (k1))
set_option maxRecDepth 4000 in
theorem rb_Re_readRiver_38 {M : rn_M} {Q : rn_Q} {vl1 : rn_V} {vl2 : rn_V} {vl3 : rn_V} {vl4 : rn_V} {vl5 : rn_V} {xs0 : Int} (hM : rn_sh M)   (k1 : rn_ME 51 [rn_R 9, rn_I 0, rn_I 2] M (fun r M1 => rn_WP 47 46 [rn_R 9, vl1, vl2, vl3, rn_I xs0, vl5] (r.toList ++ []) M1 Q)) : rn_WP 47 38 [rn_R 9, vl1, vl2, vl3, vl4, vl5] [rn_I xs0] M Q := by
  refine (rn_step (e := (.istore 4, 40, 4, 0, 0, 0, 0, [])) rfl).mpr ?_
  refine (rn_step (e := (.aload_n 0, 41, 0, 0, 0, 0, 0, [])) rfl).mpr ?_
  refine (rn_step (e := (.iconst 0, 42, 0, 0, 0, 0, 0, [])) rfl).mpr ?_
  refine (rn_step (e := (.iconst 2, 43, 0, 0, 0, 0, 0, [])) rfl).mpr ?_
  exact (rn_step (e := (.invokevirtual 67, 46, 51, 3, 509, 0, 5, [0])) rfl).mpr (And.intro ((rn_ks9 (M := M) hM)) (k1))
set_option maxRecDepth 4000 in
theorem rb_Re_readRiver_46 {M : rn_M} {Q : rn_Q} {vl0 : rn_V} {al1 : Nat} {xl2 : Int} {xl3 : Int} {xl4 : Int} {vl5 : rn_V} {xs0 : Int} (hM : rn_sh M) (p_al1 : rn_isR al1)  (k1 : rn_ME 61 [rn_R al1, rn_I xl2, rn_I xl3, rn_I xl4, rn_I xs0] M (fun r M1 => rn_WP 47 58 [vl0, rn_R al1, rn_I xl2, rn_I xl3, rn_I xl4, rn_I xs0] (r.toList ++ []) M1 Q)) : rn_WP 47 46 [vl0, rn_R al1, rn_I xl2, rn_I xl3, rn_I xl4, vl5] [rn_I xs0] M Q := by
  refine (rn_step (e := (.istore 5, 48, 5, 0, 0, 0, 0, [])) rfl).mpr ?_
  refine (rn_step (e := (.aload_n 1, 49, 1, 0, 0, 0, 0, [])) rfl).mpr ?_
  refine (rn_step (e := (.iload_n 2, 50, 2, 0, 0, 0, 0, [])) rfl).mpr ?_
  refine (rn_step (e := (.iload_n 3, 51, 3, 0, 0, 0, 0, [])) rfl).mpr ?_
  refine (rn_step (e := (.iload 4, 53, 4, 0, 0, 0, 0, [])) rfl).mpr ?_
  refine (rn_step (e := (.iload 5, 55, 5, 0, 0, 0, 0, [])) rfl).mpr ?_
  exact (rn_step (e := (.invokevirtual 71, 58, 61, 5, 513, 0, 6, [0])) rfl).mpr (And.intro ((rn_kR (M := M) hM p_al1)) (k1))
set_option maxRecDepth 4000 in
theorem rb_Re_readRiver_58 {M : rn_M} {Q : rn_Q} {rl1 : Option Nat} {vl2 : rn_V} {vl3 : rn_V} {vl4 : rn_V} {vl5 : rn_V} (hM : rn_sh M)   (k1 : rn_ME 50 [rn_R 9, .inr (some rl1)] M (fun r M1 => rn_WP 47 63 [rn_R 9, .inr (some rl1), vl2, vl3, vl4, vl5] (r.toList ++ []) M1 Q)) : rn_WP 47 58 [rn_R 9, .inr (some rl1), vl2, vl3, vl4, vl5] [] M Q := by
  refine (rn_step (e := (.aload_n 0, 59, 0, 0, 0, 0, 0, [])) rfl).mpr ?_
  refine (rn_step (e := (.aload_n 1, 60, 1, 0, 0, 0, 0, [])) rfl).mpr ?_
  exact (rn_step (e := (.invokevirtual 77, 63, 50, 2, 517, 0, 5, [0])) rfl).mpr (And.intro ((rn_ks9 (M := M) hM)) (k1))
set_option maxRecDepth 4000 in
theorem rb_Re_readRiver_63 {M : rn_M} {Q : rn_Q} {vl1 : rn_V} {vl2 : rn_V} {vl3 : rn_V} {vl4 : rn_V} {vl5 : rn_V} (hM : rn_sh M)   (k1 : rn_ME 52 [rn_R 9] M (fun r M1 => rn_WP 47 67 [rn_R 9, vl1, vl2, vl3, vl4, vl5] (r.toList ++ []) M1 Q)) : rn_WP 47 63 [rn_R 9, vl1, vl2, vl3, vl4, vl5] [] M Q := by
  refine (rn_step (e := (.aload_n 0, 64, 0, 0, 0, 0, 0, [])) rfl).mpr ?_
  exact (rn_step (e := (.invokevirtual 80, 67, 52, 1, 548, 0, 5, [0])) rfl).mpr (And.intro ((rn_ks9 (M := M) hM)) (k1))
set_option maxRecDepth 4000 in
theorem rb_Re_readRiver_67 {M : rn_M} {Q : rn_Q} {vl0 : rn_V} {vl1 : rn_V} {vl2 : rn_V} {vl3 : rn_V} {vl4 : rn_V} {vl5 : rn_V}   (k1 : Q none M) : rn_WP 47 67 [vl0, vl1, vl2, vl3, vl4, vl5] [] M Q := by
  exact (rn_step (e := (.return_, 68, 0, 0, 0, 0, 0, [])) rfl).mpr k1
theorem re_Re_readTown {M : rn_M} {Q : rn_Q} {v0 v1 : rn_V} (h : rn_WP 48 0 [v0, v1, rn_J, rn_J, rn_J, rn_J, rn_J] [] M Q) : rn_ME 48 [v0, v1] M Q := h
set_option maxRecDepth 4000 in
theorem rb_Re_readTown_0n {M : rn_M} {Q : rn_Q} {vl2 : rn_V} {vl3 : rn_V} {vl4 : rn_V} {vl5 : rn_V} {vl6 : rn_V} (hM : rn_sh M)   (k1 : Q none (rn_si M 9 4 1)) : rn_WP 48 0 [rn_R 9, rn_N, vl2, vl3, vl4, vl5, vl6] [] M Q := by
  refine (rn_step (e := (.aload_n 1, 1, 1, 0, 0, 0, 0, [])) rfl).mpr ?_
  refine (rn_step (e := (.ifnonnull 9, 4, 10, 0, 0, 0, 0, [])) rfl).mpr ?_
  refine (rn_step (e := (.aload_n 0, 5, 0, 0, 0, 0, 0, [])) rfl).mpr ?_
  refine (rn_step (e := (.iconst 1, 6, 0, 0, 0, 0, 0, [])) rfl).mpr ?_
  refine (rn_step (e := (.putfield 22, 9, 4, 4, 121, 1, 5, [])) rfl).mpr (And.intro ((Or.inr rfl)) (And.intro ((rn_ks9 (M := M) hM)) (?_)))
  exact (rn_step (e := (.return_, 10, 0, 0, 0, 0, 0, [])) rfl).mpr k1
set_option maxRecDepth 4000 in
theorem rb_Re_readTown_0s {M : rn_M} {Q : rn_Q} {al1 : Nat} {vl2 : rn_V} {vl3 : rn_V} {vl4 : rn_V} {vl5 : rn_V} {vl6 : rn_V} (hM : rn_sh M)   (k1 : rn_ME 51 [rn_R 9, rn_I 0, rn_I 59] M (fun r M1 => rn_WP 48 17 [rn_R 9, rn_R al1, vl2, vl3, vl4, vl5, vl6] (r.toList ++ []) M1 Q)) : rn_WP 48 0 [rn_R 9, rn_R al1, vl2, vl3, vl4, vl5, vl6] [] M Q := by
  refine (rn_step (e := (.aload_n 1, 1, 1, 0, 0, 0, 0, [])) rfl).mpr ?_
  refine (rn_step (e := (.ifnonnull 9, 4, 10, 0, 0, 0, 0, [])) rfl).mpr ?_
  refine (rn_step (e := (.aload_n 0, 11, 0, 0, 0, 0, 0, [])) rfl).mpr ?_
  refine (rn_step (e := (.iconst 0, 12, 0, 0, 0, 0, 0, [])) rfl).mpr ?_
  refine (rn_step (e := (.bipush 59, 14, 0, 0, 0, 0, 0, [])) rfl).mpr ?_
  exact (rn_step (e := (.invokevirtual 67, 17, 51, 3, 509, 0, 5, [0])) rfl).mpr (And.intro ((rn_ks9 (M := M) hM)) (k1))
set_option maxRecDepth 4000 in
theorem rb_Re_readTown_17 {M : rn_M} {Q : rn_Q} {vl1 : rn_V} {vl2 : rn_V} {vl3 : rn_V} {vl4 : rn_V} {vl5 : rn_V} {vl6 : rn_V} {xs0 : Int} (hM : rn_sh M)   (k1 : rn_ME 51 [rn_R 9, rn_I 0, rn_I 39] M (fun r M1 => rn_WP 48 25 [rn_R 9, vl1, rn_I xs0, vl3, vl4, vl5, vl6] (r.toList ++ []) M1 Q)) : rn_WP 48 17 [rn_R 9, vl1, vl2, vl3, vl4, vl5, vl6] [rn_I xs0] M Q := by
  refine (rn_step (e := (.istore_n 2, 18, 2, 0, 0, 0, 0, [])) rfl).mpr ?_
  refine (rn_step (e := (.aload_n 0, 19, 0, 0, 0, 0, 0, [])) rfl).mpr ?_
  refine (rn_step (e := (.iconst 0, 20, 0, 0, 0, 0, 0, [])) rfl).mpr ?_
  refine (rn_step (e := (.bipush 39, 22, 0, 0, 0, 0, 0, [])) rfl).mpr ?_
  exact (rn_step (e := (.invokevirtual 67, 25, 51, 3, 509, 0, 5, [0])) rfl).mpr (And.intro ((rn_ks9 (M := M) hM)) (k1))
set_option maxRecDepth 4000 in
theorem rb_Re_readTown_25 {M : rn_M} {Q : rn_Q} {vl1 : rn_V} {xl2 : Int} {vl3 : rn_V} {vl4 : rn_V} {vl5 : rn_V} {vl6 : rn_V} {xs0 : Int} (hM : rn_sh M)   (hr1 : (-2147483648 : Int) ≤ 60 - xl2 ∧ 60 - xl2 ≤ 2147483647) (k1 : rn_ME 51 [rn_R 9, rn_I 1, rn_I (min 12 (60 - xl2))] M (fun r M1 => rn_WP 48 40 [rn_R 9, vl1, rn_I xl2, rn_I xs0, vl4, vl5, vl6] (r.toList ++ []) M1 Q)) : rn_WP 48 25 [rn_R 9, vl1, rn_I xl2, vl3, vl4, vl5, vl6] [rn_I xs0] M Q := by
  refine (rn_step (e := (.istore_n 3, 26, 3, 0, 0, 0, 0, [])) rfl).mpr ?_
  refine (rn_step (e := (.aload_n 0, 27, 0, 0, 0, 0, 0, [])) rfl).mpr ?_
  refine (rn_step (e := (.iconst 1, 28, 0, 0, 0, 0, 0, [])) rfl).mpr ?_
  refine (rn_step (e := (.bipush 12, 30, 0, 0, 0, 0, 0, [])) rfl).mpr ?_
  refine (rn_step (e := (.bipush 60, 32, 0, 0, 0, 0, 0, [])) rfl).mpr ?_
  refine (rn_step (e := (.iload_n 2, 33, 2, 0, 0, 0, 0, [])) rfl).mpr ?_
  refine (rn_step (e := (.isub, 34, 0, 0, 0, 0, 0, [])) rfl).mpr (rn_cw hr1.1 hr1.2 ?_)
  refine (rn_step (e := (.invokestatic 83, 37, 206, 2, 435, 6, 0, [0])) rfl).mpr ?_
  exact (rn_step (e := (.invokevirtual 67, 40, 51, 3, 509, 0, 5, [0])) rfl).mpr (And.intro ((rn_ks9 (M := M) hM)) (k1))
set_option maxRecDepth 4000 in
theorem rb_Re_readTown_40 {M : rn_M} {Q : rn_Q} {vl1 : rn_V} {vl2 : rn_V} {xl3 : Int} {vl4 : rn_V} {vl5 : rn_V} {vl6 : rn_V} {xs0 : Int} (hM : rn_sh M)   (hr1 : (-2147483648 : Int) ≤ 40 - xl3 ∧ 40 - xl3 ≤ 2147483647) (k1 : rn_ME 51 [rn_R 9, rn_I 1, rn_I (min 3 (40 - xl3))] M (fun r M1 => rn_WP 48 55 [rn_R 9, vl1, vl2, rn_I xl3, rn_I xs0, vl5, vl6] (r.toList ++ []) M1 Q)) : rn_WP 48 40 [rn_R 9, vl1, vl2, rn_I xl3, vl4, vl5, vl6] [rn_I xs0] M Q := by
  refine (rn_step (e := (.istore 4, 42, 4, 0, 0, 0, 0, [])) rfl).mpr ?_
  refine (rn_step (e := (.aload_n 0, 43, 0, 0, 0, 0, 0, [])) rfl).mpr ?_
  refine (rn_step (e := (.iconst 1, 44, 0, 0, 0, 0, 0, [])) rfl).mpr ?_
  refine (rn_step (e := (.iconst 3, 45, 0, 0, 0, 0, 0, [])) rfl).mpr ?_
  refine (rn_step (e := (.bipush 40, 47, 0, 0, 0, 0, 0, [])) rfl).mpr ?_
  refine (rn_step (e := (.iload_n 3, 48, 3, 0, 0, 0, 0, [])) rfl).mpr ?_
  refine (rn_step (e := (.isub, 49, 0, 0, 0, 0, 0, [])) rfl).mpr (rn_cw hr1.1 hr1.2 ?_)
  refine (rn_step (e := (.invokestatic 83, 52, 206, 2, 435, 6, 0, [0])) rfl).mpr ?_
  exact (rn_step (e := (.invokevirtual 67, 55, 51, 3, 509, 0, 5, [0])) rfl).mpr (And.intro ((rn_ks9 (M := M) hM)) (k1))
set_option maxRecDepth 4000 in
theorem rb_Re_readTown_55 {M : rn_M} {Q : rn_Q} {vl1 : rn_V} {vl2 : rn_V} {vl3 : rn_V} {vl4 : rn_V} {vl5 : rn_V} {vl6 : rn_V} {xs0 : Int} (hM : rn_sh M)   (k1 : rn_ME 51 [rn_R 9, rn_I 1, rn_I 9] M (fun r M1 => rn_WP 48 64 [rn_R 9, vl1, vl2, vl3, vl4, rn_I xs0, vl6] (r.toList ++ []) M1 Q)) : rn_WP 48 55 [rn_R 9, vl1, vl2, vl3, vl4, vl5, vl6] [rn_I xs0] M Q := by
  refine (rn_step (e := (.istore 5, 57, 5, 0, 0, 0, 0, [])) rfl).mpr ?_
  refine (rn_step (e := (.aload_n 0, 58, 0, 0, 0, 0, 0, [])) rfl).mpr ?_
  refine (rn_step (e := (.iconst 1, 59, 0, 0, 0, 0, 0, [])) rfl).mpr ?_
  refine (rn_step (e := (.bipush 9, 61, 0, 0, 0, 0, 0, [])) rfl).mpr ?_
  exact (rn_step (e := (.invokevirtual 67, 64, 51, 3, 509, 0, 5, [0])) rfl).mpr (And.intro ((rn_ks9 (M := M) hM)) (k1))
set_option maxRecDepth 4000 in
theorem rb_Re_readTown_64 {M : rn_M} {Q : rn_Q} {vl0 : rn_V} {al1 : Nat} {xl2 : Int} {xl3 : Int} {xl4 : Int} {xl5 : Int} {vl6 : rn_V} {xs0 : Int} (hM : rn_sh M) (p_al1 : rn_isT al1)  (k1 : rn_ME 87 [rn_R al1, rn_I xl2, rn_I xl3, rn_I xl4, rn_I xl5, rn_I xs0] M (fun r M1 => rn_WP 48 78 [vl0, rn_R al1, rn_I xl2, rn_I xl3, rn_I xl4, rn_I xl5, rn_I xs0] (r.toList ++ []) M1 Q)) : rn_WP 48 64 [vl0, rn_R al1, rn_I xl2, rn_I xl3, rn_I xl4, rn_I xl5, vl6] [rn_I xs0] M Q := by
  refine (rn_step (e := (.istore 6, 66, 6, 0, 0, 0, 0, [])) rfl).mpr ?_
  refine (rn_step (e := (.aload_n 1, 67, 1, 0, 0, 0, 0, [])) rfl).mpr ?_
  refine (rn_step (e := (.iload_n 2, 68, 2, 0, 0, 0, 0, [])) rfl).mpr ?_
  refine (rn_step (e := (.iload_n 3, 69, 3, 0, 0, 0, 0, [])) rfl).mpr ?_
  refine (rn_step (e := (.iload 4, 71, 4, 0, 0, 0, 0, [])) rfl).mpr ?_
  refine (rn_step (e := (.iload 5, 73, 5, 0, 0, 0, 0, [])) rfl).mpr ?_
  refine (rn_step (e := (.iload 6, 75, 6, 0, 0, 0, 0, [])) rfl).mpr ?_
  exact (rn_step (e := (.invokevirtual 88, 78, 87, 6, 558, 0, 9, [0])) rfl).mpr (And.intro ((rn_kT (M := M) hM p_al1)) (k1))
set_option maxRecDepth 4000 in
theorem rb_Re_readTown_78 {M : rn_M} {Q : rn_Q} {vl1 : rn_V} {vl2 : rn_V} {vl3 : rn_V} {vl4 : rn_V} {vl5 : rn_V} {vl6 : rn_V} (hM : rn_sh M)   (k1 : rn_ME 52 [rn_R 9] M (fun r M1 => rn_WP 48 82 [rn_R 9, vl1, vl2, vl3, vl4, vl5, vl6] (r.toList ++ []) M1 Q)) : rn_WP 48 78 [rn_R 9, vl1, vl2, vl3, vl4, vl5, vl6] [] M Q := by
  refine (rn_step (e := (.aload_n 0, 79, 0, 0, 0, 0, 0, [])) rfl).mpr ?_
  exact (rn_step (e := (.invokevirtual 80, 82, 52, 1, 548, 0, 5, [0])) rfl).mpr (And.intro ((rn_ks9 (M := M) hM)) (k1))
set_option maxRecDepth 4000 in
theorem rb_Re_readTown_82 {M : rn_M} {Q : rn_Q} {vl0 : rn_V} {vl1 : rn_V} {vl2 : rn_V} {vl3 : rn_V} {vl4 : rn_V} {vl5 : rn_V} {vl6 : rn_V}   (k1 : Q none M) : rn_WP 48 82 [vl0, vl1, vl2, vl3, vl4, vl5, vl6] [] M Q := by
  exact (rn_step (e := (.return_, 83, 0, 0, 0, 0, 0, [])) rfl).mpr k1
theorem re_Re_readName {M : rn_M} {Q : rn_Q} {v0 v1 : rn_V} (h : rn_WP 49 0 [v0, v1, rn_J] [] M Q) : rn_ME 49 [v0, v1] M Q := h
set_option maxRecDepth 4000 in
theorem rb_Re_readName_0 {M : rn_M} {Q : rn_Q} {vl1 : rn_V} {vl2 : rn_V} (hM : rn_sh M)   (k1 : rn_ME 54 [rn_R 9] M (fun r M1 => rn_WP 49 4 [rn_R 9, vl1, vl2] (r.toList ++ []) M1 Q)) : rn_WP 49 0 [rn_R 9, vl1, vl2] [] M Q := by
  refine (rn_step (e := (.aload_n 0, 1, 0, 0, 0, 0, 0, [])) rfl).mpr ?_
  exact (rn_step (e := (.invokevirtual 29, 4, 54, 1, 423, 0, 5, [0])) rfl).mpr (And.intro ((rn_ks9 (M := M) hM)) (k1))
set_option maxRecDepth 4000 in
theorem rb_Re_readName_4 {M : rn_M} {Q : rn_Q} {vl1 : rn_V} {vl2 : rn_V} (hM : rn_sh M)   (hr1 : (rn_gi M 9 3 = 1) → (-2147483648 : Int) ≤ (rn_gi M 9 2) - (rn_gi M 9 1) ∧ (rn_gi M 9 2) - (rn_gi M 9 1) ≤ 2147483647) (k1 : (rn_gi M 9 3 = 1) → (12 < (rn_gi M 9 2) - (rn_gi M 9 1)) → rn_ME 53 [rn_R 9, rn_I 0] M (fun r M1 => rn_WP 49 35 [rn_R 9, vl1, vl2] (r.toList ++ []) M1 Q)) (k2 : (rn_gi M 9 3 = 1) → (¬ (12 < (rn_gi M 9 2) - (rn_gi M 9 1))) → rn_ME 53 [rn_R 9, rn_I 1] M (fun r M1 => rn_WP 49 35 [rn_R 9, vl1, vl2] (r.toList ++ []) M1 Q)) (k3 : (¬ (rn_gi M 9 3 = 1)) → rn_ME 53 [rn_R 9, rn_I 0] M (fun r M1 => rn_WP 49 35 [rn_R 9, vl1, vl2] (r.toList ++ []) M1 Q)) : rn_WP 49 4 [rn_R 9, vl1, vl2] [] M Q := by
  refine (rn_step (e := (.aload_n 0, 5, 0, 0, 0, 0, 0, [])) rfl).mpr ?_
  refine (rn_step (e := (.aload_n 0, 6, 0, 0, 0, 0, 0, [])) rfl).mpr ?_
  refine (rn_step (e := (.getfield 32, 9, 4, 3, 120, 0, 5, [])) rfl).mpr (And.intro ((rn_ks9 (M := M) hM)) (?_))
  refine (rn_step (e := (.iconst 1, 10, 0, 0, 0, 0, 0, [])) rfl).mpr ?_
  refine (rn_step (e := (.if_icmp .ne 21, 13, 31, 0, 0, 0, 0, [])) rfl).mpr (And.intro (fun c1 => ?_) (fun c1 => ?_))
  ·
    refine (rn_step (e := (.aload_n 0, 14, 0, 0, 0, 0, 0, [])) rfl).mpr ?_
    refine (rn_step (e := (.getfield 18, 17, 4, 2, 119, 0, 5, [])) rfl).mpr (And.intro ((rn_ks9 (M := M) hM)) (?_))
    refine (rn_step (e := (.aload_n 0, 18, 0, 0, 0, 0, 0, [])) rfl).mpr ?_
    refine (rn_step (e := (.getfield 61, 21, 4, 1, 118, 0, 5, [])) rfl).mpr (And.intro ((rn_ks9 (M := M) hM)) (?_))
    refine (rn_step (e := (.isub, 22, 0, 0, 0, 0, 0, [])) rfl).mpr (rn_cw (hr1 c1).1 (hr1 c1).2 ?_)
    refine (rn_step (e := (.bipush 12, 24, 0, 0, 0, 0, 0, [])) rfl).mpr ?_
    refine (rn_step (e := (.if_icmp .gt 7, 27, 31, 0, 0, 0, 0, [])) rfl).mpr (And.intro (fun c2 => ?_) (fun c2 => ?_))
    ·
      refine (rn_step (e := (.iconst 0, 32, 0, 0, 0, 0, 0, [])) rfl).mpr ?_
      exact (rn_step (e := (.invokevirtual 94, 35, 53, 2, 500, 0, 5, [0])) rfl).mpr (And.intro ((rn_ks9 (M := M) hM)) ((k1 c1 c2)))
    ·
      refine (rn_step (e := (.iconst 1, 28, 0, 0, 0, 0, 0, [])) rfl).mpr ?_
      refine (rn_step (e := (.goto 4, 31, 32, 0, 0, 0, 0, [])) rfl).mpr ?_
      exact (rn_step (e := (.invokevirtual 94, 35, 53, 2, 500, 0, 5, [0])) rfl).mpr (And.intro ((rn_ks9 (M := M) hM)) ((k2 c1 c2)))
  ·
    refine (rn_step (e := (.iconst 0, 32, 0, 0, 0, 0, 0, [])) rfl).mpr ?_
    exact (rn_step (e := (.invokevirtual 94, 35, 53, 2, 500, 0, 5, [0])) rfl).mpr (And.intro ((rn_ks9 (M := M) hM)) ((k3 c1)))
set_option maxRecDepth 4000 in
theorem rb_Re_readName_35 {M : rn_M} {Q : rn_Q} {vl1 : rn_V} {vl2 : rn_V} (hM : rn_sh M)   (k1 : rn_WP 49 40 [rn_R 9, vl1, rn_I (rn_gi M 9 1)] [] M Q) : rn_WP 49 35 [rn_R 9, vl1, vl2] [] M Q := by
  refine (rn_step (e := (.aload_n 0, 36, 0, 0, 0, 0, 0, [])) rfl).mpr ?_
  refine (rn_step (e := (.getfield 61, 39, 4, 1, 118, 0, 5, [])) rfl).mpr (And.intro ((rn_ks9 (M := M) hM)) (?_))
  refine (rn_step (e := (.istore_n 2, 40, 2, 0, 0, 0, 0, [])) rfl).mpr ?_
  exact k1
set_option maxRecDepth 4000 in
theorem rb_Re_readName_40 {M : rn_M} {Q : rn_Q} {al1 : Nat} {xl2 : Int} (hM : rn_sh M) (p_al1 : rn_isR al1)  (hr1 : (xl2 < rn_gi M 9 2) → (rn_gi M 9 4 = 0) → (0 ≤ rn_gi M 10 0 ∧ rn_gi M 10 0 ≤ 150)) (k1 : (xl2 < rn_gi M 9 2) → (rn_gi M 9 4 = 0) → rn_ME 60 [rn_R al1, rn_I (rn_sg M xl2)] M (fun r M1 => rn_WP 49 67 [rn_R 9, rn_R al1, rn_I xl2] (r.toList ++ []) M1 Q)) (k2 : (xl2 < rn_gi M 9 2) → (¬ (rn_gi M 9 4 = 0)) → Q none M) (k3 : (¬ (xl2 < rn_gi M 9 2)) → Q none M) : rn_WP 49 40 [rn_R 9, rn_R al1, rn_I xl2] [] M Q := by
  refine (rn_step (e := (.iload_n 2, 41, 2, 0, 0, 0, 0, [])) rfl).mpr ?_
  refine (rn_step (e := (.aload_n 0, 42, 0, 0, 0, 0, 0, [])) rfl).mpr ?_
  refine (rn_step (e := (.getfield 18, 45, 4, 2, 119, 0, 5, [])) rfl).mpr (And.intro ((rn_ks9 (M := M) hM)) (?_))
  refine (rn_step (e := (.if_icmp .ge 28, 48, 73, 0, 0, 0, 0, [])) rfl).mpr (And.intro (fun c1 => ?_) (fun c1 => ?_))
  ·
    refine (rn_step (e := (.aload_n 0, 49, 0, 0, 0, 0, 0, [])) rfl).mpr ?_
    refine (rn_step (e := (.getfield 22, 52, 4, 4, 121, 1, 5, [])) rfl).mpr (And.intro ((rn_ks9 (M := M) hM)) (?_))
    refine (rn_step (e := (.ifCond .ne 21, 55, 73, 0, 0, 0, 0, [])) rfl).mpr (And.intro (fun c2 => ?_) (fun c2 => ?_))
    ·
      refine (rn_step (e := (.aload_n 1, 56, 1, 0, 0, 0, 0, [])) rfl).mpr ?_
      refine (rn_step (e := (.aload_n 0, 57, 0, 0, 0, 0, 0, [])) rfl).mpr ?_
      refine (rn_step (e := (.getfield 12, 60, 4, 0, 116, 2, 5, [])) rfl).mpr (And.intro ((rn_ks9 (M := M) hM)) (rn_cg (rn_g9_0 (M := M) hM) ?_))
      refine (rn_step (e := (.iload_n 2, 61, 2, 0, 0, 0, 0, [])) rfl).mpr ?_
      refine (rn_step (e := (.invokevirtual 98, 64, 85, 2, 427, 0, 8, [0])) rfl).mpr (And.intro ((rn_ks10 (M := M) hM)) ((rc_Te_signAt hM ((hr1 c1 c2)) ?_)))
      exact (rn_step (e := (.invokevirtual 102, 67, 60, 2, 504, 0, 6, [0])) rfl).mpr (And.intro ((rn_kR (M := M) hM p_al1)) ((k1 c1 c2)))
    ·
      exact (rn_step (e := (.return_, 74, 0, 0, 0, 0, 0, [])) rfl).mpr (k2 c1 c2)
  ·
    exact (rn_step (e := (.return_, 74, 0, 0, 0, 0, 0, [])) rfl).mpr (k3 c1)
set_option maxRecDepth 4000 in
theorem rb_Re_readName_67 {M : rn_M} {Q : rn_Q} {vl0 : rn_V} {vl1 : rn_V} {xl2 : Int}   (hr1 : (-2147483648 : Int) ≤ xl2 + 1 ∧ xl2 + 1 ≤ 2147483647) (k1 : rn_WP 49 40 [vl0, vl1, rn_I (xl2 + 1)] [] M Q) : rn_WP 49 67 [vl0, vl1, rn_I xl2] [] M Q := by
  refine (rn_step (e := (.iinc 2 1, 70, 2, 0, 0, 0, 0, [])) rfl).mpr (rn_ci hr1.1 hr1.2 ?_)
  refine (rn_step (e := (.goto (-30), 73, 40, 0, 0, 0, 0, [])) rfl).mpr ?_
  exact k1
theorem re_Re_readMoves {M : rn_M} {Q : rn_Q} {v0 v1 : rn_V} (h : rn_WP 50 0 [v0, v1, rn_J] [] M Q) : rn_ME 50 [v0, v1] M Q := h
set_option maxRecDepth 4000 in
theorem rb_Re_readMoves_0 {M : rn_M} {Q : rn_Q} {vl1 : rn_V} {vl2 : rn_V} (hM : rn_sh M)   (k1 : rn_ME 54 [rn_R 9] M (fun r M1 => rn_WP 50 4 [rn_R 9, vl1, vl2] (r.toList ++ []) M1 Q)) : rn_WP 50 0 [rn_R 9, vl1, vl2] [] M Q := by
  refine (rn_step (e := (.aload_n 0, 1, 0, 0, 0, 0, 0, [])) rfl).mpr ?_
  exact (rn_step (e := (.invokevirtual 29, 4, 54, 1, 423, 0, 5, [0])) rfl).mpr (And.intro ((rn_ks9 (M := M) hM)) (k1))
set_option maxRecDepth 4000 in
theorem rb_Re_readMoves_4 {M : rn_M} {Q : rn_Q} {vl1 : rn_V} {vl2 : rn_V} (hM : rn_sh M)   (k1 : (rn_gi M 9 3 = 2) → rn_ME 53 [rn_R 9, rn_I 1] M (fun r M1 => rn_WP 50 21 [rn_R 9, vl1, vl2] (r.toList ++ []) M1 Q)) (k2 : (¬ (rn_gi M 9 3 = 2)) → rn_ME 53 [rn_R 9, rn_I 0] M (fun r M1 => rn_WP 50 21 [rn_R 9, vl1, vl2] (r.toList ++ []) M1 Q)) : rn_WP 50 4 [rn_R 9, vl1, vl2] [] M Q := by
  refine (rn_step (e := (.aload_n 0, 5, 0, 0, 0, 0, 0, [])) rfl).mpr ?_
  refine (rn_step (e := (.aload_n 0, 6, 0, 0, 0, 0, 0, [])) rfl).mpr ?_
  refine (rn_step (e := (.getfield 32, 9, 4, 3, 120, 0, 5, [])) rfl).mpr (And.intro ((rn_ks9 (M := M) hM)) (?_))
  refine (rn_step (e := (.iconst 2, 10, 0, 0, 0, 0, 0, [])) rfl).mpr ?_
  refine (rn_step (e := (.if_icmp .ne 7, 13, 17, 0, 0, 0, 0, [])) rfl).mpr (And.intro (fun c1 => ?_) (fun c1 => ?_))
  ·
    refine (rn_step (e := (.iconst 1, 14, 0, 0, 0, 0, 0, [])) rfl).mpr ?_
    refine (rn_step (e := (.goto 4, 17, 18, 0, 0, 0, 0, [])) rfl).mpr ?_
    exact (rn_step (e := (.invokevirtual 94, 21, 53, 2, 500, 0, 5, [0])) rfl).mpr (And.intro ((rn_ks9 (M := M) hM)) ((k1 c1)))
  ·
    refine (rn_step (e := (.iconst 0, 18, 0, 0, 0, 0, 0, [])) rfl).mpr ?_
    exact (rn_step (e := (.invokevirtual 94, 21, 53, 2, 500, 0, 5, [0])) rfl).mpr (And.intro ((rn_ks9 (M := M) hM)) ((k2 c1)))
set_option maxRecDepth 4000 in
theorem rb_Re_readMoves_21 {M : rn_M} {Q : rn_Q} {vl1 : rn_V} {vl2 : rn_V} (hM : rn_sh M)   (k1 : rn_WP 50 26 [rn_R 9, vl1, rn_I (rn_gi M 9 1)] [] M Q) : rn_WP 50 21 [rn_R 9, vl1, vl2] [] M Q := by
  refine (rn_step (e := (.aload_n 0, 22, 0, 0, 0, 0, 0, [])) rfl).mpr ?_
  refine (rn_step (e := (.getfield 61, 25, 4, 1, 118, 0, 5, [])) rfl).mpr (And.intro ((rn_ks9 (M := M) hM)) (?_))
  refine (rn_step (e := (.istore_n 2, 26, 2, 0, 0, 0, 0, [])) rfl).mpr ?_
  exact k1
set_option maxRecDepth 4000 in
theorem rb_Re_readMoves_26 {M : rn_M} {Q : rn_Q} {al1 : Nat} {xl2 : Int} (hM : rn_sh M) (p_al1 : rn_isR al1)  (hr1 : (xl2 < rn_gi M 9 2) → (rn_gi M 9 4 = 0) → (0 ≤ rn_gi M 10 0 ∧ rn_gi M 10 0 ≤ 150) ∧ (-2147483648 : Int) ≤ (rn_sg M xl2) - 48 ∧ (rn_sg M xl2) - 48 ≤ 2147483647) (k1 : (xl2 < rn_gi M 9 2) → (rn_gi M 9 4 = 0) → rn_ME 63 [rn_R al1, rn_I ((rn_sg M xl2) - 48)] M (fun r M1 => rn_WP 50 57 [rn_R 9, rn_R al1, rn_I xl2] (r.toList ++ [rn_R 9]) M1 Q)) (k2 : (xl2 < rn_gi M 9 2) → (¬ (rn_gi M 9 4 = 0)) → Q none M) (k3 : (¬ (xl2 < rn_gi M 9 2)) → Q none M) : rn_WP 50 26 [rn_R 9, rn_R al1, rn_I xl2] [] M Q := by
  refine (rn_step (e := (.iload_n 2, 27, 2, 0, 0, 0, 0, [])) rfl).mpr ?_
  refine (rn_step (e := (.aload_n 0, 28, 0, 0, 0, 0, 0, [])) rfl).mpr ?_
  refine (rn_step (e := (.getfield 18, 31, 4, 2, 119, 0, 5, [])) rfl).mpr (And.intro ((rn_ks9 (M := M) hM)) (?_))
  refine (rn_step (e := (.if_icmp .ge 35, 34, 66, 0, 0, 0, 0, [])) rfl).mpr (And.intro (fun c1 => ?_) (fun c1 => ?_))
  ·
    refine (rn_step (e := (.aload_n 0, 35, 0, 0, 0, 0, 0, [])) rfl).mpr ?_
    refine (rn_step (e := (.getfield 22, 38, 4, 4, 121, 1, 5, [])) rfl).mpr (And.intro ((rn_ks9 (M := M) hM)) (?_))
    refine (rn_step (e := (.ifCond .ne 28, 41, 66, 0, 0, 0, 0, [])) rfl).mpr (And.intro (fun c2 => ?_) (fun c2 => ?_))
    ·
      refine (rn_step (e := (.aload_n 0, 42, 0, 0, 0, 0, 0, [])) rfl).mpr ?_
      refine (rn_step (e := (.aload_n 1, 43, 1, 0, 0, 0, 0, [])) rfl).mpr ?_
      refine (rn_step (e := (.aload_n 0, 44, 0, 0, 0, 0, 0, [])) rfl).mpr ?_
      refine (rn_step (e := (.getfield 12, 47, 4, 0, 116, 2, 5, [])) rfl).mpr (And.intro ((rn_ks9 (M := M) hM)) (rn_cg (rn_g9_0 (M := M) hM) ?_))
      refine (rn_step (e := (.iload_n 2, 48, 2, 0, 0, 0, 0, [])) rfl).mpr ?_
      refine (rn_step (e := (.invokevirtual 98, 51, 85, 2, 427, 0, 8, [0])) rfl).mpr (And.intro ((rn_ks10 (M := M) hM)) ((rc_Te_signAt hM ((hr1 c1 c2).1) ?_)))
      refine (rn_step (e := (.bipush 48, 53, 0, 0, 0, 0, 0, [])) rfl).mpr ?_
      refine (rn_step (e := (.isub, 54, 0, 0, 0, 0, 0, [])) rfl).mpr (rn_cw (hr1 c1 c2).2.1 (hr1 c1 c2).2.2 ?_)
      exact (rn_step (e := (.invokevirtual 106, 57, 63, 2, 521, 0, 6, [0])) rfl).mpr (And.intro ((rn_kR (M := M) hM p_al1)) ((k1 c1 c2)))
    ·
      exact (rn_step (e := (.return_, 67, 0, 0, 0, 0, 0, [])) rfl).mpr (k2 c1 c2)
  ·
    exact (rn_step (e := (.return_, 67, 0, 0, 0, 0, 0, [])) rfl).mpr (k3 c1)
set_option maxRecDepth 4000 in
theorem rb_Re_readMoves_57 {M : rn_M} {Q : rn_Q} {vl0 : rn_V} {vl1 : rn_V} {vl2 : rn_V} {vs0 : rn_V} (hM : rn_sh M)   (k1 : rn_ME 53 [rn_R 9, vs0] M (fun r M1 => rn_WP 50 60 [vl0, vl1, vl2] (r.toList ++ []) M1 Q)) : rn_WP 50 57 [vl0, vl1, vl2] [vs0, rn_R 9] M Q := by
  exact (rn_step (e := (.invokevirtual 94, 60, 53, 2, 500, 0, 5, [0])) rfl).mpr (And.intro ((rn_ks9 (M := M) hM)) (k1))
set_option maxRecDepth 4000 in
theorem rb_Re_readMoves_60 {M : rn_M} {Q : rn_Q} {vl0 : rn_V} {vl1 : rn_V} {xl2 : Int}   (hr1 : (-2147483648 : Int) ≤ xl2 + 1 ∧ xl2 + 1 ≤ 2147483647) (k1 : rn_WP 50 26 [vl0, vl1, rn_I (xl2 + 1)] [] M Q) : rn_WP 50 60 [vl0, vl1, rn_I xl2] [] M Q := by
  refine (rn_step (e := (.iinc 2 1, 63, 2, 0, 0, 0, 0, [])) rfl).mpr (rn_ci hr1.1 hr1.2 ?_)
  refine (rn_step (e := (.goto (-37), 66, 26, 0, 0, 0, 0, [])) rfl).mpr ?_
  exact k1
theorem re_Re_readNumber {M : rn_M} {Q : rn_Q} {v0 v1 v2 : rn_V} (h : rn_WP 51 0 [v0, v1, v2, rn_J, rn_J, rn_J, rn_J] [] M Q) : rn_ME 51 [v0, v1, v2] M Q := h
set_option maxRecDepth 4000 in
theorem rb_Re_readNumber_0 {M : rn_M} {Q : rn_Q} {vl1 : rn_V} {vl2 : rn_V} {vl3 : rn_V} {vl4 : rn_V} {vl5 : rn_V} {vl6 : rn_V} (hM : rn_sh M)   (k1 : rn_ME 54 [rn_R 9] M (fun r M1 => rn_WP 51 4 [rn_R 9, vl1, vl2, vl3, vl4, vl5, vl6] (r.toList ++ []) M1 Q)) : rn_WP 51 0 [rn_R 9, vl1, vl2, vl3, vl4, vl5, vl6] [] M Q := by
  refine (rn_step (e := (.aload_n 0, 1, 0, 0, 0, 0, 0, [])) rfl).mpr ?_
  exact (rn_step (e := (.invokevirtual 29, 4, 54, 1, 423, 0, 5, [0])) rfl).mpr (And.intro ((rn_ks9 (M := M) hM)) (k1))
set_option maxRecDepth 4000 in
theorem rb_Re_readNumber_4 {M : rn_M} {Q : rn_Q} {vl1 : rn_V} {vl2 : rn_V} {vl3 : rn_V} {vl4 : rn_V} {vl5 : rn_V} {vl6 : rn_V} (hM : rn_sh M)   (hr1 : (-2147483648 : Int) ≤ (rn_gi M 9 2) - (rn_gi M 9 1) ∧ (rn_gi M 9 2) - (rn_gi M 9 1) ≤ 2147483647) (hr2 : (¬ ((rn_gi M 9 2) - (rn_gi M 9 1) ≤ 1)) → (0 ≤ rn_gi M 10 0 ∧ rn_gi M 10 0 ≤ 150)) (k1 : ((rn_gi M 9 2) - (rn_gi M 9 1) ≤ 1) → (rn_gi M 9 3 = 2) → (2 < (rn_gi M 9 2) - (rn_gi M 9 1)) → rn_ME 53 [rn_R 9, rn_I 0] M (fun r M1 => rn_WP 51 69 [rn_R 9, vl1, vl2, rn_I ((rn_gi M 9 2) - (rn_gi M 9 1)), rn_I 0, vl5, vl6] (r.toList ++ []) M1 Q)) (k2 : ((rn_gi M 9 2) - (rn_gi M 9 1) ≤ 1) → (rn_gi M 9 3 = 2) → (¬ (2 < (rn_gi M 9 2) - (rn_gi M 9 1))) → rn_ME 53 [rn_R 9, rn_I 1] M (fun r M1 => rn_WP 51 69 [rn_R 9, vl1, vl2, rn_I ((rn_gi M 9 2) - (rn_gi M 9 1)), rn_I 0, vl5, vl6] (r.toList ++ []) M1 Q)) (k3 : ((rn_gi M 9 2) - (rn_gi M 9 1) ≤ 1) → (¬ (rn_gi M 9 3 = 2)) → rn_ME 53 [rn_R 9, rn_I 0] M (fun r M1 => rn_WP 51 69 [rn_R 9, vl1, vl2, rn_I ((rn_gi M 9 2) - (rn_gi M 9 1)), rn_I 0, vl5, vl6] (r.toList ++ []) M1 Q)) (k4 : (¬ ((rn_gi M 9 2) - (rn_gi M 9 1) ≤ 1)) → (rn_sg M (rn_gi M 9 1) = 48) → (rn_gi M 9 3 = 2) → (2 < (rn_gi M 9 2) - (rn_gi M 9 1)) → rn_ME 53 [rn_R 9, rn_I 0] M (fun r M1 => rn_WP 51 69 [rn_R 9, vl1, vl2, rn_I ((rn_gi M 9 2) - (rn_gi M 9 1)), rn_I 1, vl5, vl6] (r.toList ++ []) M1 Q)) (k5 : (¬ ((rn_gi M 9 2) - (rn_gi M 9 1) ≤ 1)) → (rn_sg M (rn_gi M 9 1) = 48) → (rn_gi M 9 3 = 2) → (¬ (2 < (rn_gi M 9 2) - (rn_gi M 9 1))) → rn_ME 53 [rn_R 9, rn_I 0] M (fun r M1 => rn_WP 51 69 [rn_R 9, vl1, vl2, rn_I ((rn_gi M 9 2) - (rn_gi M 9 1)), rn_I 1, vl5, vl6] (r.toList ++ []) M1 Q)) (k6 : (¬ ((rn_gi M 9 2) - (rn_gi M 9 1) ≤ 1)) → (rn_sg M (rn_gi M 9 1) = 48) → (¬ (rn_gi M 9 3 = 2)) → rn_ME 53 [rn_R 9, rn_I 0] M (fun r M1 => rn_WP 51 69 [rn_R 9, vl1, vl2, rn_I ((rn_gi M 9 2) - (rn_gi M 9 1)), rn_I 1, vl5, vl6] (r.toList ++ []) M1 Q)) (k7 : (¬ ((rn_gi M 9 2) - (rn_gi M 9 1) ≤ 1)) → (¬ (rn_sg M (rn_gi M 9 1) = 48)) → (rn_gi M 9 3 = 2) → (2 < (rn_gi M 9 2) - (rn_gi M 9 1)) → rn_ME 53 [rn_R 9, rn_I 0] M (fun r M1 => rn_WP 51 69 [rn_R 9, vl1, vl2, rn_I ((rn_gi M 9 2) - (rn_gi M 9 1)), rn_I 0, vl5, vl6] (r.toList ++ []) M1 Q)) (k8 : (¬ ((rn_gi M 9 2) - (rn_gi M 9 1) ≤ 1)) → (¬ (rn_sg M (rn_gi M 9 1) = 48)) → (rn_gi M 9 3 = 2) → (¬ (2 < (rn_gi M 9 2) - (rn_gi M 9 1))) → rn_ME 53 [rn_R 9, rn_I 1] M (fun r M1 => rn_WP 51 69 [rn_R 9, vl1, vl2, rn_I ((rn_gi M 9 2) - (rn_gi M 9 1)), rn_I 0, vl5, vl6] (r.toList ++ []) M1 Q)) (k9 : (¬ ((rn_gi M 9 2) - (rn_gi M 9 1) ≤ 1)) → (¬ (rn_sg M (rn_gi M 9 1) = 48)) → (¬ (rn_gi M 9 3 = 2)) → rn_ME 53 [rn_R 9, rn_I 0] M (fun r M1 => rn_WP 51 69 [rn_R 9, vl1, vl2, rn_I ((rn_gi M 9 2) - (rn_gi M 9 1)), rn_I 0, vl5, vl6] (r.toList ++ []) M1 Q)) : rn_WP 51 4 [rn_R 9, vl1, vl2, vl3, vl4, vl5, vl6] [] M Q := by
  refine (rn_step (e := (.aload_n 0, 5, 0, 0, 0, 0, 0, [])) rfl).mpr ?_
  refine (rn_step (e := (.getfield 18, 8, 4, 2, 119, 0, 5, [])) rfl).mpr (And.intro ((rn_ks9 (M := M) hM)) (?_))
  refine (rn_step (e := (.aload_n 0, 9, 0, 0, 0, 0, 0, [])) rfl).mpr ?_
  refine (rn_step (e := (.getfield 61, 12, 4, 1, 118, 0, 5, [])) rfl).mpr (And.intro ((rn_ks9 (M := M) hM)) (?_))
  refine (rn_step (e := (.isub, 13, 0, 0, 0, 0, 0, [])) rfl).mpr (rn_cw hr1.1 hr1.2 ?_)
  refine (rn_step (e := (.istore_n 3, 14, 3, 0, 0, 0, 0, [])) rfl).mpr ?_
  refine (rn_step (e := (.iload_n 3, 15, 3, 0, 0, 0, 0, [])) rfl).mpr ?_
  refine (rn_step (e := (.iconst 1, 16, 0, 0, 0, 0, 0, [])) rfl).mpr ?_
  refine (rn_step (e := (.if_icmp .le 23, 19, 39, 0, 0, 0, 0, [])) rfl).mpr (And.intro (fun c1 => ?_) (fun c1 => ?_))
  ·
    refine (rn_step (e := (.iconst 0, 40, 0, 0, 0, 0, 0, [])) rfl).mpr ?_
    refine (rn_step (e := (.istore 4, 42, 4, 0, 0, 0, 0, [])) rfl).mpr ?_
    refine (rn_step (e := (.aload_n 0, 43, 0, 0, 0, 0, 0, [])) rfl).mpr ?_
    refine (rn_step (e := (.aload_n 0, 44, 0, 0, 0, 0, 0, [])) rfl).mpr ?_
    refine (rn_step (e := (.getfield 32, 47, 4, 3, 120, 0, 5, [])) rfl).mpr (And.intro ((rn_ks9 (M := M) hM)) (?_))
    refine (rn_step (e := (.iconst 2, 48, 0, 0, 0, 0, 0, [])) rfl).mpr ?_
    refine (rn_step (e := (.if_icmp .ne 17, 51, 65, 0, 0, 0, 0, [])) rfl).mpr (And.intro (fun c2 => ?_) (fun c2 => ?_))
    ·
      refine (rn_step (e := (.iload_n 3, 52, 3, 0, 0, 0, 0, [])) rfl).mpr ?_
      refine (rn_step (e := (.iconst 2, 53, 0, 0, 0, 0, 0, [])) rfl).mpr ?_
      refine (rn_step (e := (.if_icmp .gt 12, 56, 65, 0, 0, 0, 0, [])) rfl).mpr (And.intro (fun c3 => ?_) (fun c3 => ?_))
      ·
        refine (rn_step (e := (.iconst 0, 66, 0, 0, 0, 0, 0, [])) rfl).mpr ?_
        exact (rn_step (e := (.invokevirtual 94, 69, 53, 2, 500, 0, 5, [0])) rfl).mpr (And.intro ((rn_ks9 (M := M) hM)) ((k1 c1 c2 c3)))
      ·
        refine (rn_step (e := (.iload 4, 58, 4, 0, 0, 0, 0, [])) rfl).mpr ?_
        refine (rn_step (e := (.ifCond .ne 7, 61, 65, 0, 0, 0, 0, [])) rfl).mpr (And.intro (fun q => ?_) (fun q => absurd (by decide) q))
        refine (rn_step (e := (.iconst 1, 62, 0, 0, 0, 0, 0, [])) rfl).mpr ?_
        refine (rn_step (e := (.goto 4, 65, 66, 0, 0, 0, 0, [])) rfl).mpr ?_
        exact (rn_step (e := (.invokevirtual 94, 69, 53, 2, 500, 0, 5, [0])) rfl).mpr (And.intro ((rn_ks9 (M := M) hM)) ((k2 c1 c2 c3)))
    ·
      refine (rn_step (e := (.iconst 0, 66, 0, 0, 0, 0, 0, [])) rfl).mpr ?_
      exact (rn_step (e := (.invokevirtual 94, 69, 53, 2, 500, 0, 5, [0])) rfl).mpr (And.intro ((rn_ks9 (M := M) hM)) ((k3 c1 c2)))
  ·
    refine (rn_step (e := (.aload_n 0, 20, 0, 0, 0, 0, 0, [])) rfl).mpr ?_
    refine (rn_step (e := (.getfield 12, 23, 4, 0, 116, 2, 5, [])) rfl).mpr (And.intro ((rn_ks9 (M := M) hM)) (rn_cg (rn_g9_0 (M := M) hM) ?_))
    refine (rn_step (e := (.aload_n 0, 24, 0, 0, 0, 0, 0, [])) rfl).mpr ?_
    refine (rn_step (e := (.getfield 61, 27, 4, 1, 118, 0, 5, [])) rfl).mpr (And.intro ((rn_ks9 (M := M) hM)) (?_))
    refine (rn_step (e := (.invokevirtual 98, 30, 85, 2, 427, 0, 8, [0])) rfl).mpr (And.intro ((rn_ks10 (M := M) hM)) ((rc_Te_signAt hM ((hr2 c1)) ?_)))
    refine (rn_step (e := (.bipush 48, 32, 0, 0, 0, 0, 0, [])) rfl).mpr ?_
    refine (rn_step (e := (.if_icmp .ne 7, 35, 39, 0, 0, 0, 0, [])) rfl).mpr (And.intro (fun c2 => ?_) (fun c2 => ?_))
    ·
      refine (rn_step (e := (.iconst 1, 36, 0, 0, 0, 0, 0, [])) rfl).mpr ?_
      refine (rn_step (e := (.goto 4, 39, 40, 0, 0, 0, 0, [])) rfl).mpr ?_
      refine (rn_step (e := (.istore 4, 42, 4, 0, 0, 0, 0, [])) rfl).mpr ?_
      refine (rn_step (e := (.aload_n 0, 43, 0, 0, 0, 0, 0, [])) rfl).mpr ?_
      refine (rn_step (e := (.aload_n 0, 44, 0, 0, 0, 0, 0, [])) rfl).mpr ?_
      refine (rn_step (e := (.getfield 32, 47, 4, 3, 120, 0, 5, [])) rfl).mpr (And.intro ((rn_ks9 (M := M) hM)) (?_))
      refine (rn_step (e := (.iconst 2, 48, 0, 0, 0, 0, 0, [])) rfl).mpr ?_
      refine (rn_step (e := (.if_icmp .ne 17, 51, 65, 0, 0, 0, 0, [])) rfl).mpr (And.intro (fun c3 => ?_) (fun c3 => ?_))
      ·
        refine (rn_step (e := (.iload_n 3, 52, 3, 0, 0, 0, 0, [])) rfl).mpr ?_
        refine (rn_step (e := (.iconst 2, 53, 0, 0, 0, 0, 0, [])) rfl).mpr ?_
        refine (rn_step (e := (.if_icmp .gt 12, 56, 65, 0, 0, 0, 0, [])) rfl).mpr (And.intro (fun c4 => ?_) (fun c4 => ?_))
        ·
          refine (rn_step (e := (.iconst 0, 66, 0, 0, 0, 0, 0, [])) rfl).mpr ?_
          exact (rn_step (e := (.invokevirtual 94, 69, 53, 2, 500, 0, 5, [0])) rfl).mpr (And.intro ((rn_ks9 (M := M) hM)) ((k4 c1 c2 c3 c4)))
        ·
          refine (rn_step (e := (.iload 4, 58, 4, 0, 0, 0, 0, [])) rfl).mpr ?_
          refine (rn_step (e := (.ifCond .ne 7, 61, 65, 0, 0, 0, 0, [])) rfl).mpr (And.intro (fun q => absurd q (by decide)) (fun q => ?_))
          refine (rn_step (e := (.iconst 0, 66, 0, 0, 0, 0, 0, [])) rfl).mpr ?_
          exact (rn_step (e := (.invokevirtual 94, 69, 53, 2, 500, 0, 5, [0])) rfl).mpr (And.intro ((rn_ks9 (M := M) hM)) ((k5 c1 c2 c3 c4)))
      ·
        refine (rn_step (e := (.iconst 0, 66, 0, 0, 0, 0, 0, [])) rfl).mpr ?_
        exact (rn_step (e := (.invokevirtual 94, 69, 53, 2, 500, 0, 5, [0])) rfl).mpr (And.intro ((rn_ks9 (M := M) hM)) ((k6 c1 c2 c3)))
    ·
      refine (rn_step (e := (.iconst 0, 40, 0, 0, 0, 0, 0, [])) rfl).mpr ?_
      refine (rn_step (e := (.istore 4, 42, 4, 0, 0, 0, 0, [])) rfl).mpr ?_
      refine (rn_step (e := (.aload_n 0, 43, 0, 0, 0, 0, 0, [])) rfl).mpr ?_
      refine (rn_step (e := (.aload_n 0, 44, 0, 0, 0, 0, 0, [])) rfl).mpr ?_
      refine (rn_step (e := (.getfield 32, 47, 4, 3, 120, 0, 5, [])) rfl).mpr (And.intro ((rn_ks9 (M := M) hM)) (?_))
      refine (rn_step (e := (.iconst 2, 48, 0, 0, 0, 0, 0, [])) rfl).mpr ?_
      refine (rn_step (e := (.if_icmp .ne 17, 51, 65, 0, 0, 0, 0, [])) rfl).mpr (And.intro (fun c3 => ?_) (fun c3 => ?_))
      ·
        refine (rn_step (e := (.iload_n 3, 52, 3, 0, 0, 0, 0, [])) rfl).mpr ?_
        refine (rn_step (e := (.iconst 2, 53, 0, 0, 0, 0, 0, [])) rfl).mpr ?_
        refine (rn_step (e := (.if_icmp .gt 12, 56, 65, 0, 0, 0, 0, [])) rfl).mpr (And.intro (fun c4 => ?_) (fun c4 => ?_))
        ·
          refine (rn_step (e := (.iconst 0, 66, 0, 0, 0, 0, 0, [])) rfl).mpr ?_
          exact (rn_step (e := (.invokevirtual 94, 69, 53, 2, 500, 0, 5, [0])) rfl).mpr (And.intro ((rn_ks9 (M := M) hM)) ((k7 c1 c2 c3 c4)))
        ·
          refine (rn_step (e := (.iload 4, 58, 4, 0, 0, 0, 0, [])) rfl).mpr ?_
          refine (rn_step (e := (.ifCond .ne 7, 61, 65, 0, 0, 0, 0, [])) rfl).mpr (And.intro (fun q => ?_) (fun q => absurd (by decide) q))
          refine (rn_step (e := (.iconst 1, 62, 0, 0, 0, 0, 0, [])) rfl).mpr ?_
          refine (rn_step (e := (.goto 4, 65, 66, 0, 0, 0, 0, [])) rfl).mpr ?_
          exact (rn_step (e := (.invokevirtual 94, 69, 53, 2, 500, 0, 5, [0])) rfl).mpr (And.intro ((rn_ks9 (M := M) hM)) ((k8 c1 c2 c3 c4)))
      ·
        refine (rn_step (e := (.iconst 0, 66, 0, 0, 0, 0, 0, [])) rfl).mpr ?_
        exact (rn_step (e := (.invokevirtual 94, 69, 53, 2, 500, 0, 5, [0])) rfl).mpr (And.intro ((rn_ks9 (M := M) hM)) ((k9 c1 c2 c3)))
set_option maxRecDepth 4000 in
theorem rb_Re_readNumber_69 {M : rn_M} {Q : rn_Q} {vl1 : rn_V} {vl2 : rn_V} {vl3 : rn_V} {vl4 : rn_V} {vl5 : rn_V} {vl6 : rn_V} (hM : rn_sh M)   (k1 : rn_WP 51 78 [rn_R 9, vl1, vl2, vl3, vl4, rn_I 0, rn_I (rn_gi M 9 1)] [] M Q) : rn_WP 51 69 [rn_R 9, vl1, vl2, vl3, vl4, vl5, vl6] [] M Q := by
  refine (rn_step (e := (.iconst 0, 70, 0, 0, 0, 0, 0, [])) rfl).mpr ?_
  refine (rn_step (e := (.istore 5, 72, 5, 0, 0, 0, 0, [])) rfl).mpr ?_
  refine (rn_step (e := (.aload_n 0, 73, 0, 0, 0, 0, 0, [])) rfl).mpr ?_
  refine (rn_step (e := (.getfield 61, 76, 4, 1, 118, 0, 5, [])) rfl).mpr (And.intro ((rn_ks9 (M := M) hM)) (?_))
  refine (rn_step (e := (.istore 6, 78, 6, 0, 0, 0, 0, [])) rfl).mpr ?_
  exact k1
set_option maxRecDepth 4000 in
theorem rb_Re_readNumber_78 {M : rn_M} {Q : rn_Q} {xl1 : Int} {xl2 : Int} {vl3 : rn_V} {vl4 : rn_V} {xl5 : Int} {xl6 : Int} (hM : rn_sh M)   (hr1 : (xl6 < rn_gi M 9 2) → (rn_gi M 9 4 = 0) → (-2147483648 : Int) ≤ 10 * xl5 ∧ 10 * xl5 ≤ 2147483647 ∧ (0 ≤ rn_gi M 10 0 ∧ rn_gi M 10 0 ≤ 150) ∧ (-2147483648 : Int) ≤ (10 * xl5) + (rn_sg M xl6) ∧ (10 * xl5) + (rn_sg M xl6) ≤ 2147483647 ∧ (-2147483648 : Int) ≤ ((10 * xl5) + (rn_sg M xl6)) - 48 ∧ ((10 * xl5) + (rn_sg M xl6)) - 48 ≤ 2147483647 ∧ (-2147483648 : Int) ≤ xl6 + 1 ∧ xl6 + 1 ≤ 2147483647) (k1 : (xl6 < rn_gi M 9 2) → (rn_gi M 9 4 = 0) → rn_WP 51 78 [rn_R 9, rn_I xl1, rn_I xl2, vl3, vl4, rn_I (((10 * xl5) + (rn_sg M xl6)) - 48), rn_I (xl6 + 1)] [] M Q) (k2 : (xl6 < rn_gi M 9 2) → (¬ (rn_gi M 9 4 = 0)) → rn_ME 53 [rn_R 9, rn_I (rn_b (xl1 ≤ xl5 ∧ xl5 ≤ xl2))] M (fun r M1 => rn_WP 51 131 [rn_R 9, rn_I xl1, rn_I xl2, vl3, vl4, rn_I xl5, rn_I xl6] (r.toList ++ []) M1 Q)) (k3 : (¬ (xl6 < rn_gi M 9 2)) → rn_ME 53 [rn_R 9, rn_I (rn_b (xl1 ≤ xl5 ∧ xl5 ≤ xl2))] M (fun r M1 => rn_WP 51 131 [rn_R 9, rn_I xl1, rn_I xl2, vl3, vl4, rn_I xl5, rn_I xl6] (r.toList ++ []) M1 Q)) : rn_WP 51 78 [rn_R 9, rn_I xl1, rn_I xl2, vl3, vl4, rn_I xl5, rn_I xl6] [] M Q := by
  refine (rn_step (e := (.iload 6, 80, 6, 0, 0, 0, 0, [])) rfl).mpr ?_
  refine (rn_step (e := (.aload_n 0, 81, 0, 0, 0, 0, 0, [])) rfl).mpr ?_
  refine (rn_step (e := (.getfield 18, 84, 4, 2, 119, 0, 5, [])) rfl).mpr (And.intro ((rn_ks9 (M := M) hM)) (?_))
  refine (rn_step (e := (.if_icmp .ge 36, 87, 120, 0, 0, 0, 0, [])) rfl).mpr (And.intro (fun c1 => ?_) (fun c1 => ?_))
  ·
    refine (rn_step (e := (.aload_n 0, 88, 0, 0, 0, 0, 0, [])) rfl).mpr ?_
    refine (rn_step (e := (.getfield 22, 91, 4, 4, 121, 1, 5, [])) rfl).mpr (And.intro ((rn_ks9 (M := M) hM)) (?_))
    refine (rn_step (e := (.ifCond .ne 29, 94, 120, 0, 0, 0, 0, [])) rfl).mpr (And.intro (fun c2 => ?_) (fun c2 => ?_))
    ·
      refine (rn_step (e := (.bipush 10, 96, 0, 0, 0, 0, 0, [])) rfl).mpr ?_
      refine (rn_step (e := (.iload 5, 98, 5, 0, 0, 0, 0, [])) rfl).mpr ?_
      refine (rn_step (e := (.imul, 99, 0, 0, 0, 0, 0, [])) rfl).mpr (rn_cw (hr1 c1 c2).1 (hr1 c1 c2).2.1 ?_)
      refine (rn_step (e := (.aload_n 0, 100, 0, 0, 0, 0, 0, [])) rfl).mpr ?_
      refine (rn_step (e := (.getfield 12, 103, 4, 0, 116, 2, 5, [])) rfl).mpr (And.intro ((rn_ks9 (M := M) hM)) (rn_cg (rn_g9_0 (M := M) hM) ?_))
      refine (rn_step (e := (.iload 6, 105, 6, 0, 0, 0, 0, [])) rfl).mpr ?_
      refine (rn_step (e := (.invokevirtual 98, 108, 85, 2, 427, 0, 8, [0])) rfl).mpr (And.intro ((rn_ks10 (M := M) hM)) ((rc_Te_signAt hM ((hr1 c1 c2).2.2.1) ?_)))
      refine (rn_step (e := (.iadd, 109, 0, 0, 0, 0, 0, [])) rfl).mpr (rn_cw (hr1 c1 c2).2.2.2.1 (hr1 c1 c2).2.2.2.2.1 ?_)
      refine (rn_step (e := (.bipush 48, 111, 0, 0, 0, 0, 0, [])) rfl).mpr ?_
      refine (rn_step (e := (.isub, 112, 0, 0, 0, 0, 0, [])) rfl).mpr (rn_cw (hr1 c1 c2).2.2.2.2.2.1 (hr1 c1 c2).2.2.2.2.2.2.1 ?_)
      refine (rn_step (e := (.istore 5, 114, 5, 0, 0, 0, 0, [])) rfl).mpr ?_
      refine (rn_step (e := (.iinc 6 1, 117, 6, 0, 0, 0, 0, [])) rfl).mpr (rn_ci (hr1 c1 c2).2.2.2.2.2.2.2.1 (hr1 c1 c2).2.2.2.2.2.2.2.2 ?_)
      refine (rn_step (e := (.goto (-39), 120, 78, 0, 0, 0, 0, [])) rfl).mpr ?_
      exact (k1 c1 c2)
    ·
      refine (rn_step (e := (.aload_n 0, 121, 0, 0, 0, 0, 0, [])) rfl).mpr ?_
      refine (rn_step (e := (.iload 5, 123, 5, 0, 0, 0, 0, [])) rfl).mpr ?_
      refine (rn_step (e := (.iload_n 1, 124, 1, 0, 0, 0, 0, [])) rfl).mpr ?_
      refine (rn_step (e := (.iload_n 2, 125, 2, 0, 0, 0, 0, [])) rfl).mpr ?_
      refine (rn_step (e := (.invokestatic 110, 128, 118, 3, 7, 0, 10, [1])) rfl).mpr (rc_RN_within  ?_)
      exact (rn_step (e := (.invokevirtual 94, 131, 53, 2, 500, 0, 5, [0])) rfl).mpr (And.intro ((rn_ks9 (M := M) hM)) ((k2 c1 c2)))
  ·
    refine (rn_step (e := (.aload_n 0, 121, 0, 0, 0, 0, 0, [])) rfl).mpr ?_
    refine (rn_step (e := (.iload 5, 123, 5, 0, 0, 0, 0, [])) rfl).mpr ?_
    refine (rn_step (e := (.iload_n 1, 124, 1, 0, 0, 0, 0, [])) rfl).mpr ?_
    refine (rn_step (e := (.iload_n 2, 125, 2, 0, 0, 0, 0, [])) rfl).mpr ?_
    refine (rn_step (e := (.invokestatic 110, 128, 118, 3, 7, 0, 10, [1])) rfl).mpr (rc_RN_within  ?_)
    exact (rn_step (e := (.invokevirtual 94, 131, 53, 2, 500, 0, 5, [0])) rfl).mpr (And.intro ((rn_ks9 (M := M) hM)) ((k3 c1)))
set_option maxRecDepth 4000 in
theorem rb_Re_readNumber_131 {M : rn_M} {Q : rn_Q} {xl1 : Int} {vl2 : rn_V} {vl3 : rn_V} {vl4 : rn_V} {xl5 : Int} {vl6 : rn_V} (hM : rn_sh M)   (k1 : (rn_gi M 9 4 = 0) → Q (some (rn_I xl5)) M) (k2 : (¬ (rn_gi M 9 4 = 0)) → Q (some (rn_I xl1)) M) : rn_WP 51 131 [rn_R 9, rn_I xl1, vl2, vl3, vl4, rn_I xl5, vl6] [] M Q := by
  refine (rn_step (e := (.aload_n 0, 132, 0, 0, 0, 0, 0, [])) rfl).mpr ?_
  refine (rn_step (e := (.getfield 22, 135, 4, 4, 121, 1, 5, [])) rfl).mpr (And.intro ((rn_ks9 (M := M) hM)) (?_))
  refine (rn_step (e := (.ifCond .eq 7, 138, 142, 0, 0, 0, 0, [])) rfl).mpr (And.intro (fun c1 => ?_) (fun c1 => ?_))
  ·
    refine (rn_step (e := (.iload 5, 144, 5, 0, 0, 0, 0, [])) rfl).mpr ?_
    exact (rn_step (e := (.ireturn, 145, 0, 0, 0, 0, 0, [])) rfl).mpr (And.intro (trivial) ((k1 c1)))
  ·
    refine (rn_step (e := (.iload_n 1, 139, 1, 0, 0, 0, 0, [])) rfl).mpr ?_
    refine (rn_step (e := (.goto 5, 142, 144, 0, 0, 0, 0, [])) rfl).mpr ?_
    exact (rn_step (e := (.ireturn, 145, 0, 0, 0, 0, 0, [])) rfl).mpr (And.intro (trivial) ((k2 c1)))
theorem re_Re_readSemicolon {M : rn_M} {Q : rn_Q} {v0 : rn_V} (h : rn_WP 52 0 [v0] [] M Q) : rn_ME 52 [v0] M Q := h
set_option maxRecDepth 4000 in
theorem rb_Re_readSemicolon_0 {M : rn_M} {Q : rn_Q}  (hM : rn_sh M)   (k1 : rn_ME 54 [rn_R 9] M (fun r M1 => rn_WP 52 4 [rn_R 9] (r.toList ++ []) M1 Q)) : rn_WP 52 0 [rn_R 9] [] M Q := by
  refine (rn_step (e := (.aload_n 0, 1, 0, 0, 0, 0, 0, [])) rfl).mpr ?_
  exact (rn_step (e := (.invokevirtual 29, 4, 54, 1, 423, 0, 5, [0])) rfl).mpr (And.intro ((rn_ks9 (M := M) hM)) (k1))
set_option maxRecDepth 4000 in
theorem rb_Re_readSemicolon_4 {M : rn_M} {Q : rn_Q}  (hM : rn_sh M)   (hr1 : (0 ≤ rn_gi M 10 0 ∧ rn_gi M 10 0 ≤ 150)) (k1 : (rn_sg M (rn_gi M 9 1) = 59) → rn_ME 53 [rn_R 9, rn_I 1] M (fun r M1 => rn_WP 52 29 [rn_R 9] (r.toList ++ []) M1 Q)) (k2 : (¬ (rn_sg M (rn_gi M 9 1) = 59)) → rn_ME 53 [rn_R 9, rn_I 0] M (fun r M1 => rn_WP 52 29 [rn_R 9] (r.toList ++ []) M1 Q)) : rn_WP 52 4 [rn_R 9] [] M Q := by
  refine (rn_step (e := (.aload_n 0, 5, 0, 0, 0, 0, 0, [])) rfl).mpr ?_
  refine (rn_step (e := (.aload_n 0, 6, 0, 0, 0, 0, 0, [])) rfl).mpr ?_
  refine (rn_step (e := (.getfield 12, 9, 4, 0, 116, 2, 5, [])) rfl).mpr (And.intro ((rn_ks9 (M := M) hM)) (rn_cg (rn_g9_0 (M := M) hM) ?_))
  refine (rn_step (e := (.aload_n 0, 10, 0, 0, 0, 0, 0, [])) rfl).mpr ?_
  refine (rn_step (e := (.getfield 61, 13, 4, 1, 118, 0, 5, [])) rfl).mpr (And.intro ((rn_ks9 (M := M) hM)) (?_))
  refine (rn_step (e := (.invokevirtual 98, 16, 85, 2, 427, 0, 8, [0])) rfl).mpr (And.intro ((rn_ks10 (M := M) hM)) ((rc_Te_signAt hM (hr1) ?_)))
  refine (rn_step (e := (.bipush 59, 18, 0, 0, 0, 0, 0, [])) rfl).mpr ?_
  refine (rn_step (e := (.if_icmp .ne 7, 21, 25, 0, 0, 0, 0, [])) rfl).mpr (And.intro (fun c1 => ?_) (fun c1 => ?_))
  ·
    refine (rn_step (e := (.iconst 1, 22, 0, 0, 0, 0, 0, [])) rfl).mpr ?_
    refine (rn_step (e := (.goto 4, 25, 26, 0, 0, 0, 0, [])) rfl).mpr ?_
    exact (rn_step (e := (.invokevirtual 94, 29, 53, 2, 500, 0, 5, [0])) rfl).mpr (And.intro ((rn_ks9 (M := M) hM)) ((k1 c1)))
  ·
    refine (rn_step (e := (.iconst 0, 26, 0, 0, 0, 0, 0, [])) rfl).mpr ?_
    exact (rn_step (e := (.invokevirtual 94, 29, 53, 2, 500, 0, 5, [0])) rfl).mpr (And.intro ((rn_ks9 (M := M) hM)) ((k2 c1)))
set_option maxRecDepth 4000 in
theorem rb_Re_readSemicolon_29 {M : rn_M} {Q : rn_Q} {vl0 : rn_V}   (k1 : Q none M) : rn_WP 52 29 [vl0] [] M Q := by
  exact (rn_step (e := (.return_, 30, 0, 0, 0, 0, 0, [])) rfl).mpr k1
theorem re_Re_refuseUnless {M : rn_M} {Q : rn_Q} {v0 v1 : rn_V} (h : rn_WP 53 0 [v0, v1] [] M Q) : rn_ME 53 [v0, v1] M Q := h
set_option maxRecDepth 4000 in
theorem rb_Re_refuseUnless_0 {M : rn_M} {Q : rn_Q} {xl1 : Int} (hM : rn_sh M)   (k1 : (rn_gi M 9 4 = 0) → (xl1 = 0) → Q none (rn_si M 9 4 1)) (k2 : (rn_gi M 9 4 = 0) → (¬ (xl1 = 0)) → Q none (rn_si M 9 4 0)) (k3 : (¬ (rn_gi M 9 4 = 0)) → Q none (rn_si M 9 4 1)) : rn_WP 53 0 [rn_R 9, rn_I xl1] [] M Q := by
  refine (rn_step (e := (.aload_n 0, 1, 0, 0, 0, 0, 0, [])) rfl).mpr ?_
  refine (rn_step (e := (.aload_n 0, 2, 0, 0, 0, 0, 0, [])) rfl).mpr ?_
  refine (rn_step (e := (.getfield 22, 5, 4, 4, 121, 1, 5, [])) rfl).mpr (And.intro ((rn_ks9 (M := M) hM)) (?_))
  refine (rn_step (e := (.ifCond .ne 7, 8, 12, 0, 0, 0, 0, [])) rfl).mpr (And.intro (fun c1 => ?_) (fun c1 => ?_))
  ·
    refine (rn_step (e := (.iload_n 1, 9, 1, 0, 0, 0, 0, [])) rfl).mpr ?_
    refine (rn_step (e := (.ifCond .ne 7, 12, 16, 0, 0, 0, 0, [])) rfl).mpr (And.intro (fun c2 => ?_) (fun c2 => ?_))
    ·
      refine (rn_step (e := (.iconst 1, 13, 0, 0, 0, 0, 0, [])) rfl).mpr ?_
      refine (rn_step (e := (.goto 4, 16, 17, 0, 0, 0, 0, [])) rfl).mpr ?_
      refine (rn_step (e := (.putfield 22, 20, 4, 4, 121, 1, 5, [])) rfl).mpr (And.intro ((Or.inr rfl)) (And.intro ((rn_ks9 (M := M) hM)) (?_)))
      exact (rn_step (e := (.return_, 21, 0, 0, 0, 0, 0, [])) rfl).mpr (k1 c1 c2)
    ·
      refine (rn_step (e := (.iconst 0, 17, 0, 0, 0, 0, 0, [])) rfl).mpr ?_
      refine (rn_step (e := (.putfield 22, 20, 4, 4, 121, 1, 5, [])) rfl).mpr (And.intro ((Or.inl rfl)) (And.intro ((rn_ks9 (M := M) hM)) (?_)))
      exact (rn_step (e := (.return_, 21, 0, 0, 0, 0, 0, [])) rfl).mpr (k2 c1 c2)
  ·
    refine (rn_step (e := (.iconst 1, 13, 0, 0, 0, 0, 0, [])) rfl).mpr ?_
    refine (rn_step (e := (.goto 4, 16, 17, 0, 0, 0, 0, [])) rfl).mpr ?_
    refine (rn_step (e := (.putfield 22, 20, 4, 4, 121, 1, 5, [])) rfl).mpr (And.intro ((Or.inr rfl)) (And.intro ((rn_ks9 (M := M) hM)) (?_)))
    exact (rn_step (e := (.return_, 21, 0, 0, 0, 0, 0, [])) rfl).mpr (k3 c1)
theorem re_Re_nextToken {M : rn_M} {Q : rn_Q} {v0 : rn_V} (h : rn_WP 54 0 [v0] [] M Q) : rn_ME 54 [v0] M Q := h
set_option maxRecDepth 4000 in
theorem rb_Re_nextToken_0 {M : rn_M} {Q : rn_Q}  (hM : rn_sh M)   (k1 : (rn_gi M 9 4 = 0) → rn_WP 54 16 [rn_R 9] [] (rn_si M 9 1 (rn_gi M 9 2)) Q) (k2 : (¬ (rn_gi M 9 4 = 0)) → Q none M) : rn_WP 54 0 [rn_R 9] [] M Q := by
  refine (rn_step (e := (.aload_n 0, 1, 0, 0, 0, 0, 0, [])) rfl).mpr ?_
  refine (rn_step (e := (.getfield 22, 4, 4, 4, 121, 1, 5, [])) rfl).mpr (And.intro ((rn_ks9 (M := M) hM)) (?_))
  refine (rn_step (e := (.ifCond .eq 4, 7, 8, 0, 0, 0, 0, [])) rfl).mpr (And.intro (fun c1 => ?_) (fun c1 => ?_))
  ·
    refine (rn_step (e := (.aload_n 0, 9, 0, 0, 0, 0, 0, [])) rfl).mpr ?_
    refine (rn_step (e := (.aload_n 0, 10, 0, 0, 0, 0, 0, [])) rfl).mpr ?_
    refine (rn_step (e := (.getfield 18, 13, 4, 2, 119, 0, 5, [])) rfl).mpr (And.intro ((rn_ks9 (M := M) hM)) (?_))
    refine (rn_step (e := (.putfield 61, 16, 4, 1, 118, 0, 5, [])) rfl).mpr (And.intro ((rn_ks9 (M := M) hM)) (?_))
    exact (k1 c1)
  ·
    exact (rn_step (e := (.return_, 8, 0, 0, 0, 0, 0, [])) rfl).mpr (k2 c1)
set_option maxRecDepth 4000 in
theorem rb_Re_nextToken_16 {M : rn_M} {Q : rn_Q}  (hM : rn_sh M)   (hr1 : (rn_gi M 9 1 < rn_gi M 10 0) → (0 ≤ rn_gi M 10 0 ∧ rn_gi M 10 0 ≤ 150)) (hr2 : (rn_gi M 9 1 < rn_gi M 10 0) → (rn_sg M (rn_gi M 9 1) = 32) → (-2147483648 : Int) ≤ rn_gi M 9 1 + 1 ∧ rn_gi M 9 1 + 1 ≤ 2147483647) (hr3 : (rn_gi M 9 1 < rn_gi M 10 0) → (¬ (rn_sg M (rn_gi M 9 1) = 32)) → (0 ≤ rn_gi M 10 0 ∧ rn_gi M 10 0 ≤ 150) ∧ (-2147483648 : Int) ≤ rn_gi M 9 1 + 1 ∧ rn_gi M 9 1 + 1 ≤ 2147483647) (hr4 : (¬ (rn_gi M 9 1 < rn_gi M 10 0)) → (0 ≤ rn_gi M 10 0 ∧ rn_gi M 10 0 ≤ 150) ∧ (-2147483648 : Int) ≤ rn_gi M 9 1 + 1 ∧ rn_gi M 9 1 + 1 ≤ 2147483647) (k1 : (rn_gi M 9 1 < rn_gi M 10 0) → (rn_sg M (rn_gi M 9 1) = 32) → rn_WP 54 16 [rn_R 9] [] (rn_si M 9 1 (rn_gi M 9 1 + 1)) Q) (k2 : (rn_gi M 9 1 < rn_gi M 10 0) → (¬ (rn_sg M (rn_gi M 9 1) = 32)) → (rn_ko (rn_sg M (rn_gi M 9 1)) = 1) → rn_WP 54 113 [rn_R 9] [] (rn_si (rn_si M 9 3 (rn_ko (rn_sg M (rn_gi M 9 1)))) 9 2 (min (rn_gi M 9 1 + 1) (rn_gi M 10 0))) Q) (k3 : (rn_gi M 9 1 < rn_gi M 10 0) → (¬ (rn_sg M (rn_gi M 9 1) = 32)) → (¬ (rn_ko (rn_sg M (rn_gi M 9 1)) = 1)) → (rn_ko (rn_sg M (rn_gi M 9 1)) = 2) → rn_WP 54 113 [rn_R 9] [] (rn_si (rn_si M 9 3 (rn_ko (rn_sg M (rn_gi M 9 1)))) 9 2 (min (rn_gi M 9 1 + 1) (rn_gi M 10 0))) Q) (k4 : (rn_gi M 9 1 < rn_gi M 10 0) → (¬ (rn_sg M (rn_gi M 9 1) = 32)) → (¬ (rn_ko (rn_sg M (rn_gi M 9 1)) = 1)) → (¬ (rn_ko (rn_sg M (rn_gi M 9 1)) = 2)) → Q none (rn_si (rn_si M 9 3 (rn_ko (rn_sg M (rn_gi M 9 1)))) 9 2 (min (rn_gi M 9 1 + 1) (rn_gi M 10 0)))) (k5 : (¬ (rn_gi M 9 1 < rn_gi M 10 0)) → (rn_ko (rn_sg M (rn_gi M 9 1)) = 1) → rn_WP 54 113 [rn_R 9] [] (rn_si (rn_si M 9 3 (rn_ko (rn_sg M (rn_gi M 9 1)))) 9 2 (min (rn_gi M 9 1 + 1) (rn_gi M 10 0))) Q) (k6 : (¬ (rn_gi M 9 1 < rn_gi M 10 0)) → (¬ (rn_ko (rn_sg M (rn_gi M 9 1)) = 1)) → (rn_ko (rn_sg M (rn_gi M 9 1)) = 2) → rn_WP 54 113 [rn_R 9] [] (rn_si (rn_si M 9 3 (rn_ko (rn_sg M (rn_gi M 9 1)))) 9 2 (min (rn_gi M 9 1 + 1) (rn_gi M 10 0))) Q) (k7 : (¬ (rn_gi M 9 1 < rn_gi M 10 0)) → (¬ (rn_ko (rn_sg M (rn_gi M 9 1)) = 1)) → (¬ (rn_ko (rn_sg M (rn_gi M 9 1)) = 2)) → Q none (rn_si (rn_si M 9 3 (rn_ko (rn_sg M (rn_gi M 9 1)))) 9 2 (min (rn_gi M 9 1 + 1) (rn_gi M 10 0)))) : rn_WP 54 16 [rn_R 9] [] M Q := by
  refine (rn_step (e := (.aload_n 0, 17, 0, 0, 0, 0, 0, [])) rfl).mpr ?_
  refine (rn_step (e := (.getfield 61, 20, 4, 1, 118, 0, 5, [])) rfl).mpr (And.intro ((rn_ks9 (M := M) hM)) (?_))
  refine (rn_step (e := (.aload_n 0, 21, 0, 0, 0, 0, 0, [])) rfl).mpr ?_
  refine (rn_step (e := (.getfield 12, 24, 4, 0, 116, 2, 5, [])) rfl).mpr (And.intro ((rn_ks9 (M := M) hM)) (rn_cg (rn_g9_0 (M := M) hM) ?_))
  refine (rn_step (e := (.getfield 26, 27, 7, 0, 107, 0, 8, [])) rfl).mpr (And.intro ((rn_ks10 (M := M) hM)) (?_))
  refine (rn_step (e := (.if_icmp .ge 32, 30, 59, 0, 0, 0, 0, [])) rfl).mpr (And.intro (fun c1 => ?_) (fun c1 => ?_))
  ·
    refine (rn_step (e := (.aload_n 0, 31, 0, 0, 0, 0, 0, [])) rfl).mpr ?_
    refine (rn_step (e := (.getfield 12, 34, 4, 0, 116, 2, 5, [])) rfl).mpr (And.intro ((rn_ks9 (M := M) hM)) (rn_cg (rn_g9_0 (M := M) hM) ?_))
    refine (rn_step (e := (.aload_n 0, 35, 0, 0, 0, 0, 0, [])) rfl).mpr ?_
    refine (rn_step (e := (.getfield 61, 38, 4, 1, 118, 0, 5, [])) rfl).mpr (And.intro ((rn_ks9 (M := M) hM)) (?_))
    refine (rn_step (e := (.invokevirtual 98, 41, 85, 2, 427, 0, 8, [0])) rfl).mpr (And.intro ((rn_ks10 (M := M) hM)) ((rc_Te_signAt hM ((hr1 c1)) ?_)))
    refine (rn_step (e := (.bipush 32, 43, 0, 0, 0, 0, 0, [])) rfl).mpr ?_
    refine (rn_step (e := (.if_icmp .ne 16, 46, 59, 0, 0, 0, 0, [])) rfl).mpr (And.intro (fun c2 => ?_) (fun c2 => ?_))
    ·
      refine (rn_step (e := (.aload_n 0, 47, 0, 0, 0, 0, 0, [])) rfl).mpr ?_
      refine (rn_step (e := (.dup, 48, 0, 0, 0, 0, 0, [])) rfl).mpr ?_
      refine (rn_step (e := (.getfield 61, 51, 4, 1, 118, 0, 5, [])) rfl).mpr (And.intro ((rn_ks9 (M := M) hM)) (?_))
      refine (rn_step (e := (.iconst 1, 52, 0, 0, 0, 0, 0, [])) rfl).mpr ?_
      refine (rn_step (e := (.iadd, 53, 0, 0, 0, 0, 0, [])) rfl).mpr (rn_cw (hr2 c1 c2).1 (hr2 c1 c2).2 ?_)
      refine (rn_step (e := (.putfield 61, 56, 4, 1, 118, 0, 5, [])) rfl).mpr (And.intro ((rn_ks9 (M := M) hM)) (?_))
      refine (rn_step (e := (.goto (-40), 59, 16, 0, 0, 0, 0, [])) rfl).mpr ?_
      exact (k1 c1 c2)
    ·
      refine (rn_step (e := (.aload_n 0, 60, 0, 0, 0, 0, 0, [])) rfl).mpr ?_
      refine (rn_step (e := (.aload_n 0, 61, 0, 0, 0, 0, 0, [])) rfl).mpr ?_
      refine (rn_step (e := (.getfield 12, 64, 4, 0, 116, 2, 5, [])) rfl).mpr (And.intro ((rn_ks9 (M := M) hM)) (rn_cg (rn_g9_0 (M := M) hM) ?_))
      refine (rn_step (e := (.aload_n 0, 65, 0, 0, 0, 0, 0, [])) rfl).mpr ?_
      refine (rn_step (e := (.getfield 61, 68, 4, 1, 118, 0, 5, [])) rfl).mpr (And.intro ((rn_ks9 (M := M) hM)) (?_))
      refine (rn_step (e := (.invokevirtual 98, 71, 85, 2, 427, 0, 8, [0])) rfl).mpr (And.intro ((rn_ks10 (M := M) hM)) ((rc_Te_signAt hM ((hr3 c1 c2).1) ?_)))
      refine (rn_step (e := (.invokestatic 114, 74, 55, 1, 431, 0, 5, [0])) rfl).mpr (rc_Re_kindOf  ?_)
      refine (rn_step (e := (.putfield 32, 77, 4, 3, 120, 0, 5, [])) rfl).mpr (And.intro ((rn_ks9 (M := M) hM)) (?_))
      refine (rn_step (e := (.aload_n 0, 78, 0, 0, 0, 0, 0, [])) rfl).mpr ?_
      refine (rn_step (e := (.aload_n 0, 79, 0, 0, 0, 0, 0, [])) rfl).mpr ?_
      refine (rn_step (e := (.getfield 61, 82, 4, 1, 118, 0, 5, [])) rfl).mpr (And.intro ((rn_ks9 (M := M) hM)) (rn_cv (by rw [rn_si_ne (by omega)]) ?_))
      refine (rn_step (e := (.iconst 1, 83, 0, 0, 0, 0, 0, [])) rfl).mpr ?_
      refine (rn_step (e := (.iadd, 84, 0, 0, 0, 0, 0, [])) rfl).mpr (rn_cw (hr3 c1 c2).2.1 (hr3 c1 c2).2.2 ?_)
      refine (rn_step (e := (.aload_n 0, 85, 0, 0, 0, 0, 0, [])) rfl).mpr ?_
      refine (rn_step (e := (.getfield 12, 88, 4, 0, 116, 2, 5, [])) rfl).mpr (And.intro ((rn_ks9 (M := M) hM)) (rn_cg (rn_g9_0 (M := M) hM) ?_))
      refine (rn_step (e := (.getfield 26, 91, 7, 0, 107, 0, 8, [])) rfl).mpr (And.intro ((rn_ks10 (M := M) hM)) (rn_cv (by rw [rn_si_gif (a := 9) (b := 10) (by decide)]) ?_))
      refine (rn_step (e := (.invokestatic 83, 94, 206, 2, 435, 6, 0, [0])) rfl).mpr ?_
      refine (rn_step (e := (.putfield 18, 97, 4, 2, 119, 0, 5, [])) rfl).mpr (And.intro ((rn_ks9 (M := M) hM)) (?_))
      refine (rn_step (e := (.aload_n 0, 98, 0, 0, 0, 0, 0, [])) rfl).mpr ?_
      refine (rn_step (e := (.getfield 32, 101, 4, 3, 120, 0, 5, [])) rfl).mpr (And.intro ((rn_ks9 (M := M) hM)) (rn_cv (by rw [rn_si_ne (by omega), rn_si_eq]) ?_))
      refine (rn_step (e := (.iconst 1, 102, 0, 0, 0, 0, 0, [])) rfl).mpr ?_
      refine (rn_step (e := (.if_icmp .eq 11, 105, 113, 0, 0, 0, 0, [])) rfl).mpr (And.intro (fun c3 => ?_) (fun c3 => ?_))
      ·
        exact (k2 c1 c2 c3)
      ·
        refine (rn_step (e := (.aload_n 0, 106, 0, 0, 0, 0, 0, [])) rfl).mpr ?_
        refine (rn_step (e := (.getfield 32, 109, 4, 3, 120, 0, 5, [])) rfl).mpr (And.intro ((rn_ks9 (M := M) hM)) (rn_cv (by rw [rn_si_ne (by omega), rn_si_eq]) ?_))
        refine (rn_step (e := (.iconst 2, 110, 0, 0, 0, 0, 0, [])) rfl).mpr ?_
        refine (rn_step (e := (.if_icmp .ne 51, 113, 161, 0, 0, 0, 0, [])) rfl).mpr (And.intro (fun c4 => ?_) (fun c4 => ?_))
        ·
          exact (k3 c1 c2 c3 c4)
        ·
          exact (rn_step (e := (.return_, 162, 0, 0, 0, 0, 0, [])) rfl).mpr (k4 c1 c2 c3 c4)
  ·
    refine (rn_step (e := (.aload_n 0, 60, 0, 0, 0, 0, 0, [])) rfl).mpr ?_
    refine (rn_step (e := (.aload_n 0, 61, 0, 0, 0, 0, 0, [])) rfl).mpr ?_
    refine (rn_step (e := (.getfield 12, 64, 4, 0, 116, 2, 5, [])) rfl).mpr (And.intro ((rn_ks9 (M := M) hM)) (rn_cg (rn_g9_0 (M := M) hM) ?_))
    refine (rn_step (e := (.aload_n 0, 65, 0, 0, 0, 0, 0, [])) rfl).mpr ?_
    refine (rn_step (e := (.getfield 61, 68, 4, 1, 118, 0, 5, [])) rfl).mpr (And.intro ((rn_ks9 (M := M) hM)) (?_))
    refine (rn_step (e := (.invokevirtual 98, 71, 85, 2, 427, 0, 8, [0])) rfl).mpr (And.intro ((rn_ks10 (M := M) hM)) ((rc_Te_signAt hM ((hr4 c1).1) ?_)))
    refine (rn_step (e := (.invokestatic 114, 74, 55, 1, 431, 0, 5, [0])) rfl).mpr (rc_Re_kindOf  ?_)
    refine (rn_step (e := (.putfield 32, 77, 4, 3, 120, 0, 5, [])) rfl).mpr (And.intro ((rn_ks9 (M := M) hM)) (?_))
    refine (rn_step (e := (.aload_n 0, 78, 0, 0, 0, 0, 0, [])) rfl).mpr ?_
    refine (rn_step (e := (.aload_n 0, 79, 0, 0, 0, 0, 0, [])) rfl).mpr ?_
    refine (rn_step (e := (.getfield 61, 82, 4, 1, 118, 0, 5, [])) rfl).mpr (And.intro ((rn_ks9 (M := M) hM)) (rn_cv (by rw [rn_si_ne (by omega)]) ?_))
    refine (rn_step (e := (.iconst 1, 83, 0, 0, 0, 0, 0, [])) rfl).mpr ?_
    refine (rn_step (e := (.iadd, 84, 0, 0, 0, 0, 0, [])) rfl).mpr (rn_cw (hr4 c1).2.1 (hr4 c1).2.2 ?_)
    refine (rn_step (e := (.aload_n 0, 85, 0, 0, 0, 0, 0, [])) rfl).mpr ?_
    refine (rn_step (e := (.getfield 12, 88, 4, 0, 116, 2, 5, [])) rfl).mpr (And.intro ((rn_ks9 (M := M) hM)) (rn_cg (rn_g9_0 (M := M) hM) ?_))
    refine (rn_step (e := (.getfield 26, 91, 7, 0, 107, 0, 8, [])) rfl).mpr (And.intro ((rn_ks10 (M := M) hM)) (rn_cv (by rw [rn_si_gif (a := 9) (b := 10) (by decide)]) ?_))
    refine (rn_step (e := (.invokestatic 83, 94, 206, 2, 435, 6, 0, [0])) rfl).mpr ?_
    refine (rn_step (e := (.putfield 18, 97, 4, 2, 119, 0, 5, [])) rfl).mpr (And.intro ((rn_ks9 (M := M) hM)) (?_))
    refine (rn_step (e := (.aload_n 0, 98, 0, 0, 0, 0, 0, [])) rfl).mpr ?_
    refine (rn_step (e := (.getfield 32, 101, 4, 3, 120, 0, 5, [])) rfl).mpr (And.intro ((rn_ks9 (M := M) hM)) (rn_cv (by rw [rn_si_ne (by omega), rn_si_eq]) ?_))
    refine (rn_step (e := (.iconst 1, 102, 0, 0, 0, 0, 0, [])) rfl).mpr ?_
    refine (rn_step (e := (.if_icmp .eq 11, 105, 113, 0, 0, 0, 0, [])) rfl).mpr (And.intro (fun c2 => ?_) (fun c2 => ?_))
    ·
      exact (k5 c1 c2)
    ·
      refine (rn_step (e := (.aload_n 0, 106, 0, 0, 0, 0, 0, [])) rfl).mpr ?_
      refine (rn_step (e := (.getfield 32, 109, 4, 3, 120, 0, 5, [])) rfl).mpr (And.intro ((rn_ks9 (M := M) hM)) (rn_cv (by rw [rn_si_ne (by omega), rn_si_eq]) ?_))
      refine (rn_step (e := (.iconst 2, 110, 0, 0, 0, 0, 0, [])) rfl).mpr ?_
      refine (rn_step (e := (.if_icmp .ne 51, 113, 161, 0, 0, 0, 0, [])) rfl).mpr (And.intro (fun c3 => ?_) (fun c3 => ?_))
      ·
        exact (k6 c1 c2 c3)
      ·
        exact (rn_step (e := (.return_, 162, 0, 0, 0, 0, 0, [])) rfl).mpr (k7 c1 c2 c3)
set_option maxRecDepth 4000 in
theorem rb_Re_nextToken_113 {M : rn_M} {Q : rn_Q}  (hM : rn_sh M)   (hr1 : (rn_gi M 9 2 < rn_gi M 10 0) → (0 ≤ rn_gi M 10 0 ∧ rn_gi M 10 0 ≤ 150)) (hr2 : (rn_gi M 9 2 < rn_gi M 10 0) → (rn_ko (rn_sg M (rn_gi M 9 2)) = rn_gi M 9 3) → (-2147483648 : Int) ≤ rn_gi M 9 2 + 1 ∧ rn_gi M 9 2 + 1 ≤ 2147483647) (k1 : (rn_gi M 9 2 < rn_gi M 10 0) → (rn_ko (rn_sg M (rn_gi M 9 2)) = rn_gi M 9 3) → rn_WP 54 113 [rn_R 9] [] (rn_si M 9 2 (rn_gi M 9 2 + 1)) Q) (k2 : (rn_gi M 9 2 < rn_gi M 10 0) → (¬ (rn_ko (rn_sg M (rn_gi M 9 2)) = rn_gi M 9 3)) → Q none M) (k3 : (¬ (rn_gi M 9 2 < rn_gi M 10 0)) → Q none M) : rn_WP 54 113 [rn_R 9] [] M Q := by
  refine (rn_step (e := (.aload_n 0, 114, 0, 0, 0, 0, 0, [])) rfl).mpr ?_
  refine (rn_step (e := (.getfield 18, 117, 4, 2, 119, 0, 5, [])) rfl).mpr (And.intro ((rn_ks9 (M := M) hM)) (?_))
  refine (rn_step (e := (.aload_n 0, 118, 0, 0, 0, 0, 0, [])) rfl).mpr ?_
  refine (rn_step (e := (.getfield 12, 121, 4, 0, 116, 2, 5, [])) rfl).mpr (And.intro ((rn_ks9 (M := M) hM)) (rn_cg (rn_g9_0 (M := M) hM) ?_))
  refine (rn_step (e := (.getfield 26, 124, 7, 0, 107, 0, 8, [])) rfl).mpr (And.intro ((rn_ks10 (M := M) hM)) (?_))
  refine (rn_step (e := (.if_icmp .ge 37, 127, 161, 0, 0, 0, 0, [])) rfl).mpr (And.intro (fun c1 => ?_) (fun c1 => ?_))
  ·
    refine (rn_step (e := (.aload_n 0, 128, 0, 0, 0, 0, 0, [])) rfl).mpr ?_
    refine (rn_step (e := (.getfield 12, 131, 4, 0, 116, 2, 5, [])) rfl).mpr (And.intro ((rn_ks9 (M := M) hM)) (rn_cg (rn_g9_0 (M := M) hM) ?_))
    refine (rn_step (e := (.aload_n 0, 132, 0, 0, 0, 0, 0, [])) rfl).mpr ?_
    refine (rn_step (e := (.getfield 18, 135, 4, 2, 119, 0, 5, [])) rfl).mpr (And.intro ((rn_ks9 (M := M) hM)) (?_))
    refine (rn_step (e := (.invokevirtual 98, 138, 85, 2, 427, 0, 8, [0])) rfl).mpr (And.intro ((rn_ks10 (M := M) hM)) ((rc_Te_signAt hM ((hr1 c1)) ?_)))
    refine (rn_step (e := (.invokestatic 114, 141, 55, 1, 431, 0, 5, [0])) rfl).mpr (rc_Re_kindOf  ?_)
    refine (rn_step (e := (.aload_n 0, 142, 0, 0, 0, 0, 0, [])) rfl).mpr ?_
    refine (rn_step (e := (.getfield 32, 145, 4, 3, 120, 0, 5, [])) rfl).mpr (And.intro ((rn_ks9 (M := M) hM)) (?_))
    refine (rn_step (e := (.if_icmp .ne 16, 148, 161, 0, 0, 0, 0, [])) rfl).mpr (And.intro (fun c2 => ?_) (fun c2 => ?_))
    ·
      refine (rn_step (e := (.aload_n 0, 149, 0, 0, 0, 0, 0, [])) rfl).mpr ?_
      refine (rn_step (e := (.dup, 150, 0, 0, 0, 0, 0, [])) rfl).mpr ?_
      refine (rn_step (e := (.getfield 18, 153, 4, 2, 119, 0, 5, [])) rfl).mpr (And.intro ((rn_ks9 (M := M) hM)) (?_))
      refine (rn_step (e := (.iconst 1, 154, 0, 0, 0, 0, 0, [])) rfl).mpr ?_
      refine (rn_step (e := (.iadd, 155, 0, 0, 0, 0, 0, [])) rfl).mpr (rn_cw (hr2 c1 c2).1 (hr2 c1 c2).2 ?_)
      refine (rn_step (e := (.putfield 18, 158, 4, 2, 119, 0, 5, [])) rfl).mpr (And.intro ((rn_ks9 (M := M) hM)) (?_))
      refine (rn_step (e := (.goto (-45), 161, 113, 0, 0, 0, 0, [])) rfl).mpr ?_
      exact (k1 c1 c2)
    ·
      exact (rn_step (e := (.return_, 162, 0, 0, 0, 0, 0, [])) rfl).mpr (k2 c1 c2)
  ·
    exact (rn_step (e := (.return_, 162, 0, 0, 0, 0, 0, [])) rfl).mpr (k3 c1)
theorem re_Re_tokenIs {M : rn_M} {Q : rn_Q} {v0 v1 : rn_V} (h : rn_WP 56 0 [v0, v1, rn_J] [] M Q) : rn_ME 56 [v0, v1] M Q := h
set_option maxRecDepth 4000 in
theorem rb_Re_tokenIs_0 {M : rn_M} {Q : rn_Q} {al1 : Nat} {vl2 : rn_V} (hM : rn_sh M)  (h1 : rn_kd M al1 = 22) (hr1 : (-2147483648 : Int) ≤ (rn_gi M 9 2) - (rn_gi M 9 1) ∧ (rn_gi M 9 2) - (rn_gi M 9 1) ≤ 2147483647) (k1 : rn_ME 207 [rn_R al1] M (fun r M1 => rn_WP 56 13 [rn_R 9, rn_R al1, vl2] (r.toList ++ [rn_I ((rn_gi M 9 2) - (rn_gi M 9 1))]) M1 Q)) : rn_WP 56 0 [rn_R 9, rn_R al1, vl2] [] M Q := by
  refine (rn_step (e := (.aload_n 0, 1, 0, 0, 0, 0, 0, [])) rfl).mpr ?_
  refine (rn_step (e := (.getfield 18, 4, 4, 2, 119, 0, 5, [])) rfl).mpr (And.intro ((rn_ks9 (M := M) hM)) (?_))
  refine (rn_step (e := (.aload_n 0, 5, 0, 0, 0, 0, 0, [])) rfl).mpr ?_
  refine (rn_step (e := (.getfield 61, 8, 4, 1, 118, 0, 5, [])) rfl).mpr (And.intro ((rn_ks9 (M := M) hM)) (?_))
  refine (rn_step (e := (.isub, 9, 0, 0, 0, 0, 0, [])) rfl).mpr (rn_cw hr1.1 hr1.2 ?_)
  refine (rn_step (e := (.aload_n 1, 10, 1, 0, 0, 0, 0, [])) rfl).mpr ?_
  exact (rn_step (e := (.invokevirtual 117, 13, 207, 1, 443, 0, 22, [0])) rfl).mpr (And.intro (h1) (k1))
set_option maxRecDepth 4000 in
theorem rb_Re_tokenIs_13 {M : rn_M} {Q : rn_Q} {vl0 : rn_V} {vl1 : rn_V} {vl2 : rn_V} {xs0 : Int} {xs1 : Int}   (k1 : (xs1 = xs0) → rn_WP 56 20 [vl0, vl1, rn_I 0] [] M Q) (k2 : (¬ (xs1 = xs0)) → Q (some (rn_I 0)) M) : rn_WP 56 13 [vl0, vl1, vl2] [rn_I xs0, rn_I xs1] M Q := by
  refine (rn_step (e := (.if_icmp .eq 5, 16, 18, 0, 0, 0, 0, [])) rfl).mpr (And.intro (fun c1 => ?_) (fun c1 => ?_))
  ·
    refine (rn_step (e := (.iconst 0, 19, 0, 0, 0, 0, 0, [])) rfl).mpr ?_
    refine (rn_step (e := (.istore_n 2, 20, 2, 0, 0, 0, 0, [])) rfl).mpr ?_
    exact (k1 c1)
  ·
    refine (rn_step (e := (.iconst 0, 17, 0, 0, 0, 0, 0, [])) rfl).mpr ?_
    exact (rn_step (e := (.ireturn, 18, 0, 0, 0, 1, 0, [])) rfl).mpr (And.intro ((Or.inl rfl)) ((k2 c1)))
set_option maxRecDepth 4000 in
theorem rb_Re_tokenIs_20 {M : rn_M} {Q : rn_Q} {vl0 : rn_V} {al1 : Nat} {xl2 : Int}  (h1 : rn_kd M al1 = 22) (k1 : rn_ME 207 [rn_R al1] M (fun r M1 => rn_WP 56 25 [vl0, rn_R al1, rn_I xl2] (r.toList ++ [rn_I xl2]) M1 Q)) : rn_WP 56 20 [vl0, rn_R al1, rn_I xl2] [] M Q := by
  refine (rn_step (e := (.iload_n 2, 21, 2, 0, 0, 0, 0, [])) rfl).mpr ?_
  refine (rn_step (e := (.aload_n 1, 22, 1, 0, 0, 0, 0, [])) rfl).mpr ?_
  exact (rn_step (e := (.invokevirtual 117, 25, 207, 1, 443, 0, 22, [0])) rfl).mpr (And.intro (h1) (k1))
set_option maxRecDepth 4000 in
theorem rb_Re_tokenIs_25 {M : rn_M} {Q : rn_Q} {al1 : Nat} {xl2 : Int} {xs0 : Int} {xs1 : Int} (hM : rn_sh M)  (h1 : rn_kd M al1 = 22) (hr1 : (xs1 < xs0) → (-2147483648 : Int) ≤ rn_gi M 9 1 + xl2 ∧ rn_gi M 9 1 + xl2 ≤ 2147483647 ∧ (0 ≤ rn_gi M 10 0 ∧ rn_gi M 10 0 ≤ 150)) (k1 : (xs1 < xs0) → rn_ME 208 [rn_R al1, rn_I xl2] M (fun r M1 => rn_WP 56 46 [rn_R 9, rn_R al1, rn_I xl2] (r.toList ++ [rn_I (rn_sg M (rn_gi M 9 1 + xl2))]) M1 Q)) (k2 : (¬ (xs1 < xs0)) → Q (some (rn_I 1)) M) : rn_WP 56 25 [rn_R 9, rn_R al1, rn_I xl2] [rn_I xs0, rn_I xs1] M Q := by
  refine (rn_step (e := (.if_icmp .ge 32, 28, 57, 0, 0, 0, 0, [])) rfl).mpr (And.intro (fun c1 => ?_) (fun c1 => ?_))
  ·
    refine (rn_step (e := (.aload_n 0, 29, 0, 0, 0, 0, 0, [])) rfl).mpr ?_
    refine (rn_step (e := (.getfield 12, 32, 4, 0, 116, 2, 5, [])) rfl).mpr (And.intro ((rn_ks9 (M := M) hM)) (rn_cg (rn_g9_0 (M := M) hM) ?_))
    refine (rn_step (e := (.aload_n 0, 33, 0, 0, 0, 0, 0, [])) rfl).mpr ?_
    refine (rn_step (e := (.getfield 61, 36, 4, 1, 118, 0, 5, [])) rfl).mpr (And.intro ((rn_ks9 (M := M) hM)) (?_))
    refine (rn_step (e := (.iload_n 2, 37, 2, 0, 0, 0, 0, [])) rfl).mpr ?_
    refine (rn_step (e := (.iadd, 38, 0, 0, 0, 0, 0, [])) rfl).mpr (rn_cw (hr1 c1).1 (hr1 c1).2.1 ?_)
    refine (rn_step (e := (.invokevirtual 98, 41, 85, 2, 427, 0, 8, [0])) rfl).mpr (And.intro ((rn_ks10 (M := M) hM)) ((rc_Te_signAt hM ((hr1 c1).2.2) ?_)))
    refine (rn_step (e := (.aload_n 1, 42, 1, 0, 0, 0, 0, [])) rfl).mpr ?_
    refine (rn_step (e := (.iload_n 2, 43, 2, 0, 0, 0, 0, [])) rfl).mpr ?_
    exact (rn_step (e := (.invokevirtual 122, 46, 208, 2, 453, 0, 22, [0])) rfl).mpr (And.intro (h1) ((k1 c1)))
  ·
    refine (rn_step (e := (.iconst 1, 58, 0, 0, 0, 0, 0, [])) rfl).mpr ?_
    exact (rn_step (e := (.ireturn, 59, 0, 0, 0, 1, 0, [])) rfl).mpr (And.intro ((Or.inr rfl)) ((k2 c1)))
set_option maxRecDepth 4000 in
theorem rb_Re_tokenIs_46 {M : rn_M} {Q : rn_Q} {vl0 : rn_V} {vl1 : rn_V} {xl2 : Int} {xs0 : Int} {xs1 : Int}   (hr1 : (xs1 = xs0) → (-2147483648 : Int) ≤ xl2 + 1 ∧ xl2 + 1 ≤ 2147483647) (k1 : (xs1 = xs0) → rn_WP 56 20 [vl0, vl1, rn_I (xl2 + 1)] [] M Q) (k2 : (¬ (xs1 = xs0)) → Q (some (rn_I 0)) M) : rn_WP 56 46 [vl0, vl1, rn_I xl2] [rn_I xs0, rn_I xs1] M Q := by
  refine (rn_step (e := (.if_icmp .eq 5, 49, 51, 0, 0, 0, 0, [])) rfl).mpr (And.intro (fun c1 => ?_) (fun c1 => ?_))
  ·
    refine (rn_step (e := (.iinc 2 1, 54, 2, 0, 0, 0, 0, [])) rfl).mpr (rn_ci (hr1 c1).1 (hr1 c1).2 ?_)
    refine (rn_step (e := (.goto (-34), 57, 20, 0, 0, 0, 0, [])) rfl).mpr ?_
    exact (k1 c1)
  ·
    refine (rn_step (e := (.iconst 0, 50, 0, 0, 0, 0, 0, [])) rfl).mpr ?_
    exact (rn_step (e := (.ireturn, 51, 0, 0, 0, 1, 0, [])) rfl).mpr (And.intro ((Or.inl rfl)) ((k2 c1)))
