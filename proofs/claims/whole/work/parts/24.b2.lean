theorem re_Mo_isTown {M : rn_M} {Q : rn_Q} {v0 v1 v2 v3 : rn_V} (h : rn_WP 138 0 [v0, v1, v2, v3] [] M Q) : rn_ME 138 [v0, v1, v2, v3] M Q := h
set_option maxRecDepth 4000 in
theorem rb_Mo_isTown_0 {M : rn_M} {Q : rn_Q} {xl0 : Int} {xl1 : Int} {xl2 : Int} {xl3 : Int}   (hr1 : ((0 ≤ xl0 ∧ xl0 < 60) ∧ 0 ≤ xl1 ∧ xl1 < 40) → (1 ≤ xl2 ∧ xl2 ≤ 12) → (1 ≤ xl3 ∧ xl3 ≤ 3) → (-2147483648 : Int) ≤ xl0 + xl2 ∧ xl0 + xl2 ≤ 2147483647) (hr2 : ((0 ≤ xl0 ∧ xl0 < 60) ∧ 0 ≤ xl1 ∧ xl1 < 40) → (1 ≤ xl2 ∧ xl2 ≤ 12) → (1 ≤ xl3 ∧ xl3 ≤ 3) → (¬ (60 < xl0 + xl2)) → (-2147483648 : Int) ≤ xl1 + xl3 ∧ xl1 + xl3 ≤ 2147483647) (k1 : (¬ ((0 ≤ xl0 ∧ xl0 < 60) ∧ 0 ≤ xl1 ∧ xl1 < 40)) → Q (some (rn_I 0)) M) (k2 : ((0 ≤ xl0 ∧ xl0 < 60) ∧ 0 ≤ xl1 ∧ xl1 < 40) → (¬ (1 ≤ xl2 ∧ xl2 ≤ 12)) → Q (some (rn_I 0)) M) (k3 : ((0 ≤ xl0 ∧ xl0 < 60) ∧ 0 ≤ xl1 ∧ xl1 < 40) → (1 ≤ xl2 ∧ xl2 ≤ 12) → (¬ (1 ≤ xl3 ∧ xl3 ≤ 3)) → Q (some (rn_I 0)) M) (k4 : ((0 ≤ xl0 ∧ xl0 < 60) ∧ 0 ≤ xl1 ∧ xl1 < 40) → (1 ≤ xl2 ∧ xl2 ≤ 12) → (1 ≤ xl3 ∧ xl3 ≤ 3) → (60 < xl0 + xl2) → Q (some (rn_I 0)) M) (k5 : ((0 ≤ xl0 ∧ xl0 < 60) ∧ 0 ≤ xl1 ∧ xl1 < 40) → (1 ≤ xl2 ∧ xl2 ≤ 12) → (1 ≤ xl3 ∧ xl3 ≤ 3) → (¬ (60 < xl0 + xl2)) → (40 < xl1 + xl3) → Q (some (rn_I 0)) M) (k6 : ((0 ≤ xl0 ∧ xl0 < 60) ∧ 0 ≤ xl1 ∧ xl1 < 40) → (1 ≤ xl2 ∧ xl2 ≤ 12) → (1 ≤ xl3 ∧ xl3 ≤ 3) → (¬ (60 < xl0 + xl2)) → (¬ (40 < xl1 + xl3)) → Q (some (rn_I 1)) M) : rn_WP 138 0 [rn_I xl0, rn_I xl1, rn_I xl2, rn_I xl3] [] M Q := by
  refine (rn_step (e := (.iload_n 0, 1, 0, 0, 0, 0, 0, [])) rfl).mpr ?_
  refine (rn_step (e := (.iload_n 1, 2, 1, 0, 0, 0, 0, [])) rfl).mpr ?_
  refine (rn_step (e := (.invokestatic 59, 5, 132, 2, 959, 0, 11, [0])) rfl).mpr (rc_Mo_isOnMap  ?_)
  refine (rn_step (e := (.ifCond .eq 42, 8, 47, 0, 0, 0, 0, [])) rfl).mpr (And.intro (fun q => ?_) (fun q => ?_))
  · have c1 := rn_b0 q
    refine (rn_step (e := (.iconst 0, 48, 0, 0, 0, 0, 0, [])) rfl).mpr ?_
    exact (rn_step (e := (.ireturn, 49, 0, 0, 0, 1, 0, [])) rfl).mpr (And.intro ((Or.inl rfl)) ((k1 c1)))
  · have c1 := rn_b1 q
    refine (rn_step (e := (.iload_n 2, 9, 2, 0, 0, 0, 0, [])) rfl).mpr ?_
    refine (rn_step (e := (.iconst 1, 10, 0, 0, 0, 0, 0, [])) rfl).mpr ?_
    refine (rn_step (e := (.bipush 12, 12, 0, 0, 0, 0, 0, [])) rfl).mpr ?_
    refine (rn_step (e := (.invokestatic 41, 15, 124, 3, 956, 0, 11, [0])) rfl).mpr (rc_Mo_in  ?_)
    refine (rn_step (e := (.ifCond .eq 32, 18, 47, 0, 0, 0, 0, [])) rfl).mpr (And.intro (fun q => ?_) (fun q => ?_))
    · have c2 := rn_b0 q
      refine (rn_step (e := (.iconst 0, 48, 0, 0, 0, 0, 0, [])) rfl).mpr ?_
      exact (rn_step (e := (.ireturn, 49, 0, 0, 0, 1, 0, [])) rfl).mpr (And.intro ((Or.inl rfl)) ((k2 c1 c2)))
    · have c2 := rn_b1 q
      refine (rn_step (e := (.iload_n 3, 19, 3, 0, 0, 0, 0, [])) rfl).mpr ?_
      refine (rn_step (e := (.iconst 1, 20, 0, 0, 0, 0, 0, [])) rfl).mpr ?_
      refine (rn_step (e := (.iconst 3, 21, 0, 0, 0, 0, 0, [])) rfl).mpr ?_
      refine (rn_step (e := (.invokestatic 41, 24, 124, 3, 956, 0, 11, [0])) rfl).mpr (rc_Mo_in  ?_)
      refine (rn_step (e := (.ifCond .eq 23, 27, 47, 0, 0, 0, 0, [])) rfl).mpr (And.intro (fun q => ?_) (fun q => ?_))
      · have c3 := rn_b0 q
        refine (rn_step (e := (.iconst 0, 48, 0, 0, 0, 0, 0, [])) rfl).mpr ?_
        exact (rn_step (e := (.ireturn, 49, 0, 0, 0, 1, 0, [])) rfl).mpr (And.intro ((Or.inl rfl)) ((k3 c1 c2 c3)))
      · have c3 := rn_b1 q
        refine (rn_step (e := (.iload_n 0, 28, 0, 0, 0, 0, 0, [])) rfl).mpr ?_
        refine (rn_step (e := (.iload_n 2, 29, 2, 0, 0, 0, 0, [])) rfl).mpr ?_
        refine (rn_step (e := (.iadd, 30, 0, 0, 0, 0, 0, [])) rfl).mpr (rn_cw (hr1 c1 c2 c3).1 (hr1 c1 c2 c3).2 ?_)
        refine (rn_step (e := (.bipush 60, 32, 0, 0, 0, 0, 0, [])) rfl).mpr ?_
        refine (rn_step (e := (.if_icmp .gt 15, 35, 47, 0, 0, 0, 0, [])) rfl).mpr (And.intro (fun c4 => ?_) (fun c4 => ?_))
        ·
          refine (rn_step (e := (.iconst 0, 48, 0, 0, 0, 0, 0, [])) rfl).mpr ?_
          exact (rn_step (e := (.ireturn, 49, 0, 0, 0, 1, 0, [])) rfl).mpr (And.intro ((Or.inl rfl)) ((k4 c1 c2 c3 c4)))
        ·
          refine (rn_step (e := (.iload_n 1, 36, 1, 0, 0, 0, 0, [])) rfl).mpr ?_
          refine (rn_step (e := (.iload_n 3, 37, 3, 0, 0, 0, 0, [])) rfl).mpr ?_
          refine (rn_step (e := (.iadd, 38, 0, 0, 0, 0, 0, [])) rfl).mpr (rn_cw (hr2 c1 c2 c3 c4).1 (hr2 c1 c2 c3 c4).2 ?_)
          refine (rn_step (e := (.bipush 40, 40, 0, 0, 0, 0, 0, [])) rfl).mpr ?_
          refine (rn_step (e := (.if_icmp .gt 7, 43, 47, 0, 0, 0, 0, [])) rfl).mpr (And.intro (fun c5 => ?_) (fun c5 => ?_))
          ·
            refine (rn_step (e := (.iconst 0, 48, 0, 0, 0, 0, 0, [])) rfl).mpr ?_
            exact (rn_step (e := (.ireturn, 49, 0, 0, 0, 1, 0, [])) rfl).mpr (And.intro ((Or.inl rfl)) ((k5 c1 c2 c3 c4 c5)))
          ·
            refine (rn_step (e := (.iconst 1, 44, 0, 0, 0, 0, 0, [])) rfl).mpr ?_
            refine (rn_step (e := (.goto 4, 47, 48, 0, 0, 0, 0, [])) rfl).mpr ?_
            exact (rn_step (e := (.ireturn, 49, 0, 0, 0, 1, 0, [])) rfl).mpr (And.intro ((Or.inr rfl)) ((k6 c1 c2 c3 c4 c5)))
theorem re_Mo_hasPlaces {M : rn_M} {Q : rn_Q} {v0 v1 v2 v3 : rn_V} (h : rn_WP 151 0 [v0, v1, v2, v3] [] M Q) : rn_ME 151 [v0, v1, v2, v3] M Q := h
set_option maxRecDepth 4000 in
theorem rb_Mo_hasPlaces_0 {M : rn_M} {Q : rn_Q} {xl1 : Int} {xl2 : Int} {xl3 : Int} (hM : rn_sh M)   (hr1 : (-2147483648 : Int) ≤ xl2 + xl3 ∧ xl2 + xl3 ≤ 2147483647 ∧ ((0 : Int) ≤ xl1 ∧ (xl1 : Int) ≤ 5) ∧ ((0 : Int) ≤ 5 ∧ (5 : Int) ≤ 77) ∧ (-2147483648 : Int) ≤ rn_o (rn_gi M 467) xl1 5 + 1 ∧ rn_o (rn_gi M 467) xl1 5 + 1 ≤ 2147483647) (k1 : (rn_o (rn_gi M 467) xl1 5 + 1 < xl2 + xl3) → Q (some (rn_I 0)) M) (k2 : (¬ (rn_o (rn_gi M 467) xl1 5 + 1 < xl2 + xl3)) → Q (some (rn_I 1)) M) : rn_WP 151 0 [rn_R 466, rn_I xl1, rn_I xl2, rn_I xl3] [] M Q := by
  refine (rn_step (e := (.iload_n 2, 1, 2, 0, 0, 0, 0, [])) rfl).mpr ?_
  refine (rn_step (e := (.iload_n 3, 2, 3, 0, 0, 0, 0, [])) rfl).mpr ?_
  refine (rn_step (e := (.iadd, 3, 0, 0, 0, 0, 0, [])) rfl).mpr (rn_cw hr1.1 hr1.2.1 ?_)
  refine (rn_step (e := (.aload_n 0, 4, 0, 0, 0, 0, 0, [])) rfl).mpr ?_
  refine (rn_step (e := (.iload_n 1, 5, 1, 0, 0, 0, 0, [])) rfl).mpr ?_
  refine (rn_step (e := (.iconst 5, 6, 0, 0, 0, 0, 0, [])) rfl).mpr ?_
  refine (rn_step (e := (.invokevirtual 49, 9, 129, 3, 1002, 0, 11, [0])) rfl).mpr (And.intro ((rn_ks466 (M := M) hM)) ((rc_Mo_of hM (hr1.2.2.1) (hr1.2.2.2.1) ?_)))
  refine (rn_step (e := (.iconst 1, 10, 0, 0, 0, 0, 0, [])) rfl).mpr ?_
  refine (rn_step (e := (.iadd, 11, 0, 0, 0, 0, 0, [])) rfl).mpr (rn_cw hr1.2.2.2.2.1 hr1.2.2.2.2.2 ?_)
  refine (rn_step (e := (.if_icmp .gt 7, 14, 18, 0, 0, 0, 0, [])) rfl).mpr (And.intro (fun c1 => ?_) (fun c1 => ?_))
  ·
    refine (rn_step (e := (.iconst 0, 19, 0, 0, 0, 0, 0, [])) rfl).mpr ?_
    exact (rn_step (e := (.ireturn, 20, 0, 0, 0, 1, 0, [])) rfl).mpr (And.intro ((Or.inl rfl)) ((k1 c1)))
  ·
    refine (rn_step (e := (.iconst 1, 15, 0, 0, 0, 0, 0, [])) rfl).mpr ?_
    refine (rn_step (e := (.goto 4, 18, 19, 0, 0, 0, 0, [])) rfl).mpr ?_
    exact (rn_step (e := (.ireturn, 20, 0, 0, 0, 1, 0, [])) rfl).mpr (And.intro ((Or.inr rfl)) ((k2 c1)))
theorem re_Re_kindOf {M : rn_M} {Q : rn_Q} {v0 : rn_V} (h : rn_WP 55 0 [v0] [] M Q) : rn_ME 55 [v0] M Q := h
set_option maxRecDepth 4000 in
theorem rb_Re_kindOf_0 {M : rn_M} {Q : rn_Q} {xl0 : Int}   (k1 : (xl0 = 0) → Q (some (rn_I 0)) M) (k2 : (¬ (xl0 = 0)) → (¬ (97 ≤ xl0 ∧ xl0 ≤ 122)) → (¬ (48 ≤ xl0 ∧ xl0 ≤ 57)) → Q (some (rn_I 3)) M) (k3 : (¬ (xl0 = 0)) → (¬ (97 ≤ xl0 ∧ xl0 ≤ 122)) → (48 ≤ xl0 ∧ xl0 ≤ 57) → Q (some (rn_I 2)) M) (k4 : (¬ (xl0 = 0)) → (97 ≤ xl0 ∧ xl0 ≤ 122) → Q (some (rn_I 1)) M) : rn_WP 55 0 [rn_I xl0] [] M Q := by
  refine (rn_step (e := (.iload_n 0, 1, 0, 0, 0, 0, 0, [])) rfl).mpr ?_
  refine (rn_step (e := (.ifCond .ne 5, 4, 6, 0, 0, 0, 0, [])) rfl).mpr (And.intro (fun c1 => ?_) (fun c1 => ?_))
  ·
    refine (rn_step (e := (.iconst 0, 5, 0, 0, 0, 0, 0, [])) rfl).mpr ?_
    exact (rn_step (e := (.ireturn, 6, 0, 0, 0, 0, 0, [])) rfl).mpr (And.intro (trivial) ((k1 c1)))
  ·
    refine (rn_step (e := (.iload_n 0, 7, 0, 0, 0, 0, 0, [])) rfl).mpr ?_
    refine (rn_step (e := (.bipush 97, 9, 0, 0, 0, 0, 0, [])) rfl).mpr ?_
    refine (rn_step (e := (.bipush 122, 11, 0, 0, 0, 0, 0, [])) rfl).mpr ?_
    refine (rn_step (e := (.invokestatic 110, 14, 118, 3, 7, 0, 10, [1])) rfl).mpr (rc_RN_within  ?_)
    refine (rn_step (e := (.ifCond .eq 5, 17, 19, 0, 0, 0, 0, [])) rfl).mpr (And.intro (fun q => ?_) (fun q => ?_))
    · have c2 := rn_b0 q
      refine (rn_step (e := (.iload_n 0, 20, 0, 0, 0, 0, 0, [])) rfl).mpr ?_
      refine (rn_step (e := (.bipush 48, 22, 0, 0, 0, 0, 0, [])) rfl).mpr ?_
      refine (rn_step (e := (.bipush 57, 24, 0, 0, 0, 0, 0, [])) rfl).mpr ?_
      refine (rn_step (e := (.invokestatic 110, 27, 118, 3, 7, 0, 10, [1])) rfl).mpr (rc_RN_within  ?_)
      refine (rn_step (e := (.ifCond .eq 7, 30, 34, 0, 0, 0, 0, [])) rfl).mpr (And.intro (fun q => ?_) (fun q => ?_))
      · have c3 := rn_b0 q
        refine (rn_step (e := (.iconst 3, 35, 0, 0, 0, 0, 0, [])) rfl).mpr ?_
        exact (rn_step (e := (.ireturn, 36, 0, 0, 0, 0, 0, [])) rfl).mpr (And.intro (trivial) ((k2 c1 c2 c3)))
      · have c3 := rn_b1 q
        refine (rn_step (e := (.iconst 2, 31, 0, 0, 0, 0, 0, [])) rfl).mpr ?_
        refine (rn_step (e := (.goto 4, 34, 35, 0, 0, 0, 0, [])) rfl).mpr ?_
        exact (rn_step (e := (.ireturn, 36, 0, 0, 0, 0, 0, [])) rfl).mpr (And.intro (trivial) ((k3 c1 c2 c3)))
    · have c2 := rn_b1 q
      refine (rn_step (e := (.iconst 1, 18, 0, 0, 0, 0, 0, [])) rfl).mpr ?_
      exact (rn_step (e := (.ireturn, 19, 0, 0, 0, 0, 0, [])) rfl).mpr (And.intro (trivial) ((k4 c1 c2)))
