theorem re_RN_isRank {M : rn_M} {Q : rn_Q} {v0 : rn_V} (h : rn_WP 120 0 [v0] [] M Q) : rn_ME 120 [v0] M Q := h
set_option maxRecDepth 4000 in
theorem rb_RN_isRank_0 {M : rn_M} {Q : rn_Q} {xl0 : Int}   (k1 : Q (some (rn_I (rn_b (1 ≤ xl0 ∧ xl0 ≤ 9)))) M) : rn_WP 120 0 [rn_I xl0] [] M Q := by
  refine (rn_step (e := (.iload_n 0, 1, 0, 0, 0, 0, 0, [])) rfl).mpr ?_
  refine (rn_step (e := (.iconst 1, 2, 0, 0, 0, 0, 0, [])) rfl).mpr ?_
  refine (rn_step (e := (.bipush 9, 4, 0, 0, 0, 0, 0, [])) rfl).mpr ?_
  refine (rn_step (e := (.invokestatic 37, 7, 118, 3, 331, 0, 10, [0])) rfl).mpr (rc_RN_within  ?_)
  exact (rn_step (e := (.ireturn, 8, 0, 0, 0, 1, 0, [])) rfl).mpr (And.intro (rn_b01) (k1))
theorem re_RN_isHalo {M : rn_M} {Q : rn_Q} {v0 : rn_V} (h : rn_WP 121 0 [v0] [] M Q) : rn_ME 121 [v0] M Q := h
set_option maxRecDepth 4000 in
theorem rb_RN_isHalo_0 {M : rn_M} {Q : rn_Q} {xl0 : Int}   (k1 : Q (some (rn_I (rn_b (0 ≤ xl0 ∧ xl0 ≤ 2)))) M) : rn_WP 121 0 [rn_I xl0] [] M Q := by
  refine (rn_step (e := (.iload_n 0, 1, 0, 0, 0, 0, 0, [])) rfl).mpr ?_
  refine (rn_step (e := (.iconst 0, 2, 0, 0, 0, 0, 0, [])) rfl).mpr ?_
  refine (rn_step (e := (.iconst 2, 3, 0, 0, 0, 0, 0, [])) rfl).mpr ?_
  refine (rn_step (e := (.invokestatic 37, 6, 118, 3, 331, 0, 10, [0])) rfl).mpr (rc_RN_within  ?_)
  exact (rn_step (e := (.ireturn, 7, 0, 0, 0, 1, 0, [])) rfl).mpr (And.intro (rn_b01) (k1))
theorem re_RN_isPlaceNumber {M : rn_M} {Q : rn_Q} {v0 : rn_V} (h : rn_WP 122 0 [v0] [] M Q) : rn_ME 122 [v0] M Q := h
set_option maxRecDepth 4000 in
theorem rb_RN_isPlaceNumber_0 {M : rn_M} {Q : rn_Q} {xl0 : Int}   (k1 : Q (some (rn_I (rn_b (0 ≤ xl0 ∧ xl0 ≤ 60)))) M) : rn_WP 122 0 [rn_I xl0] [] M Q := by
  refine (rn_step (e := (.iload_n 0, 1, 0, 0, 0, 0, 0, [])) rfl).mpr ?_
  refine (rn_step (e := (.iconst 0, 2, 0, 0, 0, 0, 0, [])) rfl).mpr ?_
  refine (rn_step (e := (.bipush 60, 4, 0, 0, 0, 0, 0, [])) rfl).mpr ?_
  refine (rn_step (e := (.invokestatic 37, 7, 118, 3, 331, 0, 10, [0])) rfl).mpr (rc_RN_within  ?_)
  exact (rn_step (e := (.ireturn, 8, 0, 0, 0, 1, 0, [])) rfl).mpr (And.intro (rn_b01) (k1))
theorem re_Mo_stepX {M : rn_M} {Q : rn_Q} {v0 : rn_V} (h : rn_WP 130 0 [v0] [] M Q) : rn_ME 130 [v0] M Q := h
set_option maxRecDepth 4000 in
theorem rb_Mo_stepX_0 {M : rn_M} {Q : rn_Q} {xl0 : Int}   (k1 : (xl0 = 7) → Q (some (rn_I 1)) M) (k2 : (¬ (xl0 = 7)) → (xl0 < 2) → Q (some (rn_I 1)) M) (k3 : (¬ (xl0 = 7)) → (¬ (xl0 < 2)) → (¬ (3 ≤ xl0 ∧ xl0 ≤ 5)) → Q (some (rn_I 0)) M) (k4 : (¬ (xl0 = 7)) → (¬ (xl0 < 2)) → (3 ≤ xl0 ∧ xl0 ≤ 5) → Q (some (rn_I (-1))) M) : rn_WP 130 0 [rn_I xl0] [] M Q := by
  refine (rn_step (e := (.iload_n 0, 1, 0, 0, 0, 0, 0, [])) rfl).mpr ?_
  refine (rn_step (e := (.bipush 7, 3, 0, 0, 0, 0, 0, [])) rfl).mpr ?_
  refine (rn_step (e := (.if_icmp .eq 8, 6, 11, 0, 0, 0, 0, [])) rfl).mpr (And.intro (fun c1 => ?_) (fun c1 => ?_))
  ·
    refine (rn_step (e := (.iconst 1, 12, 0, 0, 0, 0, 0, [])) rfl).mpr ?_
    refine (rn_step (e := (.goto 17, 15, 29, 0, 0, 0, 0, [])) rfl).mpr ?_
    exact (rn_step (e := (.ireturn, 30, 0, 0, 0, 0, 0, [])) rfl).mpr (And.intro (trivial) ((k1 c1)))
  ·
    refine (rn_step (e := (.iload_n 0, 7, 0, 0, 0, 0, 0, [])) rfl).mpr ?_
    refine (rn_step (e := (.iconst 2, 8, 0, 0, 0, 0, 0, [])) rfl).mpr ?_
    refine (rn_step (e := (.if_icmp .ge 7, 11, 15, 0, 0, 0, 0, [])) rfl).mpr (And.intro (fun c2 => ?_) (fun c2 => ?_))
    ·
      refine (rn_step (e := (.iconst 1, 12, 0, 0, 0, 0, 0, [])) rfl).mpr ?_
      refine (rn_step (e := (.goto 17, 15, 29, 0, 0, 0, 0, [])) rfl).mpr ?_
      exact (rn_step (e := (.ireturn, 30, 0, 0, 0, 0, 0, [])) rfl).mpr (And.intro (trivial) ((k2 c1 c2)))
    ·
      refine (rn_step (e := (.iload_n 0, 16, 0, 0, 0, 0, 0, [])) rfl).mpr ?_
      refine (rn_step (e := (.iconst 3, 17, 0, 0, 0, 0, 0, [])) rfl).mpr ?_
      refine (rn_step (e := (.iconst 5, 18, 0, 0, 0, 0, 0, [])) rfl).mpr ?_
      refine (rn_step (e := (.invokestatic 41, 21, 124, 3, 956, 0, 11, [0])) rfl).mpr (rc_Mo_in  ?_)
      refine (rn_step (e := (.ifCond .eq 7, 24, 28, 0, 0, 0, 0, [])) rfl).mpr (And.intro (fun q => ?_) (fun q => ?_))
      · have c3 := rn_b0 q
        refine (rn_step (e := (.iconst 0, 29, 0, 0, 0, 0, 0, [])) rfl).mpr ?_
        exact (rn_step (e := (.ireturn, 30, 0, 0, 0, 0, 0, [])) rfl).mpr (And.intro (trivial) ((k3 c1 c2 c3)))
      · have c3 := rn_b1 q
        refine (rn_step (e := (.iconst (-1), 25, 0, 0, 0, 0, 0, [])) rfl).mpr ?_
        refine (rn_step (e := (.goto 4, 28, 29, 0, 0, 0, 0, [])) rfl).mpr ?_
        exact (rn_step (e := (.ireturn, 30, 0, 0, 0, 0, 0, [])) rfl).mpr (And.intro (trivial) ((k4 c1 c2 c3)))
theorem re_Mo_stepY {M : rn_M} {Q : rn_Q} {v0 : rn_V} (h : rn_WP 131 0 [v0] [] M Q) : rn_ME 131 [v0] M Q := h
set_option maxRecDepth 4000 in
theorem rb_Mo_stepY_0 {M : rn_M} {Q : rn_Q} {xl0 : Int}   (k1 : (¬ (1 ≤ xl0 ∧ xl0 ≤ 3)) → (xl0 ≤ 4) → Q (some (rn_I 0)) M) (k2 : (¬ (1 ≤ xl0 ∧ xl0 ≤ 3)) → (¬ (xl0 ≤ 4)) → Q (some (rn_I (-1))) M) (k3 : (1 ≤ xl0 ∧ xl0 ≤ 3) → Q (some (rn_I 1)) M) : rn_WP 131 0 [rn_I xl0] [] M Q := by
  refine (rn_step (e := (.iload_n 0, 1, 0, 0, 0, 0, 0, [])) rfl).mpr ?_
  refine (rn_step (e := (.iconst 1, 2, 0, 0, 0, 0, 0, [])) rfl).mpr ?_
  refine (rn_step (e := (.iconst 3, 3, 0, 0, 0, 0, 0, [])) rfl).mpr ?_
  refine (rn_step (e := (.invokestatic 41, 6, 124, 3, 956, 0, 11, [0])) rfl).mpr (rc_Mo_in  ?_)
  refine (rn_step (e := (.ifCond .eq 7, 9, 13, 0, 0, 0, 0, [])) rfl).mpr (And.intro (fun q => ?_) (fun q => ?_))
  · have c1 := rn_b0 q
    refine (rn_step (e := (.iload_n 0, 14, 0, 0, 0, 0, 0, [])) rfl).mpr ?_
    refine (rn_step (e := (.iconst 4, 15, 0, 0, 0, 0, 0, [])) rfl).mpr ?_
    refine (rn_step (e := (.if_icmp .le 7, 18, 22, 0, 0, 0, 0, [])) rfl).mpr (And.intro (fun c2 => ?_) (fun c2 => ?_))
    ·
      refine (rn_step (e := (.iconst 0, 23, 0, 0, 0, 0, 0, [])) rfl).mpr ?_
      exact (rn_step (e := (.ireturn, 24, 0, 0, 0, 0, 0, [])) rfl).mpr (And.intro (trivial) ((k1 c1 c2)))
    ·
      refine (rn_step (e := (.iconst (-1), 19, 0, 0, 0, 0, 0, [])) rfl).mpr ?_
      refine (rn_step (e := (.goto 4, 22, 23, 0, 0, 0, 0, [])) rfl).mpr ?_
      exact (rn_step (e := (.ireturn, 24, 0, 0, 0, 0, 0, [])) rfl).mpr (And.intro (trivial) ((k2 c1 c2)))
  · have c1 := rn_b1 q
    refine (rn_step (e := (.iconst 1, 10, 0, 0, 0, 0, 0, [])) rfl).mpr ?_
    refine (rn_step (e := (.goto 13, 13, 23, 0, 0, 0, 0, [])) rfl).mpr ?_
    exact (rn_step (e := (.ireturn, 24, 0, 0, 0, 0, 0, [])) rfl).mpr (And.intro (trivial) ((k3 c1)))
theorem re_Mo_isOnMap {M : rn_M} {Q : rn_Q} {v0 v1 : rn_V} (h : rn_WP 132 0 [v0, v1] [] M Q) : rn_ME 132 [v0, v1] M Q := h
set_option maxRecDepth 4000 in
theorem rb_Mo_isOnMap_0 {M : rn_M} {Q : rn_Q} {xl0 : Int} {xl1 : Int}   (k1 : (¬ (0 ≤ xl0 ∧ xl0 ≤ 59)) → Q (some (rn_I 0)) M) (k2 : (0 ≤ xl0 ∧ xl0 ≤ 59) → (¬ (0 ≤ xl1 ∧ xl1 ≤ 39)) → Q (some (rn_I 0)) M) (k3 : (0 ≤ xl0 ∧ xl0 ≤ 59) → (0 ≤ xl1 ∧ xl1 ≤ 39) → Q (some (rn_I 1)) M) : rn_WP 132 0 [rn_I xl0, rn_I xl1] [] M Q := by
  refine (rn_step (e := (.iload_n 0, 1, 0, 0, 0, 0, 0, [])) rfl).mpr ?_
  refine (rn_step (e := (.iconst 0, 2, 0, 0, 0, 0, 0, [])) rfl).mpr ?_
  refine (rn_step (e := (.bipush 59, 4, 0, 0, 0, 0, 0, [])) rfl).mpr ?_
  refine (rn_step (e := (.invokestatic 41, 7, 124, 3, 956, 0, 11, [0])) rfl).mpr (rc_Mo_in  ?_)
  refine (rn_step (e := (.ifCond .eq 17, 10, 24, 0, 0, 0, 0, [])) rfl).mpr (And.intro (fun q => ?_) (fun q => ?_))
  · have c1 := rn_b0 q
    refine (rn_step (e := (.iconst 0, 25, 0, 0, 0, 0, 0, [])) rfl).mpr ?_
    exact (rn_step (e := (.ireturn, 26, 0, 0, 0, 1, 0, [])) rfl).mpr (And.intro ((Or.inl rfl)) ((k1 c1)))
  · have c1 := rn_b1 q
    refine (rn_step (e := (.iload_n 1, 11, 1, 0, 0, 0, 0, [])) rfl).mpr ?_
    refine (rn_step (e := (.iconst 0, 12, 0, 0, 0, 0, 0, [])) rfl).mpr ?_
    refine (rn_step (e := (.bipush 39, 14, 0, 0, 0, 0, 0, [])) rfl).mpr ?_
    refine (rn_step (e := (.invokestatic 41, 17, 124, 3, 956, 0, 11, [0])) rfl).mpr (rc_Mo_in  ?_)
    refine (rn_step (e := (.ifCond .eq 7, 20, 24, 0, 0, 0, 0, [])) rfl).mpr (And.intro (fun q => ?_) (fun q => ?_))
    · have c2 := rn_b0 q
      refine (rn_step (e := (.iconst 0, 25, 0, 0, 0, 0, 0, [])) rfl).mpr ?_
      exact (rn_step (e := (.ireturn, 26, 0, 0, 0, 1, 0, [])) rfl).mpr (And.intro ((Or.inl rfl)) ((k2 c1 c2)))
    · have c2 := rn_b1 q
      refine (rn_step (e := (.iconst 1, 21, 0, 0, 0, 0, 0, [])) rfl).mpr ?_
      refine (rn_step (e := (.goto 4, 24, 25, 0, 0, 0, 0, [])) rfl).mpr ?_
      exact (rn_step (e := (.ireturn, 26, 0, 0, 0, 1, 0, [])) rfl).mpr (And.intro ((Or.inr rfl)) ((k3 c1 c2)))
theorem re_Mo_isRank {M : rn_M} {Q : rn_Q} {v0 : rn_V} (h : rn_WP 134 0 [v0] [] M Q) : rn_ME 134 [v0] M Q := h
set_option maxRecDepth 4000 in
theorem rb_Mo_isRank_0 {M : rn_M} {Q : rn_Q} {xl0 : Int}   (k1 : Q (some (rn_I (rn_b (1 ≤ xl0 ∧ xl0 ≤ 9)))) M) : rn_WP 134 0 [rn_I xl0] [] M Q := by
  refine (rn_step (e := (.iload_n 0, 1, 0, 0, 0, 0, 0, [])) rfl).mpr ?_
  refine (rn_step (e := (.iconst 1, 2, 0, 0, 0, 0, 0, [])) rfl).mpr ?_
  refine (rn_step (e := (.bipush 9, 4, 0, 0, 0, 0, 0, [])) rfl).mpr ?_
  refine (rn_step (e := (.invokestatic 41, 7, 124, 3, 956, 0, 11, [0])) rfl).mpr (rc_Mo_in  ?_)
  exact (rn_step (e := (.ireturn, 8, 0, 0, 0, 1, 0, [])) rfl).mpr (And.intro (rn_b01) (k1))
theorem re_Mo_isHalo {M : rn_M} {Q : rn_Q} {v0 : rn_V} (h : rn_WP 135 0 [v0] [] M Q) : rn_ME 135 [v0] M Q := h
set_option maxRecDepth 4000 in
theorem rb_Mo_isHalo_0 {M : rn_M} {Q : rn_Q} {xl0 : Int}   (k1 : Q (some (rn_I (rn_b (0 ≤ xl0 ∧ xl0 ≤ 2)))) M) : rn_WP 135 0 [rn_I xl0] [] M Q := by
  refine (rn_step (e := (.iload_n 0, 1, 0, 0, 0, 0, 0, [])) rfl).mpr ?_
  refine (rn_step (e := (.iconst 0, 2, 0, 0, 0, 0, 0, [])) rfl).mpr ?_
  refine (rn_step (e := (.iconst 2, 3, 0, 0, 0, 0, 0, [])) rfl).mpr ?_
  refine (rn_step (e := (.invokestatic 41, 6, 124, 3, 956, 0, 11, [0])) rfl).mpr (rc_Mo_in  ?_)
  exact (rn_step (e := (.ireturn, 7, 0, 0, 0, 1, 0, [])) rfl).mpr (And.intro (rn_b01) (k1))
theorem re_Mo_isStart {M : rn_M} {Q : rn_Q} {v0 : rn_V} (h : rn_WP 163 0 [v0] [] M Q) : rn_ME 163 [v0] M Q := h
set_option maxRecDepth 4000 in
theorem rb_Mo_isStart_0 {M : rn_M} {Q : rn_Q} {xl0 : Int}   (k1 : Q (some (rn_I (rn_b (0 ≤ xl0 ∧ xl0 ≤ 60)))) M) : rn_WP 163 0 [rn_I xl0] [] M Q := by
  refine (rn_step (e := (.iload_n 0, 1, 0, 0, 0, 0, 0, [])) rfl).mpr ?_
  refine (rn_step (e := (.iconst 0, 2, 0, 0, 0, 0, 0, [])) rfl).mpr ?_
  refine (rn_step (e := (.bipush 60, 4, 0, 0, 0, 0, 0, [])) rfl).mpr ?_
  refine (rn_step (e := (.invokestatic 41, 7, 124, 3, 956, 0, 11, [0])) rfl).mpr (rc_Mo_in  ?_)
  exact (rn_step (e := (.ireturn, 8, 0, 0, 0, 1, 0, [])) rfl).mpr (And.intro (rn_b01) (k1))
theorem re_Mo_of {M : rn_M} {Q : rn_Q} {v0 v1 v2 : rn_V} (h : rn_WP 129 0 [v0, v1, v2] [] M Q) : rn_ME 129 [v0, v1, v2] M Q := h
set_option maxRecDepth 4000 in
theorem rb_Mo_of_0 {M : rn_M} {Q : rn_Q} {xl1 : Int} {xl2 : Int} (hM : rn_sh M)   (hr1 : ((0 : Int) ≤ xl1 ∧ (xl1 : Int) ≤ 10) ∧ (-2147483648 : Int) ≤ (4 + 78 * xl1) + xl2 ∧ (4 + 78 * xl1) + xl2 ≤ 2147483647 ∧ (0 : Int) ≤ (4 + 78 * xl1) + xl2 ∧ (4 + 78 * xl1) + xl2 < (562 : Int)) (k1 : Q (some (rn_I (rn_gi M 467 ((4 + 78 * xl1) + xl2).toNat))) M) : rn_WP 129 0 [rn_R 466, rn_I xl1, rn_I xl2] [] M Q := by
  refine (rn_step (e := (.aload_n 0, 1, 0, 0, 0, 0, 0, [])) rfl).mpr ?_
  refine (rn_step (e := (.getfield 7, 4, 10, 0, 902, 2, 11, [])) rfl).mpr (And.intro ((rn_ks466 (M := M) hM)) (rn_cg (rn_g466_0 (M := M) hM) ?_))
  refine (rn_step (e := (.iload_n 1, 5, 1, 0, 0, 0, 0, [])) rfl).mpr ?_
  refine (rn_step (e := (.invokestatic 45, 8, 128, 1, 976, 0, 11, [0])) rfl).mpr (rc_Mo_riverAt (hr1.1) ?_)
  refine (rn_step (e := (.iload_n 2, 9, 2, 0, 0, 0, 0, [])) rfl).mpr ?_
  refine (rn_step (e := (.iadd, 10, 0, 0, 0, 0, 0, [])) rfl).mpr (rn_cw hr1.2.1 hr1.2.2.1 ?_)
  refine (rn_step (e := (.iaload, 11, 0, 0, 0, 0, 0, [])) rfl).mpr (And.intro (Or.inl (rn_w467 (M := M) hM).1) (And.intro ((And.intro (hr1.2.2.2.1) (rn_lt (rn_w467 (M := M) hM).2 hr1.2.2.2.2))) (?_)))
  exact (rn_step (e := (.ireturn, 12, 0, 0, 0, 0, 0, [])) rfl).mpr (And.intro (trivial) (k1))
theorem re_Mo_isRiver {M : rn_M} {Q : rn_Q} {v0 v1 : rn_V} (h : rn_WP 127 0 [v0, v1] [] M Q) : rn_ME 127 [v0, v1] M Q := h
set_option maxRecDepth 4000 in
theorem rb_Mo_isRiver_0 {M : rn_M} {Q : rn_Q} {xl1 : Int} (hM : rn_sh M)   (hr1 : (-2147483648 : Int) ≤ (rn_gi M 467 0) - 1 ∧ (rn_gi M 467 0) - 1 ≤ 2147483647) (k1 : Q (some (rn_I (rn_b (0 ≤ xl1 ∧ xl1 ≤ (rn_gi M 467 0) - 1)))) M) : rn_WP 127 0 [rn_R 466, rn_I xl1] [] M Q := by
  refine (rn_step (e := (.iload_n 1, 1, 1, 0, 0, 0, 0, [])) rfl).mpr ?_
  refine (rn_step (e := (.iconst 0, 2, 0, 0, 0, 0, 0, [])) rfl).mpr ?_
  refine (rn_step (e := (.aload_n 0, 3, 0, 0, 0, 0, 0, [])) rfl).mpr ?_
  refine (rn_step (e := (.getfield 7, 6, 10, 0, 902, 2, 11, [])) rfl).mpr (And.intro ((rn_ks466 (M := M) hM)) (rn_cg (rn_g466_0 (M := M) hM) ?_))
  refine (rn_step (e := (.iconst 0, 7, 0, 0, 0, 0, 0, [])) rfl).mpr ?_
  refine (rn_step (e := (.iaload, 8, 0, 0, 0, 0, 0, [])) rfl).mpr (And.intro (Or.inl (rn_w467 (M := M) hM).1) (And.intro ((And.intro ((by decide)) (rn_lt (rn_w467 (M := M) hM).2 (by decide)))) (?_)))
  refine (rn_step (e := (.iconst 1, 9, 0, 0, 0, 0, 0, [])) rfl).mpr ?_
  refine (rn_step (e := (.isub, 10, 0, 0, 0, 0, 0, [])) rfl).mpr (rn_cw hr1.1 hr1.2 ?_)
  refine (rn_step (e := (.invokestatic 41, 13, 124, 3, 956, 0, 11, [0])) rfl).mpr (rc_Mo_in  ?_)
  exact (rn_step (e := (.ireturn, 14, 0, 0, 0, 1, 0, [])) rfl).mpr (And.intro (rn_b01) (k1))
theorem re_Mo_isTownNumber {M : rn_M} {Q : rn_Q} {v0 v1 : rn_V} (h : rn_WP 146 0 [v0, v1] [] M Q) : rn_ME 146 [v0, v1] M Q := h
set_option maxRecDepth 4000 in
theorem rb_Mo_isTownNumber_0 {M : rn_M} {Q : rn_Q} {xl1 : Int} (hM : rn_sh M)   (hr1 : (-2147483648 : Int) ≤ (rn_gi M 467 1) - 1 ∧ (rn_gi M 467 1) - 1 ≤ 2147483647) (k1 : Q (some (rn_I (rn_b (0 ≤ xl1 ∧ xl1 ≤ (rn_gi M 467 1) - 1)))) M) : rn_WP 146 0 [rn_R 466, rn_I xl1] [] M Q := by
  refine (rn_step (e := (.iload_n 1, 1, 1, 0, 0, 0, 0, [])) rfl).mpr ?_
  refine (rn_step (e := (.iconst 0, 2, 0, 0, 0, 0, 0, [])) rfl).mpr ?_
  refine (rn_step (e := (.aload_n 0, 3, 0, 0, 0, 0, 0, [])) rfl).mpr ?_
  refine (rn_step (e := (.getfield 7, 6, 10, 0, 902, 2, 11, [])) rfl).mpr (And.intro ((rn_ks466 (M := M) hM)) (rn_cg (rn_g466_0 (M := M) hM) ?_))
  refine (rn_step (e := (.iconst 1, 7, 0, 0, 0, 0, 0, [])) rfl).mpr ?_
  refine (rn_step (e := (.iaload, 8, 0, 0, 0, 0, 0, [])) rfl).mpr (And.intro (Or.inl (rn_w467 (M := M) hM).1) (And.intro ((And.intro ((by decide)) (rn_lt (rn_w467 (M := M) hM).2 (by decide)))) (?_)))
  refine (rn_step (e := (.iconst 1, 9, 0, 0, 0, 0, 0, [])) rfl).mpr ?_
  refine (rn_step (e := (.isub, 10, 0, 0, 0, 0, 0, [])) rfl).mpr (rn_cw hr1.1 hr1.2 ?_)
  refine (rn_step (e := (.invokestatic 41, 13, 124, 3, 956, 0, 11, [0])) rfl).mpr (rc_Mo_in  ?_)
  exact (rn_step (e := (.ireturn, 14, 0, 0, 0, 1, 0, [])) rfl).mpr (And.intro (rn_b01) (k1))
theorem re_Mo_isLabel {M : rn_M} {Q : rn_Q} {v0 v1 : rn_V} (h : rn_WP 161 0 [v0, v1] [] M Q) : rn_ME 161 [v0, v1] M Q := h
set_option maxRecDepth 4000 in
theorem rb_Mo_isLabel_0 {M : rn_M} {Q : rn_Q} {xl1 : Int} (hM : rn_sh M)   (hr1 : (-2147483648 : Int) ≤ (rn_gi M 467 2) - 1 ∧ (rn_gi M 467 2) - 1 ≤ 2147483647) (k1 : Q (some (rn_I (rn_b (0 ≤ xl1 ∧ xl1 ≤ (rn_gi M 467 2) - 1)))) M) : rn_WP 161 0 [rn_R 466, rn_I xl1] [] M Q := by
  refine (rn_step (e := (.iload_n 1, 1, 1, 0, 0, 0, 0, [])) rfl).mpr ?_
  refine (rn_step (e := (.iconst 0, 2, 0, 0, 0, 0, 0, [])) rfl).mpr ?_
  refine (rn_step (e := (.aload_n 0, 3, 0, 0, 0, 0, 0, [])) rfl).mpr ?_
  refine (rn_step (e := (.getfield 7, 6, 10, 0, 902, 2, 11, [])) rfl).mpr (And.intro ((rn_ks466 (M := M) hM)) (rn_cg (rn_g466_0 (M := M) hM) ?_))
  refine (rn_step (e := (.iconst 2, 7, 0, 0, 0, 0, 0, [])) rfl).mpr ?_
  refine (rn_step (e := (.iaload, 8, 0, 0, 0, 0, 0, [])) rfl).mpr (And.intro (Or.inl (rn_w467 (M := M) hM).1) (And.intro ((And.intro ((by decide)) (rn_lt (rn_w467 (M := M) hM).2 (by decide)))) (?_)))
  refine (rn_step (e := (.iconst 1, 9, 0, 0, 0, 0, 0, [])) rfl).mpr ?_
  refine (rn_step (e := (.isub, 10, 0, 0, 0, 0, 0, [])) rfl).mpr (rn_cw hr1.1 hr1.2 ?_)
  refine (rn_step (e := (.invokestatic 41, 13, 124, 3, 956, 0, 11, [0])) rfl).mpr (rc_Mo_in  ?_)
  exact (rn_step (e := (.ireturn, 14, 0, 0, 0, 1, 0, [])) rfl).mpr (And.intro (rn_b01) (k1))
theorem re_Mo_isSort {M : rn_M} {Q : rn_Q} {v0 v1 v2 v3 : rn_V} (h : rn_WP 191 0 [v0, v1, v2, v3] [] M Q) : rn_ME 191 [v0, v1, v2, v3] M Q := h
set_option maxRecDepth 4000 in
theorem rb_Mo_isSort_0 {M : rn_M} {Q : rn_Q} {xl1 : Int} {xl2 : Int} {xl3 : Int} (hM : rn_sh M)   (hr1 : (xl1 < rn_gi M 466 4) → (0 : Int) ≤ xl1 ∧ xl1 < (150 : Int)) (k1 : (xl1 < rn_gi M 466 4) → (¬ (xl2 ≤ rn_gi M 469 (xl1).toNat ∧ rn_gi M 469 (xl1).toNat ≤ xl3)) → Q (some (rn_I 0)) M) (k2 : (xl1 < rn_gi M 466 4) → (xl2 ≤ rn_gi M 469 (xl1).toNat ∧ rn_gi M 469 (xl1).toNat ≤ xl3) → Q (some (rn_I 1)) M) (k3 : (¬ (xl1 < rn_gi M 466 4)) → Q (some (rn_I 0)) M) : rn_WP 191 0 [rn_R 466, rn_I xl1, rn_I xl2, rn_I xl3] [] M Q := by
  refine (rn_step (e := (.iload_n 1, 1, 1, 0, 0, 0, 0, [])) rfl).mpr ?_
  refine (rn_step (e := (.aload_n 0, 2, 0, 0, 0, 0, 0, [])) rfl).mpr ?_
  refine (rn_step (e := (.getfield 167, 5, 10, 4, 906, 0, 11, [])) rfl).mpr (And.intro ((rn_ks466 (M := M) hM)) (?_))
  refine (rn_step (e := (.if_icmp .ge 21, 8, 26, 0, 0, 0, 0, [])) rfl).mpr (And.intro (fun c1 => ?_) (fun c1 => ?_))
  ·
    refine (rn_step (e := (.aload_n 0, 9, 0, 0, 0, 0, 0, [])) rfl).mpr ?_
    refine (rn_step (e := (.getfield 16, 12, 10, 3, 905, 2, 11, [])) rfl).mpr (And.intro ((rn_ks466 (M := M) hM)) (rn_cg (rn_g466_3 (M := M) hM) ?_))
    refine (rn_step (e := (.iload_n 1, 13, 1, 0, 0, 0, 0, [])) rfl).mpr ?_
    refine (rn_step (e := (.iaload, 14, 0, 0, 0, 0, 0, [])) rfl).mpr (And.intro (Or.inl (rn_w469 (M := M) hM).1) (And.intro ((And.intro ((hr1 c1).1) (rn_lt (rn_w469 (M := M) hM).2 (hr1 c1).2))) (?_)))
    refine (rn_step (e := (.iload_n 2, 15, 2, 0, 0, 0, 0, [])) rfl).mpr ?_
    refine (rn_step (e := (.iload_n 3, 16, 3, 0, 0, 0, 0, [])) rfl).mpr ?_
    refine (rn_step (e := (.invokestatic 41, 19, 124, 3, 956, 0, 11, [0])) rfl).mpr (rc_Mo_in  ?_)
    refine (rn_step (e := (.ifCond .eq 7, 22, 26, 0, 0, 0, 0, [])) rfl).mpr (And.intro (fun q => ?_) (fun q => ?_))
    · have c2 := rn_b0 q
      refine (rn_step (e := (.iconst 0, 27, 0, 0, 0, 0, 0, [])) rfl).mpr ?_
      exact (rn_step (e := (.ireturn, 28, 0, 0, 0, 1, 0, [])) rfl).mpr (And.intro ((Or.inl rfl)) ((k1 c1 c2)))
    · have c2 := rn_b1 q
      refine (rn_step (e := (.iconst 1, 23, 0, 0, 0, 0, 0, [])) rfl).mpr ?_
      refine (rn_step (e := (.goto 4, 26, 27, 0, 0, 0, 0, [])) rfl).mpr ?_
      exact (rn_step (e := (.ireturn, 28, 0, 0, 0, 1, 0, [])) rfl).mpr (And.intro ((Or.inr rfl)) ((k2 c1 c2)))
  ·
    refine (rn_step (e := (.iconst 0, 27, 0, 0, 0, 0, 0, [])) rfl).mpr ?_
    exact (rn_step (e := (.ireturn, 28, 0, 0, 0, 1, 0, [])) rfl).mpr (And.intro ((Or.inl rfl)) ((k3 c1)))
theorem re_Ri_columnAt {M : rn_M} {Q : rn_Q} {v0 v1 : rn_V} (h : rn_WP 65 0 [v0, v1] [] M Q) : rn_ME 65 [v0, v1] M Q := h
set_option maxRecDepth 4000 in
theorem rb_Ri_columnAt_0 {M : rn_M} {Q : rn_Q} {al0 : Nat} {xl1 : Int} (hM : rn_sh M) (p_al0 : rn_isR al0)  (hr1 : (0 ≤ xl1 ∧ xl1 ≤ rn_gi M al0 4) → (0 : Int) ≤ xl1 ∧ xl1 < (61 : Int)) (k1 : (¬ (0 ≤ xl1 ∧ xl1 ≤ rn_gi M al0 4)) → Q (some (rn_I (-9))) M) (k2 : (0 ≤ xl1 ∧ xl1 ≤ rn_gi M al0 4) → Q (some (rn_I (rn_gi M (al0 + 3) (xl1).toNat))) M) : rn_WP 65 0 [rn_R al0, rn_I xl1] [] M Q := by
  refine (rn_step (e := (.aload_n 0, 1, 0, 0, 0, 0, 0, [])) rfl).mpr ?_
  refine (rn_step (e := (.iload_n 1, 2, 1, 0, 0, 0, 0, [])) rfl).mpr ?_
  refine (rn_step (e := (.invokevirtual 71, 5, 64, 2, 533, 0, 6, [0])) rfl).mpr (And.intro ((rn_kR (M := M) hM p_al0)) ((rc_Ri_hasPlace hM p_al0  ?_)))
  refine (rn_step (e := (.ifCond .eq 12, 8, 17, 0, 0, 0, 0, [])) rfl).mpr (And.intro (fun q => ?_) (fun q => ?_))
  · have c1 := rn_b0 q
    refine (rn_step (e := (.bipush (-9), 19, 0, 0, 0, 0, 0, [])) rfl).mpr ?_
    exact (rn_step (e := (.ireturn, 20, 0, 0, 0, 0, 0, [])) rfl).mpr (And.intro (trivial) ((k1 c1)))
  · have c1 := rn_b1 q
    refine (rn_step (e := (.aload_n 0, 9, 0, 0, 0, 0, 0, [])) rfl).mpr ?_
    refine (rn_step (e := (.getfield 18, 12, 5, 7, 178, 2, 6, [])) rfl).mpr (And.intro ((rn_kR (M := M) hM p_al0)) (rn_cg (rn_gR7 (M := M) hM p_al0) ?_))
    refine (rn_step (e := (.iload_n 1, 13, 1, 0, 0, 0, 0, [])) rfl).mpr ?_
    refine (rn_step (e := (.iaload, 14, 0, 0, 0, 0, 0, [])) rfl).mpr (And.intro (Or.inl (rn_aR3 (M := M) hM p_al0).1) (And.intro ((And.intro ((hr1 c1).1) (rn_lt (rn_aR3 (M := M) hM p_al0).2 (hr1 c1).2))) (?_)))
    refine (rn_step (e := (.goto 5, 17, 19, 0, 0, 0, 0, [])) rfl).mpr ?_
    exact (rn_step (e := (.ireturn, 20, 0, 0, 0, 0, 0, [])) rfl).mpr (And.intro (trivial) ((k2 c1)))
theorem re_Ri_rowAt {M : rn_M} {Q : rn_Q} {v0 v1 : rn_V} (h : rn_WP 66 0 [v0, v1] [] M Q) : rn_ME 66 [v0, v1] M Q := h
set_option maxRecDepth 4000 in
theorem rb_Ri_rowAt_0 {M : rn_M} {Q : rn_Q} {al0 : Nat} {xl1 : Int} (hM : rn_sh M) (p_al0 : rn_isR al0)  (hr1 : (0 ≤ xl1 ∧ xl1 ≤ rn_gi M al0 4) → (0 : Int) ≤ xl1 ∧ xl1 < (61 : Int)) (k1 : (¬ (0 ≤ xl1 ∧ xl1 ≤ rn_gi M al0 4)) → Q (some (rn_I (-9))) M) (k2 : (0 ≤ xl1 ∧ xl1 ≤ rn_gi M al0 4) → Q (some (rn_I (rn_gi M (al0 + 4) (xl1).toNat))) M) : rn_WP 66 0 [rn_R al0, rn_I xl1] [] M Q := by
  refine (rn_step (e := (.aload_n 0, 1, 0, 0, 0, 0, 0, [])) rfl).mpr ?_
  refine (rn_step (e := (.iload_n 1, 2, 1, 0, 0, 0, 0, [])) rfl).mpr ?_
  refine (rn_step (e := (.invokevirtual 71, 5, 64, 2, 533, 0, 6, [0])) rfl).mpr (And.intro ((rn_kR (M := M) hM p_al0)) ((rc_Ri_hasPlace hM p_al0  ?_)))
  refine (rn_step (e := (.ifCond .eq 12, 8, 17, 0, 0, 0, 0, [])) rfl).mpr (And.intro (fun q => ?_) (fun q => ?_))
  · have c1 := rn_b0 q
    refine (rn_step (e := (.bipush (-9), 19, 0, 0, 0, 0, 0, [])) rfl).mpr ?_
    exact (rn_step (e := (.ireturn, 20, 0, 0, 0, 0, 0, [])) rfl).mpr (And.intro (trivial) ((k1 c1)))
  · have c1 := rn_b1 q
    refine (rn_step (e := (.aload_n 0, 9, 0, 0, 0, 0, 0, [])) rfl).mpr ?_
    refine (rn_step (e := (.getfield 21, 12, 5, 8, 179, 2, 6, [])) rfl).mpr (And.intro ((rn_kR (M := M) hM p_al0)) (rn_cg (rn_gR8 (M := M) hM p_al0) ?_))
    refine (rn_step (e := (.iload_n 1, 13, 1, 0, 0, 0, 0, [])) rfl).mpr ?_
    refine (rn_step (e := (.iaload, 14, 0, 0, 0, 0, 0, [])) rfl).mpr (And.intro (Or.inl (rn_aR4 (M := M) hM p_al0).1) (And.intro ((And.intro ((hr1 c1).1) (rn_lt (rn_aR4 (M := M) hM p_al0).2 (hr1 c1).2))) (?_)))
    refine (rn_step (e := (.goto 5, 17, 19, 0, 0, 0, 0, [])) rfl).mpr ?_
    exact (rn_step (e := (.ireturn, 20, 0, 0, 0, 0, 0, [])) rfl).mpr (And.intro (trivial) ((k2 c1)))
theorem re_Ri_letterAt {M : rn_M} {Q : rn_Q} {v0 v1 : rn_V} (h : rn_WP 67 0 [v0, v1] [] M Q) : rn_ME 67 [v0, v1] M Q := h
set_option maxRecDepth 4000 in
theorem rb_Ri_letterAt_0 {M : rn_M} {Q : rn_Q} {al0 : Nat} {xl1 : Int} (hM : rn_sh M) (p_al0 : rn_isR al0)  (hr1 : (-2147483648 : Int) ≤ (rn_gi M al0 3) - 1 ∧ (rn_gi M al0 3) - 1 ≤ 2147483647) (hr2 : (0 ≤ xl1 ∧ xl1 ≤ (rn_gi M al0 3) - 1) → (0 : Int) ≤ xl1 ∧ xl1 < (12 : Int)) (k1 : (¬ (0 ≤ xl1 ∧ xl1 ≤ (rn_gi M al0 3) - 1)) → Q (some (rn_I (-9))) M) (k2 : (0 ≤ xl1 ∧ xl1 ≤ (rn_gi M al0 3) - 1) → Q (some (rn_I (rn_gi M (al0 + 1) (xl1).toNat))) M) : rn_WP 67 0 [rn_R al0, rn_I xl1] [] M Q := by
  refine (rn_step (e := (.iload_n 1, 1, 1, 0, 0, 0, 0, [])) rfl).mpr ?_
  refine (rn_step (e := (.iconst 0, 2, 0, 0, 0, 0, 0, [])) rfl).mpr ?_
  refine (rn_step (e := (.aload_n 0, 3, 0, 0, 0, 0, 0, [])) rfl).mpr ?_
  refine (rn_step (e := (.getfield 34, 6, 5, 3, 170, 0, 6, [])) rfl).mpr (And.intro ((rn_kR (M := M) hM p_al0)) (?_))
  refine (rn_step (e := (.iconst 1, 7, 0, 0, 0, 0, 0, [])) rfl).mpr ?_
  refine (rn_step (e := (.isub, 8, 0, 0, 0, 0, 0, [])) rfl).mpr (rn_cw hr1.1 hr1.2 ?_)
  refine (rn_step (e := (.invokestatic 46, 11, 118, 3, 8, 0, 10, [1])) rfl).mpr (rc_RN_within  ?_)
  refine (rn_step (e := (.ifCond .eq 12, 14, 23, 0, 0, 0, 0, [])) rfl).mpr (And.intro (fun q => ?_) (fun q => ?_))
  · have c1 := rn_b0 q
    refine (rn_step (e := (.bipush (-9), 25, 0, 0, 0, 0, 0, [])) rfl).mpr ?_
    exact (rn_step (e := (.ireturn, 26, 0, 0, 0, 0, 0, [])) rfl).mpr (And.intro (trivial) ((k1 c1)))
  · have c1 := rn_b1 q
    refine (rn_step (e := (.aload_n 0, 15, 0, 0, 0, 0, 0, [])) rfl).mpr ?_
    refine (rn_step (e := (.getfield 9, 18, 5, 5, 176, 2, 6, [])) rfl).mpr (And.intro ((rn_kR (M := M) hM p_al0)) (rn_cg (rn_gR5 (M := M) hM p_al0) ?_))
    refine (rn_step (e := (.iload_n 1, 19, 1, 0, 0, 0, 0, [])) rfl).mpr ?_
    refine (rn_step (e := (.iaload, 20, 0, 0, 0, 0, 0, [])) rfl).mpr (And.intro (Or.inl (rn_aR1 (M := M) hM p_al0).1) (And.intro ((And.intro ((hr2 c1).1) (rn_lt (rn_aR1 (M := M) hM p_al0).2 (hr2 c1).2))) (?_)))
    refine (rn_step (e := (.goto 5, 23, 25, 0, 0, 0, 0, [])) rfl).mpr ?_
    exact (rn_step (e := (.ireturn, 26, 0, 0, 0, 0, 0, [])) rfl).mpr (And.intro (trivial) ((k2 c1)))
theorem re_Te_signAt {M : rn_M} {Q : rn_Q} {v0 v1 : rn_V} (h : rn_WP 85 0 [v0, v1] [] M Q) : rn_ME 85 [v0, v1] M Q := h
set_option maxRecDepth 4000 in
theorem rb_Te_signAt_0 {M : rn_M} {Q : rn_Q} {xl1 : Int} (hM : rn_sh M)   (hr1 : (-2147483648 : Int) ≤ (rn_gi M 10 0) - 1 ∧ (rn_gi M 10 0) - 1 ≤ 2147483647) (hr2 : (0 ≤ xl1 ∧ xl1 ≤ (rn_gi M 10 0) - 1) → (0 : Int) ≤ xl1 ∧ xl1 < (150 : Int)) (k1 : (¬ (0 ≤ xl1 ∧ xl1 ≤ (rn_gi M 10 0) - 1)) → Q (some (rn_I 0)) M) (k2 : (0 ≤ xl1 ∧ xl1 ≤ (rn_gi M 10 0) - 1) → Q (some (rn_I (rn_gi M 11 (xl1).toNat))) M) : rn_WP 85 0 [rn_R 10, rn_I xl1] [] M Q := by
  refine (rn_step (e := (.iload_n 1, 1, 1, 0, 0, 0, 0, [])) rfl).mpr ?_
  refine (rn_step (e := (.iconst 0, 2, 0, 0, 0, 0, 0, [])) rfl).mpr ?_
  refine (rn_step (e := (.aload_n 0, 3, 0, 0, 0, 0, 0, [])) rfl).mpr ?_
  refine (rn_step (e := (.getfield 15, 6, 7, 0, 106, 0, 8, [])) rfl).mpr (And.intro ((rn_ks10 (M := M) hM)) (?_))
  refine (rn_step (e := (.iconst 1, 7, 0, 0, 0, 0, 0, [])) rfl).mpr ?_
  refine (rn_step (e := (.isub, 8, 0, 0, 0, 0, 0, [])) rfl).mpr (rn_cw hr1.1 hr1.2 ?_)
  refine (rn_step (e := (.invokestatic 19, 11, 118, 3, 5, 0, 10, [1])) rfl).mpr (rc_RN_within  ?_)
  refine (rn_step (e := (.ifCond .eq 12, 14, 23, 0, 0, 0, 0, [])) rfl).mpr (And.intro (fun q => ?_) (fun q => ?_))
  · have c1 := rn_b0 q
    refine (rn_step (e := (.iconst 0, 24, 0, 0, 0, 0, 0, [])) rfl).mpr ?_
    exact (rn_step (e := (.ireturn, 25, 0, 0, 0, 0, 0, [])) rfl).mpr (And.intro (trivial) ((k1 c1)))
  · have c1 := rn_b1 q
    refine (rn_step (e := (.aload_n 0, 15, 0, 0, 0, 0, 0, [])) rfl).mpr ?_
    refine (rn_step (e := (.getfield 9, 18, 7, 1, 109, 2, 8, [])) rfl).mpr (And.intro ((rn_ks10 (M := M) hM)) (rn_cg (rn_g10_1 (M := M) hM) ?_))
    refine (rn_step (e := (.iload_n 1, 19, 1, 0, 0, 0, 0, [])) rfl).mpr ?_
    refine (rn_step (e := (.iaload, 20, 0, 0, 0, 0, 0, [])) rfl).mpr (And.intro (Or.inl (rn_w11 (M := M) hM).1) (And.intro ((And.intro ((hr2 c1).1) (rn_lt (rn_w11 (M := M) hM).2 (hr2 c1).2))) (?_)))
    refine (rn_step (e := (.goto 4, 23, 24, 0, 0, 0, 0, [])) rfl).mpr ?_
    exact (rn_step (e := (.ireturn, 25, 0, 0, 0, 0, 0, [])) rfl).mpr (And.intro (trivial) ((k2 c1)))
theorem re_To_isNear {M : rn_M} {Q : rn_Q} {v0 v1 v2 v3 : rn_V} (h : rn_WP 89 0 [v0, v1, v2, v3] [] M Q) : rn_ME 89 [v0, v1, v2, v3] M Q := h
set_option maxRecDepth 4000 in
theorem rb_To_isNear_0 {M : rn_M} {Q : rn_Q} {al0 : Nat} {xl1 : Int} {xl2 : Int} {xl3 : Int} (hM : rn_sh M) (p_al0 : rn_isT al0)  (hr1 : (-2147483648 : Int) ≤ (rn_gi M al0 0) - xl3 ∧ (rn_gi M al0 0) - xl3 ≤ 2147483647 ∧ (-2147483648 : Int) ≤ rn_gi M al0 0 + (rn_gi M al0 2) ∧ rn_gi M al0 0 + (rn_gi M al0 2) ≤ 2147483647 ∧ (-2147483648 : Int) ≤ (rn_gi M al0 0 + (rn_gi M al0 2)) - 1 ∧ (rn_gi M al0 0 + (rn_gi M al0 2)) - 1 ≤ 2147483647 ∧ (-2147483648 : Int) ≤ ((rn_gi M al0 0 + (rn_gi M al0 2)) - 1) + xl3 ∧ ((rn_gi M al0 0 + (rn_gi M al0 2)) - 1) + xl3 ≤ 2147483647) (hr2 : (((rn_gi M al0 0) - xl3) ≤ xl1 ∧ xl1 ≤ ((rn_gi M al0 0 + (rn_gi M al0 2)) - 1) + xl3) → (-2147483648 : Int) ≤ (rn_gi M al0 1) - xl3 ∧ (rn_gi M al0 1) - xl3 ≤ 2147483647 ∧ (-2147483648 : Int) ≤ rn_gi M al0 1 + (rn_gi M al0 3) ∧ rn_gi M al0 1 + (rn_gi M al0 3) ≤ 2147483647 ∧ (-2147483648 : Int) ≤ (rn_gi M al0 1 + (rn_gi M al0 3)) - 1 ∧ (rn_gi M al0 1 + (rn_gi M al0 3)) - 1 ≤ 2147483647 ∧ (-2147483648 : Int) ≤ ((rn_gi M al0 1 + (rn_gi M al0 3)) - 1) + xl3 ∧ ((rn_gi M al0 1 + (rn_gi M al0 3)) - 1) + xl3 ≤ 2147483647) (k1 : (¬ (((rn_gi M al0 0) - xl3) ≤ xl1 ∧ xl1 ≤ ((rn_gi M al0 0 + (rn_gi M al0 2)) - 1) + xl3)) → Q (some (rn_I 0)) M) (k2 : (((rn_gi M al0 0) - xl3) ≤ xl1 ∧ xl1 ≤ ((rn_gi M al0 0 + (rn_gi M al0 2)) - 1) + xl3) → (¬ (((rn_gi M al0 1) - xl3) ≤ xl2 ∧ xl2 ≤ ((rn_gi M al0 1 + (rn_gi M al0 3)) - 1) + xl3)) → Q (some (rn_I 0)) M) (k3 : (((rn_gi M al0 0) - xl3) ≤ xl1 ∧ xl1 ≤ ((rn_gi M al0 0 + (rn_gi M al0 2)) - 1) + xl3) → (((rn_gi M al0 1) - xl3) ≤ xl2 ∧ xl2 ≤ ((rn_gi M al0 1 + (rn_gi M al0 3)) - 1) + xl3) → Q (some (rn_I 1)) M) : rn_WP 89 0 [rn_R al0, rn_I xl1, rn_I xl2, rn_I xl3] [] M Q := by
  refine (rn_step (e := (.iload_n 1, 1, 1, 0, 0, 0, 0, [])) rfl).mpr ?_
  refine (rn_step (e := (.aload_n 0, 2, 0, 0, 0, 0, 0, [])) rfl).mpr ?_
  refine (rn_step (e := (.getfield 7, 5, 8, 0, 204, 0, 9, [])) rfl).mpr (And.intro ((rn_kT (M := M) hM p_al0)) (?_))
  refine (rn_step (e := (.iload_n 3, 6, 3, 0, 0, 0, 0, [])) rfl).mpr ?_
  refine (rn_step (e := (.isub, 7, 0, 0, 0, 0, 0, [])) rfl).mpr (rn_cw hr1.1 hr1.2.1 ?_)
  refine (rn_step (e := (.aload_n 0, 8, 0, 0, 0, 0, 0, [])) rfl).mpr ?_
  refine (rn_step (e := (.getfield 7, 11, 8, 0, 204, 0, 9, [])) rfl).mpr (And.intro ((rn_kT (M := M) hM p_al0)) (?_))
  refine (rn_step (e := (.aload_n 0, 12, 0, 0, 0, 0, 0, [])) rfl).mpr ?_
  refine (rn_step (e := (.getfield 16, 15, 8, 2, 208, 0, 9, [])) rfl).mpr (And.intro ((rn_kT (M := M) hM p_al0)) (?_))
  refine (rn_step (e := (.iadd, 16, 0, 0, 0, 0, 0, [])) rfl).mpr (rn_cw hr1.2.2.1 hr1.2.2.2.1 ?_)
  refine (rn_step (e := (.iconst 1, 17, 0, 0, 0, 0, 0, [])) rfl).mpr ?_
  refine (rn_step (e := (.isub, 18, 0, 0, 0, 0, 0, [])) rfl).mpr (rn_cw hr1.2.2.2.2.1 hr1.2.2.2.2.2.1 ?_)
  refine (rn_step (e := (.iload_n 3, 19, 3, 0, 0, 0, 0, [])) rfl).mpr ?_
  refine (rn_step (e := (.iadd, 20, 0, 0, 0, 0, 0, [])) rfl).mpr (rn_cw hr1.2.2.2.2.2.2.1 hr1.2.2.2.2.2.2.2 ?_)
  refine (rn_step (e := (.invokestatic 29, 23, 118, 3, 13, 0, 10, [1])) rfl).mpr (rc_RN_within  ?_)
  refine (rn_step (e := (.ifCond .eq 33, 26, 56, 0, 0, 0, 0, [])) rfl).mpr (And.intro (fun q => ?_) (fun q => ?_))
  · have c1 := rn_b0 q
    refine (rn_step (e := (.iconst 0, 57, 0, 0, 0, 0, 0, [])) rfl).mpr ?_
    exact (rn_step (e := (.ireturn, 58, 0, 0, 0, 1, 0, [])) rfl).mpr (And.intro ((Or.inl rfl)) ((k1 c1)))
  · have c1 := rn_b1 q
    refine (rn_step (e := (.iload_n 2, 27, 2, 0, 0, 0, 0, [])) rfl).mpr ?_
    refine (rn_step (e := (.aload_n 0, 28, 0, 0, 0, 0, 0, [])) rfl).mpr ?_
    refine (rn_step (e := (.getfield 13, 31, 8, 1, 206, 0, 9, [])) rfl).mpr (And.intro ((rn_kT (M := M) hM p_al0)) (?_))
    refine (rn_step (e := (.iload_n 3, 32, 3, 0, 0, 0, 0, [])) rfl).mpr ?_
    refine (rn_step (e := (.isub, 33, 0, 0, 0, 0, 0, [])) rfl).mpr (rn_cw (hr2 c1).1 (hr2 c1).2.1 ?_)
    refine (rn_step (e := (.aload_n 0, 34, 0, 0, 0, 0, 0, [])) rfl).mpr ?_
    refine (rn_step (e := (.getfield 13, 37, 8, 1, 206, 0, 9, [])) rfl).mpr (And.intro ((rn_kT (M := M) hM p_al0)) (?_))
    refine (rn_step (e := (.aload_n 0, 38, 0, 0, 0, 0, 0, [])) rfl).mpr ?_
    refine (rn_step (e := (.getfield 19, 41, 8, 3, 210, 0, 9, [])) rfl).mpr (And.intro ((rn_kT (M := M) hM p_al0)) (?_))
    refine (rn_step (e := (.iadd, 42, 0, 0, 0, 0, 0, [])) rfl).mpr (rn_cw (hr2 c1).2.2.1 (hr2 c1).2.2.2.1 ?_)
    refine (rn_step (e := (.iconst 1, 43, 0, 0, 0, 0, 0, [])) rfl).mpr ?_
    refine (rn_step (e := (.isub, 44, 0, 0, 0, 0, 0, [])) rfl).mpr (rn_cw (hr2 c1).2.2.2.2.1 (hr2 c1).2.2.2.2.2.1 ?_)
    refine (rn_step (e := (.iload_n 3, 45, 3, 0, 0, 0, 0, [])) rfl).mpr ?_
    refine (rn_step (e := (.iadd, 46, 0, 0, 0, 0, 0, [])) rfl).mpr (rn_cw (hr2 c1).2.2.2.2.2.2.1 (hr2 c1).2.2.2.2.2.2.2 ?_)
    refine (rn_step (e := (.invokestatic 29, 49, 118, 3, 13, 0, 10, [1])) rfl).mpr (rc_RN_within  ?_)
    refine (rn_step (e := (.ifCond .eq 7, 52, 56, 0, 0, 0, 0, [])) rfl).mpr (And.intro (fun q => ?_) (fun q => ?_))
    · have c2 := rn_b0 q
      refine (rn_step (e := (.iconst 0, 57, 0, 0, 0, 0, 0, [])) rfl).mpr ?_
      exact (rn_step (e := (.ireturn, 58, 0, 0, 0, 1, 0, [])) rfl).mpr (And.intro ((Or.inl rfl)) ((k2 c1 c2)))
    · have c2 := rn_b1 q
      refine (rn_step (e := (.iconst 1, 53, 0, 0, 0, 0, 0, [])) rfl).mpr ?_
      refine (rn_step (e := (.goto 4, 56, 57, 0, 0, 0, 0, [])) rfl).mpr ?_
      exact (rn_step (e := (.ireturn, 58, 0, 0, 0, 1, 0, [])) rfl).mpr (And.intro ((Or.inr rfl)) ((k3 c1 c2)))
theorem re_Ri_isNear {M : rn_M} {Q : rn_Q} {v0 v1 v2 v3 v4 : rn_V} (h : rn_WP 74 0 [v0, v1, v2, v3, v4] [] M Q) : rn_ME 74 [v0, v1, v2, v3, v4] M Q := h
set_option maxRecDepth 4000 in
theorem rb_Ri_isNear_0 {M : rn_M} {Q : rn_Q} {al0 : Nat} {xl1 : Int} {xl2 : Int} {xl3 : Int} {xl4 : Int} (hM : rn_sh M) (p_al0 : rn_isR al0)  (hr1 : (¬ (xl1 < 0)) → (¬ (rn_gi M al0 4 < xl1)) → (0 : Int) ≤ xl1 ∧ xl1 < (61 : Int) ∧ (-2147483648 : Int) ≤ (rn_gi M (al0 + 3) (xl1).toNat) - xl2 ∧ (rn_gi M (al0 + 3) (xl1).toNat) - xl2 ≤ 2147483647 ∧ (-2147483648 : Int) ≤ max ((rn_gi M (al0 + 3) (xl1).toNat) - xl2) (-((rn_gi M (al0 + 3) (xl1).toNat) - xl2)) ∧ max ((rn_gi M (al0 + 3) (xl1).toNat) - xl2) (-((rn_gi M (al0 + 3) (xl1).toNat) - xl2)) ≤ 2147483647) (hr2 : (¬ (xl1 < 0)) → (¬ (rn_gi M al0 4 < xl1)) → (¬ (xl4 < max ((rn_gi M (al0 + 3) (xl1).toNat) - xl2) (-((rn_gi M (al0 + 3) (xl1).toNat) - xl2)))) → (0 : Int) ≤ xl1 ∧ xl1 < (61 : Int) ∧ (-2147483648 : Int) ≤ (rn_gi M (al0 + 4) (xl1).toNat) - xl3 ∧ (rn_gi M (al0 + 4) (xl1).toNat) - xl3 ≤ 2147483647 ∧ (-2147483648 : Int) ≤ max ((rn_gi M (al0 + 4) (xl1).toNat) - xl3) (-((rn_gi M (al0 + 4) (xl1).toNat) - xl3)) ∧ max ((rn_gi M (al0 + 4) (xl1).toNat) - xl3) (-((rn_gi M (al0 + 4) (xl1).toNat) - xl3)) ≤ 2147483647) (k1 : (xl1 < 0) → Q (some (rn_I 0)) M) (k2 : (¬ (xl1 < 0)) → (rn_gi M al0 4 < xl1) → Q (some (rn_I 0)) M) (k3 : (¬ (xl1 < 0)) → (¬ (rn_gi M al0 4 < xl1)) → (xl4 < max ((rn_gi M (al0 + 3) (xl1).toNat) - xl2) (-((rn_gi M (al0 + 3) (xl1).toNat) - xl2))) → Q (some (rn_I 0)) M) (k4 : (¬ (xl1 < 0)) → (¬ (rn_gi M al0 4 < xl1)) → (¬ (xl4 < max ((rn_gi M (al0 + 3) (xl1).toNat) - xl2) (-((rn_gi M (al0 + 3) (xl1).toNat) - xl2)))) → (xl4 < max ((rn_gi M (al0 + 4) (xl1).toNat) - xl3) (-((rn_gi M (al0 + 4) (xl1).toNat) - xl3))) → Q (some (rn_I 0)) M) (k5 : (¬ (xl1 < 0)) → (¬ (rn_gi M al0 4 < xl1)) → (¬ (xl4 < max ((rn_gi M (al0 + 3) (xl1).toNat) - xl2) (-((rn_gi M (al0 + 3) (xl1).toNat) - xl2)))) → (¬ (xl4 < max ((rn_gi M (al0 + 4) (xl1).toNat) - xl3) (-((rn_gi M (al0 + 4) (xl1).toNat) - xl3)))) → Q (some (rn_I 1)) M) : rn_WP 74 0 [rn_R al0, rn_I xl1, rn_I xl2, rn_I xl3, rn_I xl4] [] M Q := by
  refine (rn_step (e := (.iload_n 1, 1, 1, 0, 0, 0, 0, [])) rfl).mpr ?_
  refine (rn_step (e := (.ifCond .lt 47, 4, 48, 0, 0, 0, 0, [])) rfl).mpr (And.intro (fun c1 => ?_) (fun c1 => ?_))
  ·
    refine (rn_step (e := (.iconst 0, 49, 0, 0, 0, 0, 0, [])) rfl).mpr ?_
    exact (rn_step (e := (.ireturn, 50, 0, 0, 0, 1, 0, [])) rfl).mpr (And.intro ((Or.inl rfl)) ((k1 c1)))
  ·
    refine (rn_step (e := (.iload_n 1, 5, 1, 0, 0, 0, 0, [])) rfl).mpr ?_
    refine (rn_step (e := (.aload_n 0, 6, 0, 0, 0, 0, 0, [])) rfl).mpr ?_
    refine (rn_step (e := (.getfield 37, 9, 5, 4, 173, 0, 6, [])) rfl).mpr (And.intro ((rn_kR (M := M) hM p_al0)) (?_))
    refine (rn_step (e := (.if_icmp .gt 39, 12, 48, 0, 0, 0, 0, [])) rfl).mpr (And.intro (fun c2 => ?_) (fun c2 => ?_))
    ·
      refine (rn_step (e := (.iconst 0, 49, 0, 0, 0, 0, 0, [])) rfl).mpr ?_
      exact (rn_step (e := (.ireturn, 50, 0, 0, 0, 1, 0, [])) rfl).mpr (And.intro ((Or.inl rfl)) ((k2 c1 c2)))
    ·
      refine (rn_step (e := (.aload_n 0, 13, 0, 0, 0, 0, 0, [])) rfl).mpr ?_
      refine (rn_step (e := (.getfield 18, 16, 5, 7, 178, 2, 6, [])) rfl).mpr (And.intro ((rn_kR (M := M) hM p_al0)) (rn_cg (rn_gR7 (M := M) hM p_al0) ?_))
      refine (rn_step (e := (.iload_n 1, 17, 1, 0, 0, 0, 0, [])) rfl).mpr ?_
      refine (rn_step (e := (.iaload, 18, 0, 0, 0, 0, 0, [])) rfl).mpr (And.intro (Or.inl (rn_aR3 (M := M) hM p_al0).1) (And.intro ((And.intro ((hr1 c1 c2).1) (rn_lt (rn_aR3 (M := M) hM p_al0).2 (hr1 c1 c2).2.1))) (?_)))
      refine (rn_step (e := (.iload_n 2, 19, 2, 0, 0, 0, 0, [])) rfl).mpr ?_
      refine (rn_step (e := (.isub, 20, 0, 0, 0, 0, 0, [])) rfl).mpr (rn_cw (hr1 c1 c2).2.2.1 (hr1 c1 c2).2.2.2.1 ?_)
      refine (rn_step (e := (.invokestatic 74, 23, 204, 1, 660, 7, 0, [0])) rfl).mpr (rn_cw (hr1 c1 c2).2.2.2.2.1 (hr1 c1 c2).2.2.2.2.2 ?_)
      refine (rn_step (e := (.iload 4, 25, 4, 0, 0, 0, 0, [])) rfl).mpr ?_
      refine (rn_step (e := (.if_icmp .gt 23, 28, 48, 0, 0, 0, 0, [])) rfl).mpr (And.intro (fun c3 => ?_) (fun c3 => ?_))
      ·
        refine (rn_step (e := (.iconst 0, 49, 0, 0, 0, 0, 0, [])) rfl).mpr ?_
        exact (rn_step (e := (.ireturn, 50, 0, 0, 0, 1, 0, [])) rfl).mpr (And.intro ((Or.inl rfl)) ((k3 c1 c2 c3)))
      ·
        refine (rn_step (e := (.aload_n 0, 29, 0, 0, 0, 0, 0, [])) rfl).mpr ?_
        refine (rn_step (e := (.getfield 21, 32, 5, 8, 179, 2, 6, [])) rfl).mpr (And.intro ((rn_kR (M := M) hM p_al0)) (rn_cg (rn_gR8 (M := M) hM p_al0) ?_))
        refine (rn_step (e := (.iload_n 1, 33, 1, 0, 0, 0, 0, [])) rfl).mpr ?_
        refine (rn_step (e := (.iaload, 34, 0, 0, 0, 0, 0, [])) rfl).mpr (And.intro (Or.inl (rn_aR4 (M := M) hM p_al0).1) (And.intro ((And.intro ((hr2 c1 c2 c3).1) (rn_lt (rn_aR4 (M := M) hM p_al0).2 (hr2 c1 c2 c3).2.1))) (?_)))
        refine (rn_step (e := (.iload_n 3, 35, 3, 0, 0, 0, 0, [])) rfl).mpr ?_
        refine (rn_step (e := (.isub, 36, 0, 0, 0, 0, 0, [])) rfl).mpr (rn_cw (hr2 c1 c2 c3).2.2.1 (hr2 c1 c2 c3).2.2.2.1 ?_)
        refine (rn_step (e := (.invokestatic 74, 39, 204, 1, 660, 7, 0, [0])) rfl).mpr (rn_cw (hr2 c1 c2 c3).2.2.2.2.1 (hr2 c1 c2 c3).2.2.2.2.2 ?_)
        refine (rn_step (e := (.iload 4, 41, 4, 0, 0, 0, 0, [])) rfl).mpr ?_
        refine (rn_step (e := (.if_icmp .gt 7, 44, 48, 0, 0, 0, 0, [])) rfl).mpr (And.intro (fun c4 => ?_) (fun c4 => ?_))
        ·
          refine (rn_step (e := (.iconst 0, 49, 0, 0, 0, 0, 0, [])) rfl).mpr ?_
          exact (rn_step (e := (.ireturn, 50, 0, 0, 0, 1, 0, [])) rfl).mpr (And.intro ((Or.inl rfl)) ((k4 c1 c2 c3 c4)))
        ·
          refine (rn_step (e := (.iconst 1, 45, 0, 0, 0, 0, 0, [])) rfl).mpr ?_
          refine (rn_step (e := (.goto 4, 48, 49, 0, 0, 0, 0, [])) rfl).mpr ?_
          exact (rn_step (e := (.ireturn, 50, 0, 0, 0, 1, 0, [])) rfl).mpr (And.intro ((Or.inr rfl)) ((k5 c1 c2 c3 c4)))
