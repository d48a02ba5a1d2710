theorem re_RN_isRank {M : rn_M} {Q : rn_Q} {v0 : rn_V} (h : rn_WP 120 0 [v0] [] M Q) : rn_ME 120 [v0] M Q := h
set_option maxRecDepth 4000 in
theorem rb_RN_isRank_0 {M : rn_M} {Q : rn_Q} {xl0 : Int}   (k1 : Q (some (rn_I (rn_b (1 ≤ xl0 ∧ xl0 ≤ 9)))) M) : rn_WP 120 0 [rn_I xl0] [] M Q := by
  refine (rn_step (e := (.iload_n 0, 1, 0, 0, 0, 0, 0, [])) rfl).mpr ?_
  refine (rn_step (e := (.iconst 1, 2, 0, 0, 0, 0, 0, [])) rfl).mpr ?_
  refine (rn_step (e := (.bipush 9, 4, 0, 0, 0, 0, 0, [])) rfl).mpr ?_
  refine (rn_step (e := (.invokestatic 37, 7, 118, 3, 457, 0, 10, [0])) rfl).mpr (rc_RN_within  ?_)
  exact (rn_step (e := (.ireturn, 8, 0, 0, 0, 1, 0, [])) rfl).mpr (And.intro (rn_b01) (k1))
theorem re_RN_isHalo {M : rn_M} {Q : rn_Q} {v0 : rn_V} (h : rn_WP 121 0 [v0] [] M Q) : rn_ME 121 [v0] M Q := h
set_option maxRecDepth 4000 in
theorem rb_RN_isHalo_0 {M : rn_M} {Q : rn_Q} {xl0 : Int}   (k1 : Q (some (rn_I (rn_b (0 ≤ xl0 ∧ xl0 ≤ 2)))) M) : rn_WP 121 0 [rn_I xl0] [] M Q := by
  refine (rn_step (e := (.iload_n 0, 1, 0, 0, 0, 0, 0, [])) rfl).mpr ?_
  refine (rn_step (e := (.iconst 0, 2, 0, 0, 0, 0, 0, [])) rfl).mpr ?_
  refine (rn_step (e := (.iconst 2, 3, 0, 0, 0, 0, 0, [])) rfl).mpr ?_
  refine (rn_step (e := (.invokestatic 37, 6, 118, 3, 457, 0, 10, [0])) rfl).mpr (rc_RN_within  ?_)
  exact (rn_step (e := (.ireturn, 7, 0, 0, 0, 1, 0, [])) rfl).mpr (And.intro (rn_b01) (k1))
theorem re_RN_isPlaceNumber {M : rn_M} {Q : rn_Q} {v0 : rn_V} (h : rn_WP 122 0 [v0] [] M Q) : rn_ME 122 [v0] M Q := h
set_option maxRecDepth 4000 in
theorem rb_RN_isPlaceNumber_0 {M : rn_M} {Q : rn_Q} {xl0 : Int}   (k1 : Q (some (rn_I (rn_b (0 ≤ xl0 ∧ xl0 ≤ 60)))) M) : rn_WP 122 0 [rn_I xl0] [] M Q := by
  refine (rn_step (e := (.iload_n 0, 1, 0, 0, 0, 0, 0, [])) rfl).mpr ?_
  refine (rn_step (e := (.iconst 0, 2, 0, 0, 0, 0, 0, [])) rfl).mpr ?_
  refine (rn_step (e := (.bipush 60, 4, 0, 0, 0, 0, 0, [])) rfl).mpr ?_
  refine (rn_step (e := (.invokestatic 37, 7, 118, 3, 457, 0, 10, [0])) rfl).mpr (rc_RN_within  ?_)
  exact (rn_step (e := (.ireturn, 8, 0, 0, 0, 1, 0, [])) rfl).mpr (And.intro (rn_b01) (k1))
theorem re_Ri_columnAt {M : rn_M} {Q : rn_Q} {v0 v1 : rn_V} (h : rn_WP 65 0 [v0, v1] [] M Q) : rn_ME 65 [v0, v1] M Q := h
set_option maxRecDepth 4000 in
theorem rb_Ri_columnAt_0 {M : rn_M} {Q : rn_Q} {al0 : Nat} {xl1 : Int} (hM : rn_sh M) (p_al0 : rn_isR al0)  (hr1 : (0 ≤ xl1 ∧ xl1 ≤ rn_gi M al0 4) → (0 : Int) ≤ xl1 ∧ xl1 < (61 : Int)) (k1 : (¬ (0 ≤ xl1 ∧ xl1 ≤ rn_gi M al0 4)) → Q (some (rn_I (-9))) M) (k2 : (0 ≤ xl1 ∧ xl1 ≤ rn_gi M al0 4) → Q (some (rn_I (rn_gi M (al0 + 3) (xl1).toNat))) M) : rn_WP 65 0 [rn_R al0, rn_I xl1] [] M Q := by
  refine (rn_step (e := (.aload_n 0, 1, 0, 0, 0, 0, 0, [])) rfl).mpr ?_
  refine (rn_step (e := (.iload_n 1, 2, 1, 0, 0, 0, 0, [])) rfl).mpr ?_
  refine (rn_step (e := (.invokevirtual 71, 5, 64, 2, 345, 0, 6, [0])) rfl).mpr (And.intro ((rn_kR (M := M) hM p_al0)) ((rc_Ri_hasPlace hM p_al0  ?_)))
  refine (rn_step (e := (.ifCond .eq 12, 8, 17, 0, 0, 0, 0, [])) rfl).mpr (And.intro (fun q => ?_) (fun q => ?_))
  · have c1 := rn_b0 q
    refine (rn_step (e := (.bipush (-9), 19, 0, 0, 0, 0, 0, [])) rfl).mpr ?_
    exact (rn_step (e := (.ireturn, 20, 0, 0, 0, 0, 0, [])) rfl).mpr (And.intro (trivial) ((k1 c1)))
  · have c1 := rn_b1 q
    refine (rn_step (e := (.aload_n 0, 9, 0, 0, 0, 0, 0, [])) rfl).mpr ?_
    refine (rn_step (e := (.getfield 18, 12, 5, 7, 116, 2, 6, [])) rfl).mpr (And.intro ((rn_kR (M := M) hM p_al0)) (rn_cg (rn_gR7 (M := M) hM p_al0) ?_))
    refine (rn_step (e := (.iload_n 1, 13, 1, 0, 0, 0, 0, [])) rfl).mpr ?_
    refine (rn_step (e := (.iaload, 14, 0, 0, 0, 0, 0, [])) rfl).mpr (And.intro (Or.inl (rn_aR3 (M := M) hM p_al0).1) (And.intro ((And.intro ((hr1 c1).1) (rn_lt (rn_aR3 (M := M) hM p_al0).2 (hr1 c1).2))) (?_)))
    refine (rn_step (e := (.goto 5, 17, 19, 0, 0, 0, 0, [])) rfl).mpr ?_
    exact (rn_step (e := (.ireturn, 20, 0, 0, 0, 0, 0, [])) rfl).mpr (And.intro (trivial) ((k2 c1)))
theorem re_Ri_rowAt {M : rn_M} {Q : rn_Q} {v0 v1 : rn_V} (h : rn_WP 66 0 [v0, v1] [] M Q) : rn_ME 66 [v0, v1] M Q := h
set_option maxRecDepth 4000 in
theorem rb_Ri_rowAt_0 {M : rn_M} {Q : rn_Q} {al0 : Nat} {xl1 : Int} (hM : rn_sh M) (p_al0 : rn_isR al0)  (hr1 : (0 ≤ xl1 ∧ xl1 ≤ rn_gi M al0 4) → (0 : Int) ≤ xl1 ∧ xl1 < (61 : Int)) (k1 : (¬ (0 ≤ xl1 ∧ xl1 ≤ rn_gi M al0 4)) → Q (some (rn_I (-9))) M) (k2 : (0 ≤ xl1 ∧ xl1 ≤ rn_gi M al0 4) → Q (some (rn_I (rn_gi M (al0 + 4) (xl1).toNat))) M) : rn_WP 66 0 [rn_R al0, rn_I xl1] [] M Q := by
  refine (rn_step (e := (.aload_n 0, 1, 0, 0, 0, 0, 0, [])) rfl).mpr ?_
  refine (rn_step (e := (.iload_n 1, 2, 1, 0, 0, 0, 0, [])) rfl).mpr ?_
  refine (rn_step (e := (.invokevirtual 71, 5, 64, 2, 345, 0, 6, [0])) rfl).mpr (And.intro ((rn_kR (M := M) hM p_al0)) ((rc_Ri_hasPlace hM p_al0  ?_)))
  refine (rn_step (e := (.ifCond .eq 12, 8, 17, 0, 0, 0, 0, [])) rfl).mpr (And.intro (fun q => ?_) (fun q => ?_))
  · have c1 := rn_b0 q
    refine (rn_step (e := (.bipush (-9), 19, 0, 0, 0, 0, 0, [])) rfl).mpr ?_
    exact (rn_step (e := (.ireturn, 20, 0, 0, 0, 0, 0, [])) rfl).mpr (And.intro (trivial) ((k1 c1)))
  · have c1 := rn_b1 q
    refine (rn_step (e := (.aload_n 0, 9, 0, 0, 0, 0, 0, [])) rfl).mpr ?_
    refine (rn_step (e := (.getfield 21, 12, 5, 8, 117, 2, 6, [])) rfl).mpr (And.intro ((rn_kR (M := M) hM p_al0)) (rn_cg (rn_gR8 (M := M) hM p_al0) ?_))
    refine (rn_step (e := (.iload_n 1, 13, 1, 0, 0, 0, 0, [])) rfl).mpr ?_
    refine (rn_step (e := (.iaload, 14, 0, 0, 0, 0, 0, [])) rfl).mpr (And.intro (Or.inl (rn_aR4 (M := M) hM p_al0).1) (And.intro ((And.intro ((hr1 c1).1) (rn_lt (rn_aR4 (M := M) hM p_al0).2 (hr1 c1).2))) (?_)))
    refine (rn_step (e := (.goto 5, 17, 19, 0, 0, 0, 0, [])) rfl).mpr ?_
    exact (rn_step (e := (.ireturn, 20, 0, 0, 0, 0, 0, [])) rfl).mpr (And.intro (trivial) ((k2 c1)))
theorem re_Ri_letterAt {M : rn_M} {Q : rn_Q} {v0 v1 : rn_V} (h : rn_WP 67 0 [v0, v1] [] M Q) : rn_ME 67 [v0, v1] M Q := h
set_option maxRecDepth 4000 in
theorem rb_Ri_letterAt_0 {M : rn_M} {Q : rn_Q} {al0 : Nat} {xl1 : Int} (hM : rn_sh M) (p_al0 : rn_isR al0)  (hr1 : (-2147483648 : Int) ≤ (rn_gi M al0 3) - 1 ∧ (rn_gi M al0 3) - 1 ≤ 2147483647) (hr2 : (0 ≤ xl1 ∧ xl1 ≤ (rn_gi M al0 3) - 1) → (0 : Int) ≤ xl1 ∧ xl1 < (12 : Int)) (k1 : (¬ (0 ≤ xl1 ∧ xl1 ≤ (rn_gi M al0 3) - 1)) → Q (some (rn_I (-9))) M) (k2 : (0 ≤ xl1 ∧ xl1 ≤ (rn_gi M al0 3) - 1) → Q (some (rn_I (rn_gi M (al0 + 1) (xl1).toNat))) M) : rn_WP 67 0 [rn_R al0, rn_I xl1] [] M Q := by
  refine (rn_step (e := (.iload_n 1, 1, 1, 0, 0, 0, 0, [])) rfl).mpr ?_
  refine (rn_step (e := (.iconst 0, 2, 0, 0, 0, 0, 0, [])) rfl).mpr ?_
  refine (rn_step (e := (.aload_n 0, 3, 0, 0, 0, 0, 0, [])) rfl).mpr ?_
  refine (rn_step (e := (.getfield 34, 6, 5, 3, 108, 0, 6, [])) rfl).mpr (And.intro ((rn_kR (M := M) hM p_al0)) (?_))
  refine (rn_step (e := (.iconst 1, 7, 0, 0, 0, 0, 0, [])) rfl).mpr ?_
  refine (rn_step (e := (.isub, 8, 0, 0, 0, 0, 0, [])) rfl).mpr (rn_cw hr1.1 hr1.2 ?_)
  refine (rn_step (e := (.invokestatic 46, 11, 118, 3, 9, 0, 10, [1])) rfl).mpr (rc_RN_within  ?_)
  refine (rn_step (e := (.ifCond .eq 12, 14, 23, 0, 0, 0, 0, [])) rfl).mpr (And.intro (fun q => ?_) (fun q => ?_))
  · have c1 := rn_b0 q
    refine (rn_step (e := (.bipush (-9), 25, 0, 0, 0, 0, 0, [])) rfl).mpr ?_
    exact (rn_step (e := (.ireturn, 26, 0, 0, 0, 0, 0, [])) rfl).mpr (And.intro (trivial) ((k1 c1)))
  · have c1 := rn_b1 q
    refine (rn_step (e := (.aload_n 0, 15, 0, 0, 0, 0, 0, [])) rfl).mpr ?_
    refine (rn_step (e := (.getfield 9, 18, 5, 5, 114, 2, 6, [])) rfl).mpr (And.intro ((rn_kR (M := M) hM p_al0)) (rn_cg (rn_gR5 (M := M) hM p_al0) ?_))
    refine (rn_step (e := (.iload_n 1, 19, 1, 0, 0, 0, 0, [])) rfl).mpr ?_
    refine (rn_step (e := (.iaload, 20, 0, 0, 0, 0, 0, [])) rfl).mpr (And.intro (Or.inl (rn_aR1 (M := M) hM p_al0).1) (And.intro ((And.intro ((hr2 c1).1) (rn_lt (rn_aR1 (M := M) hM p_al0).2 (hr2 c1).2))) (?_)))
    refine (rn_step (e := (.goto 5, 23, 25, 0, 0, 0, 0, [])) rfl).mpr ?_
    exact (rn_step (e := (.ireturn, 26, 0, 0, 0, 0, 0, [])) rfl).mpr (And.intro (trivial) ((k2 c1)))
theorem re_To_isNear {M : rn_M} {Q : rn_Q} {v0 v1 v2 v3 : rn_V} (h : rn_WP 89 0 [v0, v1, v2, v3] [] M Q) : rn_ME 89 [v0, v1, v2, v3] M Q := h
set_option maxRecDepth 4000 in
theorem rb_To_isNear_0 {M : rn_M} {Q : rn_Q} {al0 : Nat} {xl1 : Int} {xl2 : Int} {xl3 : Int} (hM : rn_sh M) (p_al0 : rn_isT al0)  (hr1 : (-2147483648 : Int) ≤ (rn_gi M al0 0) - xl3 ∧ (rn_gi M al0 0) - xl3 ≤ 2147483647 ∧ (-2147483648 : Int) ≤ rn_gi M al0 0 + (rn_gi M al0 2) ∧ rn_gi M al0 0 + (rn_gi M al0 2) ≤ 2147483647 ∧ (-2147483648 : Int) ≤ (rn_gi M al0 0 + (rn_gi M al0 2)) - 1 ∧ (rn_gi M al0 0 + (rn_gi M al0 2)) - 1 ≤ 2147483647 ∧ (-2147483648 : Int) ≤ ((rn_gi M al0 0 + (rn_gi M al0 2)) - 1) + xl3 ∧ ((rn_gi M al0 0 + (rn_gi M al0 2)) - 1) + xl3 ≤ 2147483647) (hr2 : (((rn_gi M al0 0) - xl3) ≤ xl1 ∧ xl1 ≤ ((rn_gi M al0 0 + (rn_gi M al0 2)) - 1) + xl3) → (-2147483648 : Int) ≤ (rn_gi M al0 1) - xl3 ∧ (rn_gi M al0 1) - xl3 ≤ 2147483647 ∧ (-2147483648 : Int) ≤ rn_gi M al0 1 + (rn_gi M al0 3) ∧ rn_gi M al0 1 + (rn_gi M al0 3) ≤ 2147483647 ∧ (-2147483648 : Int) ≤ (rn_gi M al0 1 + (rn_gi M al0 3)) - 1 ∧ (rn_gi M al0 1 + (rn_gi M al0 3)) - 1 ≤ 2147483647 ∧ (-2147483648 : Int) ≤ ((rn_gi M al0 1 + (rn_gi M al0 3)) - 1) + xl3 ∧ ((rn_gi M al0 1 + (rn_gi M al0 3)) - 1) + xl3 ≤ 2147483647) (k1 : (¬ (((rn_gi M al0 0) - xl3) ≤ xl1 ∧ xl1 ≤ ((rn_gi M al0 0 + (rn_gi M al0 2)) - 1) + xl3)) → Q (some (rn_I 0)) M) (k2 : (((rn_gi M al0 0) - xl3) ≤ xl1 ∧ xl1 ≤ ((rn_gi M al0 0 + (rn_gi M al0 2)) - 1) + xl3) → (¬ (((rn_gi M al0 1) - xl3) ≤ xl2 ∧ xl2 ≤ ((rn_gi M al0 1 + (rn_gi M al0 3)) - 1) + xl3)) → Q (some (rn_I 0)) M) (k3 : (((rn_gi M al0 0) - xl3) ≤ xl1 ∧ xl1 ≤ ((rn_gi M al0 0 + (rn_gi M al0 2)) - 1) + xl3) → (((rn_gi M al0 1) - xl3) ≤ xl2 ∧ xl2 ≤ ((rn_gi M al0 1 + (rn_gi M al0 3)) - 1) + xl3) → Q (some (rn_I 1)) M) : rn_WP 89 0 [rn_R al0, rn_I xl1, rn_I xl2, rn_I xl3] [] M Q := by
  refine (rn_step (e := (.iload_n 1, 1, 1, 0, 0, 0, 0, [])) rfl).mpr ?_
  refine (rn_step (e := (.aload_n 0, 2, 0, 0, 0, 0, 0, [])) rfl).mpr ?_
  refine (rn_step (e := (.getfield 7, 5, 8, 0, 142, 0, 9, [])) rfl).mpr (And.intro ((rn_kT (M := M) hM p_al0)) (?_))
  refine (rn_step (e := (.iload_n 3, 6, 3, 0, 0, 0, 0, [])) rfl).mpr ?_
  refine (rn_step (e := (.isub, 7, 0, 0, 0, 0, 0, [])) rfl).mpr (rn_cw hr1.1 hr1.2.1 ?_)
  refine (rn_step (e := (.aload_n 0, 8, 0, 0, 0, 0, 0, [])) rfl).mpr ?_
  refine (rn_step (e := (.getfield 7, 11, 8, 0, 142, 0, 9, [])) rfl).mpr (And.intro ((rn_kT (M := M) hM p_al0)) (?_))
  refine (rn_step (e := (.aload_n 0, 12, 0, 0, 0, 0, 0, [])) rfl).mpr ?_
  refine (rn_step (e := (.getfield 16, 15, 8, 2, 146, 0, 9, [])) rfl).mpr (And.intro ((rn_kT (M := M) hM p_al0)) (?_))
  refine (rn_step (e := (.iadd, 16, 0, 0, 0, 0, 0, [])) rfl).mpr (rn_cw hr1.2.2.1 hr1.2.2.2.1 ?_)
  refine (rn_step (e := (.iconst 1, 17, 0, 0, 0, 0, 0, [])) rfl).mpr ?_
  refine (rn_step (e := (.isub, 18, 0, 0, 0, 0, 0, [])) rfl).mpr (rn_cw hr1.2.2.2.2.1 hr1.2.2.2.2.2.1 ?_)
  refine (rn_step (e := (.iload_n 3, 19, 3, 0, 0, 0, 0, [])) rfl).mpr ?_
  refine (rn_step (e := (.iadd, 20, 0, 0, 0, 0, 0, [])) rfl).mpr (rn_cw hr1.2.2.2.2.2.2.1 hr1.2.2.2.2.2.2.2 ?_)
  refine (rn_step (e := (.invokestatic 29, 23, 118, 3, 7, 0, 10, [1])) rfl).mpr (rc_RN_within  ?_)
  refine (rn_step (e := (.ifCond .eq 33, 26, 56, 0, 0, 0, 0, [])) rfl).mpr (And.intro (fun q => ?_) (fun q => ?_))
  · have c1 := rn_b0 q
    refine (rn_step (e := (.iconst 0, 57, 0, 0, 0, 0, 0, [])) rfl).mpr ?_
    exact (rn_step (e := (.ireturn, 58, 0, 0, 0, 1, 0, [])) rfl).mpr (And.intro ((Or.inl rfl)) ((k1 c1)))
  · have c1 := rn_b1 q
    refine (rn_step (e := (.iload_n 2, 27, 2, 0, 0, 0, 0, [])) rfl).mpr ?_
    refine (rn_step (e := (.aload_n 0, 28, 0, 0, 0, 0, 0, [])) rfl).mpr ?_
    refine (rn_step (e := (.getfield 13, 31, 8, 1, 144, 0, 9, [])) rfl).mpr (And.intro ((rn_kT (M := M) hM p_al0)) (?_))
    refine (rn_step (e := (.iload_n 3, 32, 3, 0, 0, 0, 0, [])) rfl).mpr ?_
    refine (rn_step (e := (.isub, 33, 0, 0, 0, 0, 0, [])) rfl).mpr (rn_cw (hr2 c1).1 (hr2 c1).2.1 ?_)
    refine (rn_step (e := (.aload_n 0, 34, 0, 0, 0, 0, 0, [])) rfl).mpr ?_
    refine (rn_step (e := (.getfield 13, 37, 8, 1, 144, 0, 9, [])) rfl).mpr (And.intro ((rn_kT (M := M) hM p_al0)) (?_))
    refine (rn_step (e := (.aload_n 0, 38, 0, 0, 0, 0, 0, [])) rfl).mpr ?_
    refine (rn_step (e := (.getfield 19, 41, 8, 3, 148, 0, 9, [])) rfl).mpr (And.intro ((rn_kT (M := M) hM p_al0)) (?_))
    refine (rn_step (e := (.iadd, 42, 0, 0, 0, 0, 0, [])) rfl).mpr (rn_cw (hr2 c1).2.2.1 (hr2 c1).2.2.2.1 ?_)
    refine (rn_step (e := (.iconst 1, 43, 0, 0, 0, 0, 0, [])) rfl).mpr ?_
    refine (rn_step (e := (.isub, 44, 0, 0, 0, 0, 0, [])) rfl).mpr (rn_cw (hr2 c1).2.2.2.2.1 (hr2 c1).2.2.2.2.2.1 ?_)
    refine (rn_step (e := (.iload_n 3, 45, 3, 0, 0, 0, 0, [])) rfl).mpr ?_
    refine (rn_step (e := (.iadd, 46, 0, 0, 0, 0, 0, [])) rfl).mpr (rn_cw (hr2 c1).2.2.2.2.2.2.1 (hr2 c1).2.2.2.2.2.2.2 ?_)
    refine (rn_step (e := (.invokestatic 29, 49, 118, 3, 7, 0, 10, [1])) rfl).mpr (rc_RN_within  ?_)
    refine (rn_step (e := (.ifCond .eq 7, 52, 56, 0, 0, 0, 0, [])) rfl).mpr (And.intro (fun q => ?_) (fun q => ?_))
    · have c2 := rn_b0 q
      refine (rn_step (e := (.iconst 0, 57, 0, 0, 0, 0, 0, [])) rfl).mpr ?_
      exact (rn_step (e := (.ireturn, 58, 0, 0, 0, 1, 0, [])) rfl).mpr (And.intro ((Or.inl rfl)) ((k2 c1 c2)))
    · have c2 := rn_b1 q
      refine (rn_step (e := (.iconst 1, 53, 0, 0, 0, 0, 0, [])) rfl).mpr ?_
      refine (rn_step (e := (.goto 4, 56, 57, 0, 0, 0, 0, [])) rfl).mpr ?_
      exact (rn_step (e := (.ireturn, 58, 0, 0, 0, 1, 0, [])) rfl).mpr (And.intro ((Or.inr rfl)) ((k3 c1 c2)))
theorem re_Ri_isNear {M : rn_M} {Q : rn_Q} {v0 v1 v2 v3 v4 : rn_V} (h : rn_WP 74 0 [v0, v1, v2, v3, v4] [] M Q) : rn_ME 74 [v0, v1, v2, v3, v4] M Q := h
set_option maxRecDepth 4000 in
theorem rb_Ri_isNear_0 {M : rn_M} {Q : rn_Q} {al0 : Nat} {xl1 : Int} {xl2 : Int} {xl3 : Int} {xl4 : Int} (hM : rn_sh M) (p_al0 : rn_isR al0)  (hr1 : (¬ (xl1 < 0)) → (¬ (rn_gi M al0 4 < xl1)) → (0 : Int) ≤ xl1 ∧ xl1 < (61 : Int) ∧ (-2147483648 : Int) ≤ (rn_gi M (al0 + 3) (xl1).toNat) - xl2 ∧ (rn_gi M (al0 + 3) (xl1).toNat) - xl2 ≤ 2147483647 ∧ (-2147483648 : Int) ≤ max ((rn_gi M (al0 + 3) (xl1).toNat) - xl2) (-((rn_gi M (al0 + 3) (xl1).toNat) - xl2)) ∧ max ((rn_gi M (al0 + 3) (xl1).toNat) - xl2) (-((rn_gi M (al0 + 3) (xl1).toNat) - xl2)) ≤ 2147483647) (hr2 : (¬ (xl1 < 0)) → (¬ (rn_gi M al0 4 < xl1)) → (¬ (xl4 < max ((rn_gi M (al0 + 3) (xl1).toNat) - xl2) (-((rn_gi M (al0 + 3) (xl1).toNat) - xl2)))) → (0 : Int) ≤ xl1 ∧ xl1 < (61 : Int) ∧ (-2147483648 : Int) ≤ (rn_gi M (al0 + 4) (xl1).toNat) - xl3 ∧ (rn_gi M (al0 + 4) (xl1).toNat) - xl3 ≤ 2147483647 ∧ (-2147483648 : Int) ≤ max ((rn_gi M (al0 + 4) (xl1).toNat) - xl3) (-((rn_gi M (al0 + 4) (xl1).toNat) - xl3)) ∧ max ((rn_gi M (al0 + 4) (xl1).toNat) - xl3) (-((rn_gi M (al0 + 4) (xl1).toNat) - xl3)) ≤ 2147483647) (k1 : (xl1 < 0) → Q (some (rn_I 0)) M) (k2 : (¬ (xl1 < 0)) → (rn_gi M al0 4 < xl1) → Q (some (rn_I 0)) M) (k3 : (¬ (xl1 < 0)) → (¬ (rn_gi M al0 4 < xl1)) → (xl4 < max ((rn_gi M (al0 + 3) (xl1).toNat) - xl2) (-((rn_gi M (al0 + 3) (xl1).toNat) - xl2))) → Q (some (rn_I 0)) M) (k4 : (¬ (xl1 < 0)) → (¬ (rn_gi M al0 4 < xl1)) → (¬ (xl4 < max ((rn_gi M (al0 + 3) (xl1).toNat) - xl2) (-((rn_gi M (al0 + 3) (xl1).toNat) - xl2)))) → (xl4 < max ((rn_gi M (al0 + 4) (xl1).toNat) - xl3) (-((rn_gi M (al0 + 4) (xl1).toNat) - xl3))) → Q (some (rn_I 0)) M) (k5 : (¬ (xl1 < 0)) → (¬ (rn_gi M al0 4 < xl1)) → (¬ (xl4 < max ((rn_gi M (al0 + 3) (xl1).toNat) - xl2) (-((rn_gi M (al0 + 3) (xl1).toNat) - xl2)))) → (¬ (xl4 < max ((rn_gi M (al0 + 4) (xl1).toNat) - xl3) (-((rn_gi M (al0 + 4) (xl1).toNat) - xl3)))) → Q (some (rn_I 1)) M) : rn_WP 74 0 [rn_R al0, rn_I xl1, rn_I xl2, rn_I xl3, rn_I xl4] [] M Q := by
  refine (rn_step (e := (.iload_n 1, 1, 1, 0, 0, 0, 0, [])) rfl).mpr ?_
  refine (rn_step (e := (.ifCond .lt 47, 4, 48, 0, 0, 0, 0, [])) rfl).mpr (And.intro (fun c1 => ?_) (fun c1 => ?_))
  ·
    refine (rn_step (e := (.iconst 0, 49, 0, 0, 0, 0, 0, [])) rfl).mpr ?_
    exact (rn_step (e := (.ireturn, 50, 0, 0, 0, 1, 0, [])) rfl).mpr (And.intro ((Or.inl rfl)) ((k1 c1)))
  ·
    refine (rn_step (e := (.iload_n 1, 5, 1, 0, 0, 0, 0, [])) rfl).mpr ?_
    refine (rn_step (e := (.aload_n 0, 6, 0, 0, 0, 0, 0, [])) rfl).mpr ?_
    refine (rn_step (e := (.getfield 37, 9, 5, 4, 111, 0, 6, [])) rfl).mpr (And.intro ((rn_kR (M := M) hM p_al0)) (?_))
    refine (rn_step (e := (.if_icmp .gt 39, 12, 48, 0, 0, 0, 0, [])) rfl).mpr (And.intro (fun c2 => ?_) (fun c2 => ?_))
    ·
      refine (rn_step (e := (.iconst 0, 49, 0, 0, 0, 0, 0, [])) rfl).mpr ?_
      exact (rn_step (e := (.ireturn, 50, 0, 0, 0, 1, 0, [])) rfl).mpr (And.intro ((Or.inl rfl)) ((k2 c1 c2)))
    ·
      refine (rn_step (e := (.aload_n 0, 13, 0, 0, 0, 0, 0, [])) rfl).mpr ?_
      refine (rn_step (e := (.getfield 18, 16, 5, 7, 116, 2, 6, [])) rfl).mpr (And.intro ((rn_kR (M := M) hM p_al0)) (rn_cg (rn_gR7 (M := M) hM p_al0) ?_))
      refine (rn_step (e := (.iload_n 1, 17, 1, 0, 0, 0, 0, [])) rfl).mpr ?_
      refine (rn_step (e := (.iaload, 18, 0, 0, 0, 0, 0, [])) rfl).mpr (And.intro (Or.inl (rn_aR3 (M := M) hM p_al0).1) (And.intro ((And.intro ((hr1 c1 c2).1) (rn_lt (rn_aR3 (M := M) hM p_al0).2 (hr1 c1 c2).2.1))) (?_)))
      refine (rn_step (e := (.iload_n 2, 19, 2, 0, 0, 0, 0, [])) rfl).mpr ?_
      refine (rn_step (e := (.isub, 20, 0, 0, 0, 0, 0, [])) rfl).mpr (rn_cw (hr1 c1 c2).2.2.1 (hr1 c1 c2).2.2.2.1 ?_)
      refine (rn_step (e := (.invokestatic 74, 23, 204, 1, 305, 7, 0, [0])) rfl).mpr (rn_cw (hr1 c1 c2).2.2.2.2.1 (hr1 c1 c2).2.2.2.2.2 ?_)
      refine (rn_step (e := (.iload 4, 25, 4, 0, 0, 0, 0, [])) rfl).mpr ?_
      refine (rn_step (e := (.if_icmp .gt 23, 28, 48, 0, 0, 0, 0, [])) rfl).mpr (And.intro (fun c3 => ?_) (fun c3 => ?_))
      ·
        refine (rn_step (e := (.iconst 0, 49, 0, 0, 0, 0, 0, [])) rfl).mpr ?_
        exact (rn_step (e := (.ireturn, 50, 0, 0, 0, 1, 0, [])) rfl).mpr (And.intro ((Or.inl rfl)) ((k3 c1 c2 c3)))
      ·
        refine (rn_step (e := (.aload_n 0, 29, 0, 0, 0, 0, 0, [])) rfl).mpr ?_
        refine (rn_step (e := (.getfield 21, 32, 5, 8, 117, 2, 6, [])) rfl).mpr (And.intro ((rn_kR (M := M) hM p_al0)) (rn_cg (rn_gR8 (M := M) hM p_al0) ?_))
        refine (rn_step (e := (.iload_n 1, 33, 1, 0, 0, 0, 0, [])) rfl).mpr ?_
        refine (rn_step (e := (.iaload, 34, 0, 0, 0, 0, 0, [])) rfl).mpr (And.intro (Or.inl (rn_aR4 (M := M) hM p_al0).1) (And.intro ((And.intro ((hr2 c1 c2 c3).1) (rn_lt (rn_aR4 (M := M) hM p_al0).2 (hr2 c1 c2 c3).2.1))) (?_)))
        refine (rn_step (e := (.iload_n 3, 35, 3, 0, 0, 0, 0, [])) rfl).mpr ?_
        refine (rn_step (e := (.isub, 36, 0, 0, 0, 0, 0, [])) rfl).mpr (rn_cw (hr2 c1 c2 c3).2.2.1 (hr2 c1 c2 c3).2.2.2.1 ?_)
        refine (rn_step (e := (.invokestatic 74, 39, 204, 1, 305, 7, 0, [0])) rfl).mpr (rn_cw (hr2 c1 c2 c3).2.2.2.2.1 (hr2 c1 c2 c3).2.2.2.2.2 ?_)
        refine (rn_step (e := (.iload 4, 41, 4, 0, 0, 0, 0, [])) rfl).mpr ?_
        refine (rn_step (e := (.if_icmp .gt 7, 44, 48, 0, 0, 0, 0, [])) rfl).mpr (And.intro (fun c4 => ?_) (fun c4 => ?_))
        ·
          refine (rn_step (e := (.iconst 0, 49, 0, 0, 0, 0, 0, [])) rfl).mpr ?_
          exact (rn_step (e := (.ireturn, 50, 0, 0, 0, 1, 0, [])) rfl).mpr (And.intro ((Or.inl rfl)) ((k4 c1 c2 c3 c4)))
        ·
          refine (rn_step (e := (.iconst 1, 45, 0, 0, 0, 0, 0, [])) rfl).mpr ?_
          refine (rn_step (e := (.goto 4, 48, 49, 0, 0, 0, 0, [])) rfl).mpr ?_
          exact (rn_step (e := (.ireturn, 50, 0, 0, 0, 1, 0, [])) rfl).mpr (And.intro ((Or.inr rfl)) ((k5 c1 c2 c3 c4)))
