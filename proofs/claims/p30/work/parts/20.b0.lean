theorem re_RN_within {M : rn_M} {Q : rn_Q} {v0 v1 v2 : rn_V} (h : rn_WP 118 0 [v0, v1, v2] [] M Q) : rn_ME 118 [v0, v1, v2] M Q := h
set_option maxRecDepth 4000 in
theorem rb_RN_within_0 {M : rn_M} {Q : rn_Q} {xl0 : Int} {xl1 : Int} {xl2 : Int}   (k1 : (xl0 < xl1) → Q (some (rn_I 0)) M) (k2 : (¬ (xl0 < xl1)) → (xl2 < xl0) → Q (some (rn_I 0)) M) (k3 : (¬ (xl0 < xl1)) → (¬ (xl2 < xl0)) → Q (some (rn_I 1)) M) : rn_WP 118 0 [rn_I xl0, rn_I xl1, rn_I xl2] [] M Q := by
  refine (rn_step (e := (.iload_n 0, 1, 0, 0, 0, 0, 0, [])) rfl).mpr ?_
  refine (rn_step (e := (.iload_n 1, 2, 1, 0, 0, 0, 0, [])) rfl).mpr ?_
  refine (rn_step (e := (.if_icmp .lt 12, 5, 14, 0, 0, 0, 0, [])) rfl).mpr (And.intro (fun c1 => ?_) (fun c1 => ?_))
  ·
    refine (rn_step (e := (.iconst 0, 15, 0, 0, 0, 0, 0, [])) rfl).mpr ?_
    exact (rn_step (e := (.ireturn, 16, 0, 0, 0, 1, 0, [])) rfl).mpr (And.intro ((Or.inl rfl)) ((k1 c1)))
  ·
    refine (rn_step (e := (.iload_n 0, 6, 0, 0, 0, 0, 0, [])) rfl).mpr ?_
    refine (rn_step (e := (.iload_n 2, 7, 2, 0, 0, 0, 0, [])) rfl).mpr ?_
    refine (rn_step (e := (.if_icmp .gt 7, 10, 14, 0, 0, 0, 0, [])) rfl).mpr (And.intro (fun c2 => ?_) (fun c2 => ?_))
    ·
      refine (rn_step (e := (.iconst 0, 15, 0, 0, 0, 0, 0, [])) rfl).mpr ?_
      exact (rn_step (e := (.ireturn, 16, 0, 0, 0, 1, 0, [])) rfl).mpr (And.intro ((Or.inl rfl)) ((k2 c1 c2)))
    ·
      refine (rn_step (e := (.iconst 1, 11, 0, 0, 0, 0, 0, [])) rfl).mpr ?_
      refine (rn_step (e := (.goto 4, 14, 15, 0, 0, 0, 0, [])) rfl).mpr ?_
      exact (rn_step (e := (.ireturn, 16, 0, 0, 0, 1, 0, [])) rfl).mpr (And.intro ((Or.inr rfl)) ((k3 c1 c2)))
theorem re_RN_onMap {M : rn_M} {Q : rn_Q} {v0 v1 : rn_V} (h : rn_WP 119 0 [v0, v1] [] M Q) : rn_ME 119 [v0, v1] M Q := h
set_option maxRecDepth 4000 in
theorem rb_RN_onMap_0 {M : rn_M} {Q : rn_Q} {xl0 : Int} {xl1 : Int}   (k1 : (xl0 < 0) → Q (some (rn_I 0)) M) (k2 : (¬ (xl0 < 0)) → (xl0 < 60) → (xl1 < 0) → Q (some (rn_I 0)) M) (k3 : (¬ (xl0 < 0)) → (xl0 < 60) → (¬ (xl1 < 0)) → (xl1 < 40) → Q (some (rn_I 1)) M) (k4 : (¬ (xl0 < 0)) → (xl0 < 60) → (¬ (xl1 < 0)) → (¬ (xl1 < 40)) → Q (some (rn_I 0)) M) (k5 : (¬ (xl0 < 0)) → (¬ (xl0 < 60)) → Q (some (rn_I 0)) M) : rn_WP 119 0 [rn_I xl0, rn_I xl1] [] M Q := by
  refine (rn_step (e := (.iload_n 0, 1, 0, 0, 0, 0, 0, [])) rfl).mpr ?_
  refine (rn_step (e := (.ifCond .lt 23, 4, 24, 0, 0, 0, 0, [])) rfl).mpr (And.intro (fun c1 => ?_) (fun c1 => ?_))
  ·
    refine (rn_step (e := (.iconst 0, 25, 0, 0, 0, 0, 0, [])) rfl).mpr ?_
    exact (rn_step (e := (.ireturn, 26, 0, 0, 0, 1, 0, [])) rfl).mpr (And.intro ((Or.inl rfl)) ((k1 c1)))
  ·
    refine (rn_step (e := (.iload_n 0, 5, 0, 0, 0, 0, 0, [])) rfl).mpr ?_
    refine (rn_step (e := (.bipush 60, 7, 0, 0, 0, 0, 0, [])) rfl).mpr ?_
    refine (rn_step (e := (.if_icmp .ge 17, 10, 24, 0, 0, 0, 0, [])) rfl).mpr (And.intro (fun c2 => ?_) (fun c2 => ?_))
    ·
      refine (rn_step (e := (.iload_n 1, 11, 1, 0, 0, 0, 0, [])) rfl).mpr ?_
      refine (rn_step (e := (.ifCond .lt 13, 14, 24, 0, 0, 0, 0, [])) rfl).mpr (And.intro (fun c3 => ?_) (fun c3 => ?_))
      ·
        refine (rn_step (e := (.iconst 0, 25, 0, 0, 0, 0, 0, [])) rfl).mpr ?_
        exact (rn_step (e := (.ireturn, 26, 0, 0, 0, 1, 0, [])) rfl).mpr (And.intro ((Or.inl rfl)) ((k2 c1 c2 c3)))
      ·
        refine (rn_step (e := (.iload_n 1, 15, 1, 0, 0, 0, 0, [])) rfl).mpr ?_
        refine (rn_step (e := (.bipush 40, 17, 0, 0, 0, 0, 0, [])) rfl).mpr ?_
        refine (rn_step (e := (.if_icmp .ge 7, 20, 24, 0, 0, 0, 0, [])) rfl).mpr (And.intro (fun c4 => ?_) (fun c4 => ?_))
        ·
          refine (rn_step (e := (.iconst 1, 21, 0, 0, 0, 0, 0, [])) rfl).mpr ?_
          refine (rn_step (e := (.goto 4, 24, 25, 0, 0, 0, 0, [])) rfl).mpr ?_
          exact (rn_step (e := (.ireturn, 26, 0, 0, 0, 1, 0, [])) rfl).mpr (And.intro ((Or.inr rfl)) ((k3 c1 c2 c3 c4)))
        ·
          refine (rn_step (e := (.iconst 0, 25, 0, 0, 0, 0, 0, [])) rfl).mpr ?_
          exact (rn_step (e := (.ireturn, 26, 0, 0, 0, 1, 0, [])) rfl).mpr (And.intro ((Or.inl rfl)) ((k4 c1 c2 c3 c4)))
    ·
      refine (rn_step (e := (.iconst 0, 25, 0, 0, 0, 0, 0, [])) rfl).mpr ?_
      exact (rn_step (e := (.ireturn, 26, 0, 0, 0, 1, 0, [])) rfl).mpr (And.intro ((Or.inl rfl)) ((k5 c1 c2)))
theorem re_Ri_hasPlace {M : rn_M} {Q : rn_Q} {v0 v1 : rn_V} (h : rn_WP 64 0 [v0, v1] [] M Q) : rn_ME 64 [v0, v1] M Q := h
set_option maxRecDepth 4000 in
theorem rb_Ri_hasPlace_0 {M : rn_M} {Q : rn_Q} {al0 : Nat} {xl1 : Int} (hM : rn_sh M) (p_al0 : rn_isR al0)  (k1 : (xl1 < 0) → Q (some (rn_I 0)) M) (k2 : (¬ (xl1 < 0)) → (rn_gi M al0 4 < xl1) → Q (some (rn_I 0)) M) (k3 : (¬ (xl1 < 0)) → (¬ (rn_gi M al0 4 < xl1)) → Q (some (rn_I 1)) M) : rn_WP 64 0 [rn_R al0, rn_I xl1] [] M Q := by
  refine (rn_step (e := (.iload_n 1, 1, 1, 0, 0, 0, 0, [])) rfl).mpr ?_
  refine (rn_step (e := (.ifCond .lt 15, 4, 16, 0, 0, 0, 0, [])) rfl).mpr (And.intro (fun c1 => ?_) (fun c1 => ?_))
  ·
    refine (rn_step (e := (.iconst 0, 17, 0, 0, 0, 0, 0, [])) rfl).mpr ?_
    exact (rn_step (e := (.ireturn, 18, 0, 0, 0, 1, 0, [])) rfl).mpr (And.intro ((Or.inl rfl)) ((k1 c1)))
  ·
    refine (rn_step (e := (.iload_n 1, 5, 1, 0, 0, 0, 0, [])) rfl).mpr ?_
    refine (rn_step (e := (.aload_n 0, 6, 0, 0, 0, 0, 0, [])) rfl).mpr ?_
    refine (rn_step (e := (.getfield 37, 9, 5, 4, 111, 0, 6, [])) rfl).mpr (And.intro ((rn_kR (M := M) hM p_al0)) (?_))
    refine (rn_step (e := (.if_icmp .gt 7, 12, 16, 0, 0, 0, 0, [])) rfl).mpr (And.intro (fun c2 => ?_) (fun c2 => ?_))
    ·
      refine (rn_step (e := (.iconst 0, 17, 0, 0, 0, 0, 0, [])) rfl).mpr ?_
      exact (rn_step (e := (.ireturn, 18, 0, 0, 0, 1, 0, [])) rfl).mpr (And.intro ((Or.inl rfl)) ((k2 c1 c2)))
    ·
      refine (rn_step (e := (.iconst 1, 13, 0, 0, 0, 0, 0, [])) rfl).mpr ?_
      refine (rn_step (e := (.goto 4, 16, 17, 0, 0, 0, 0, [])) rfl).mpr ?_
      exact (rn_step (e := (.ireturn, 18, 0, 0, 0, 1, 0, [])) rfl).mpr (And.intro ((Or.inr rfl)) ((k3 c1 c2)))
theorem re_Ri_lastStart {M : rn_M} {Q : rn_Q} {v0 v1 : rn_V} (h : rn_WP 68 0 [v0, v1] [] M Q) : rn_ME 68 [v0, v1] M Q := h
set_option maxRecDepth 4000 in
theorem rb_Ri_lastStart_0 {M : rn_M} {Q : rn_Q} {al0 : Nat} {xl1 : Int} (hM : rn_sh M) (p_al0 : rn_isR al0)  (hr1 : (-2147483648 : Int) ≤ rn_gi M al0 4 + 1 ∧ rn_gi M al0 4 + 1 ≤ 2147483647 ∧ (-2147483648 : Int) ≤ (rn_gi M al0 4 + 1) - xl1 ∧ (rn_gi M al0 4 + 1) - xl1 ≤ 2147483647) (k1 : Q (some (rn_I ((rn_gi M al0 4 + 1) - xl1))) M) : rn_WP 68 0 [rn_R al0, rn_I xl1] [] M Q := by
  refine (rn_step (e := (.aload_n 0, 1, 0, 0, 0, 0, 0, [])) rfl).mpr ?_
  refine (rn_step (e := (.getfield 37, 4, 5, 4, 111, 0, 6, [])) rfl).mpr (And.intro ((rn_kR (M := M) hM p_al0)) (?_))
  refine (rn_step (e := (.iconst 1, 5, 0, 0, 0, 0, 0, [])) rfl).mpr ?_
  refine (rn_step (e := (.iadd, 6, 0, 0, 0, 0, 0, [])) rfl).mpr (rn_cw hr1.1 hr1.2.1 ?_)
  refine (rn_step (e := (.iload_n 1, 7, 1, 0, 0, 0, 0, [])) rfl).mpr ?_
  refine (rn_step (e := (.isub, 8, 0, 0, 0, 0, 0, [])) rfl).mpr (rn_cw hr1.2.2.1 hr1.2.2.2 ?_)
  exact (rn_step (e := (.ireturn, 9, 0, 0, 0, 0, 0, [])) rfl).mpr (And.intro (trivial) (k1))
theorem re_Hi_present {M : rn_M} {Q : rn_Q} {v0 : rn_V} (h : rn_WP 20 0 [v0] [] M Q) : rn_ME 20 [v0] M Q := h
set_option maxRecDepth 4000 in
theorem rb_Hi_present_0 {M : rn_M} {Q : rn_Q}  (hM : rn_sh M)   (hr1 : rn_gr M 12 2 = some (rn_go M 12 2)) (k1 : Q (some (rn_R (rn_go M 12 2))) M) : rn_WP 20 0 [rn_R 12] [] M Q := by
  refine (rn_step (e := (.aload_n 0, 1, 0, 0, 0, 0, 0, [])) rfl).mpr ?_
  refine (rn_step (e := (.getfield 18, 4, 1, 2, 215, 2, 2, [])) rfl).mpr (And.intro ((rn_ks12 (M := M) hM)) (rn_cg hr1 ?_))
  exact (rn_step (e := (.areturn, 5, 0, 0, 0, 0, 0, [])) rfl).mpr k1
