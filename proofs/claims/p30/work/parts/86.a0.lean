theorem re_Lw_cell {M : rn_M} {Q : rn_Q} {v0 v1 : rn_V} (h : rn_WP 123 0 [v0, v1, rn_J] [] M Q) : rn_ME 123 [v0, v1] M Q := h
set_option maxRecDepth 4000 in
theorem rb_Lw_cell_0 {M : rn_M} {Q : rn_Q} {al0 : Nat} {xl1 : Int} {vl2 : rn_V} {n1 : Nat}  (h1 : rn_fa M al0 n1) (hr1 : (xl1 < (n1 : Int)) → (0 : Int) ≤ xl1 ∧ xl1 < (n1 : Int)) (k1 : (xl1 < (n1 : Int)) → Q (some (rn_I (rn_xor (rn_gi M al0 (xl1).toNat) (rn_usr (rn_gi M al0 (xl1).toNat) 15)))) M) (k2 : (¬ (xl1 < (n1 : Int))) → Q (some (rn_I (rn_xor (rn_wr (916318735 * (rn_wr (xl1 + 3)))) (rn_usr (rn_wr (916318735 * (rn_wr (xl1 + 3)))) 15)))) M) : rn_WP 123 0 [rn_R al0, rn_I xl1, vl2] [] M Q := by
  refine (rn_step (e := (.iload_n 1, 1, 1, 0, 0, 0, 0, [])) rfl).mpr ?_
  refine (rn_step (e := (.aload_n 0, 2, 0, 0, 0, 0, 0, [])) rfl).mpr ?_
  refine (rn_step (e := (.arraylength, 3, 0, 0, 0, 0, 0, [])) rfl).mpr (And.intro (Or.inr h1.1) (rn_cn2 h1.2 ?_))
  refine (rn_step (e := (.if_icmp .ge 9, 6, 12, 0, 0, 0, 0, [])) rfl).mpr (And.intro (fun c1 => ?_) (fun c1 => ?_))
  ·
    refine (rn_step (e := (.aload_n 0, 7, 0, 0, 0, 0, 0, [])) rfl).mpr ?_
    refine (rn_step (e := (.iload_n 1, 8, 1, 0, 0, 0, 0, [])) rfl).mpr ?_
    refine (rn_step (e := (.iaload, 9, 0, 0, 0, 0, 0, [])) rfl).mpr (And.intro (Or.inr h1.1) (And.intro ((And.intro ((hr1 c1).1) (rn_lt h1.2 (hr1 c1).2))) (?_)))
    refine (rn_step (e := (.goto 9, 12, 18, 0, 0, 0, 0, [])) rfl).mpr ?_
    refine (rn_step (e := (.istore_n 2, 19, 2, 0, 0, 1, 0, [])) rfl).mpr (And.intro (rn_lnq rfl rfl) (?_))
    refine (rn_step (e := (.iload_n 2, 20, 2, 0, 0, 0, 0, [])) rfl).mpr ?_
    refine (rn_step (e := (.iload_n 2, 21, 2, 0, 0, 0, 0, [])) rfl).mpr ?_
    refine (rn_step (e := (.bipush 15, 23, 0, 0, 0, 0, 0, [])) rfl).mpr ?_
    refine (rn_step (e := (.iushr, 24, 0, 0, 0, 0, 0, [])) rfl).mpr ?_
    refine (rn_step (e := (.ixor, 25, 0, 0, 0, 0, 0, [])) rfl).mpr ?_
    exact (rn_step (e := (.ireturn, 26, 0, 0, 0, 0, 0, [])) rfl).mpr (And.intro (trivial) ((k1 c1)))
  ·
    refine (rn_step (e := (.ldc 7, 14, 916318735, 0, 416, 0, 0, [])) rfl).mpr ?_
    refine (rn_step (e := (.iload_n 1, 15, 1, 0, 0, 0, 0, [])) rfl).mpr ?_
    refine (rn_step (e := (.iconst 3, 16, 0, 0, 0, 0, 0, [])) rfl).mpr ?_
    refine (rn_step (e := (.iadd, 17, 0, 0, 0, 0, 0, [])) rfl).mpr ?_
    refine (rn_step (e := (.imul, 18, 0, 0, 0, 0, 0, [])) rfl).mpr ?_
    refine (rn_step (e := (.istore_n 2, 19, 2, 0, 0, 1, 0, [])) rfl).mpr (And.intro (rn_lnq rfl rfl) (?_))
    refine (rn_step (e := (.iload_n 2, 20, 2, 0, 0, 0, 0, [])) rfl).mpr ?_
    refine (rn_step (e := (.iload_n 2, 21, 2, 0, 0, 0, 0, [])) rfl).mpr ?_
    refine (rn_step (e := (.bipush 15, 23, 0, 0, 0, 0, 0, [])) rfl).mpr ?_
    refine (rn_step (e := (.iushr, 24, 0, 0, 0, 0, 0, [])) rfl).mpr ?_
    refine (rn_step (e := (.ixor, 25, 0, 0, 0, 0, 0, [])) rfl).mpr ?_
    exact (rn_step (e := (.ireturn, 26, 0, 0, 0, 0, 0, [])) rfl).mpr (And.intro (trivial) ((k2 c1)))
theorem re_Lw_low {M : rn_M} {Q : rn_Q} {v0 v1 : rn_V} (h : rn_WP 124 0 [v0, v1] [] M Q) : rn_ME 124 [v0, v1] M Q := h
set_option maxRecDepth 4000 in
theorem rb_Lw_low_0 {M : rn_M} {Q : rn_Q} {xl0 : Int} {xl1 : Int}   (hr1 : (0 : Int) ≤ rn_and xl0 2147483647 ∧ (0 : Int) < xl1) (k1 : Q (some (rn_I ((rn_and xl0 2147483647) % xl1))) M) : rn_WP 124 0 [rn_I xl0, rn_I xl1] [] M Q := by
  refine (rn_step (e := (.iload_n 0, 1, 0, 0, 0, 0, 0, [])) rfl).mpr ?_
  refine (rn_step (e := (.ldc 8, 3, 2147483647, 0, 420, 0, 0, [])) rfl).mpr ?_
  refine (rn_step (e := (.iand, 4, 0, 0, 0, 0, 0, [])) rfl).mpr ?_
  refine (rn_step (e := (.iload_n 1, 5, 1, 0, 0, 0, 0, [])) rfl).mpr ?_
  refine (rn_step (e := (.irem, 6, 0, 0, 0, 0, 0, [])) rfl).mpr (And.intro (hr1.1) (And.intro (hr1.2) (?_)))
  exact (rn_step (e := (.ireturn, 7, 0, 0, 0, 0, 0, [])) rfl).mpr (And.intro (trivial) (k1))
theorem re_Lw_size {M : rn_M} {Q : rn_Q} {v0 : rn_V} (h : rn_WP 125 0 [v0] [] M Q) : rn_ME 125 [v0] M Q := h
set_option maxRecDepth 4000 in
theorem rb_Lw_size_0 {M : rn_M} {Q : rn_Q} {xl0 : Int}   (hr1 : (¬ (0 ≤ xl0)) → (-2147483648 : Int) ≤ -xl0 ∧ -xl0 ≤ 2147483647) (k1 : (0 ≤ xl0) → Q (some (rn_I xl0)) M) (k2 : (¬ (0 ≤ xl0)) → Q (some (rn_I (-xl0))) M) : rn_WP 125 0 [rn_I xl0] [] M Q := by
  refine (rn_step (e := (.iload_n 0, 1, 0, 0, 0, 0, 0, [])) rfl).mpr ?_
  refine (rn_step (e := (.ifCond .ge 8, 4, 9, 0, 0, 0, 0, [])) rfl).mpr (And.intro (fun c1 => ?_) (fun c1 => ?_))
  ·
    refine (rn_step (e := (.iload_n 0, 10, 0, 0, 0, 0, 0, [])) rfl).mpr ?_
    exact (rn_step (e := (.ireturn, 11, 0, 0, 0, 0, 0, [])) rfl).mpr (And.intro (trivial) ((k1 c1)))
  ·
    refine (rn_step (e := (.iload_n 0, 5, 0, 0, 0, 0, 0, [])) rfl).mpr ?_
    refine (rn_step (e := (.ineg, 6, 0, 0, 0, 0, 0, [])) rfl).mpr (rn_cw (hr1 c1).1 (hr1 c1).2 ?_)
    refine (rn_step (e := (.goto 4, 9, 10, 0, 0, 0, 0, [])) rfl).mpr ?_
    exact (rn_step (e := (.ireturn, 11, 0, 0, 0, 0, 0, [])) rfl).mpr (And.intro (trivial) ((k2 c1)))
