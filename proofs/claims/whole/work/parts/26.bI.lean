theorem re_Lw_law {M : rn_M} {Q : rn_Q} {v0 : rn_V} (h : rn_WP 215 0 [v0, rn_J, rn_J, rn_J] [] M Q) : rn_ME 215 [v0] M Q := h
set_option maxRecDepth 4000 in
theorem rb_Lw_law_0 {M : rn_M} {Q : rn_Q} {vl0 : rn_V} {vl1 : rn_V} {vl2 : rn_V} {vl3 : rn_V}  (h1 : rn_kd (rn_nw M 10 4) M.1.length = 10) (hr1 : 1 ≤ M.2.1.1 ∧ 4 ≤ M.2.1.2) (k1 : 600 ≤ (rn_nw M 10 4).2.1.1 ∧ 50000 ≤ (rn_nw M 10 4).2.1.2 ∧ rn_ME 90 [rn_R M.1.length] (rn_sb (rn_nw M 10 4) 600 50000) (fun r M1 => rn_WP 215 7 [vl0, vl1, vl2, vl3] (r.toList ++ [rn_R M.1.length]) (rn_sb M1 ((rn_nw M 10 4).2.1.1 - 600) ((rn_nw M 10 4).2.1.2 - 50000)) Q)) : rn_WP 215 0 [vl0, vl1, vl2, vl3] [] M Q := by
  refine (rn_step (e := (.new 7, 3, 9, 0, 86, 0, 0, [])) rfl).mpr (And.intro (hr1.1) (And.intro (hr1.2) (?_)))
  refine (rn_step (e := (.dup, 4, 0, 0, 0, 0, 0, [])) rfl).mpr ?_
  exact (rn_step (e := (.invokespecial 9, 7, 90, 1, 88, 4, 10, [0])) rfl).mpr (And.intro (h1) (k1))
set_option maxRecDepth 4000 in
theorem rb_Lw_law_7 {M : rn_M} {Q : rn_Q} {vl0 : rn_V} {vl1 : rn_V} {vl2 : rn_V} {vl3 : rn_V} {rs0 : Option Nat}  (h1 : rn_kd (rn_nw M 11 15) M.1.length = 11) (hr1 : 1 ≤ M.2.1.1 ∧ 15 ≤ M.2.1.2) (k1 : 20 ≤ (rn_nw M 11 15).2.1.1 ∧ 10000 ≤ (rn_nw M 11 15).2.1.2 ∧ rn_ME 123 [rn_R M.1.length] (rn_sb (rn_nw M 11 15) 20 10000) (fun r M1 => rn_WP 215 15 [vl0, .inr (some rs0), vl2, vl3] (r.toList ++ [rn_R M.1.length]) (rn_sb M1 ((rn_nw M 11 15).2.1.1 - 20) ((rn_nw M 11 15).2.1.2 - 10000)) Q)) : rn_WP 215 7 [vl0, vl1, vl2, vl3] [.inr (some rs0)] M Q := by
  refine (rn_step (e := (.astore_n 1, 8, 1, 0, 0, 0, 0, [])) rfl).mpr ?_
  refine (rn_step (e := (.new 10, 11, 10, 0, 896, 0, 0, [])) rfl).mpr (And.intro (hr1.1) (And.intro (hr1.2) (?_)))
  refine (rn_step (e := (.dup, 12, 0, 0, 0, 0, 0, [])) rfl).mpr ?_
  exact (rn_step (e := (.invokespecial 12, 15, 123, 1, 898, 4, 11, [0])) rfl).mpr (And.intro (h1) (k1))
set_option maxRecDepth 4000 in
theorem rb_Lw_law_15 {M : rn_M} {Q : rn_Q} {vl0 : rn_V} {vl1 : rn_V} {vl2 : rn_V} {vl3 : rn_V} {rs0 : Option Nat}   (k1 : rn_WP 215 18 [vl0, vl1, .inr (some rs0), rn_I 0] [] M Q) : rn_WP 215 15 [vl0, vl1, vl2, vl3] [.inr (some rs0)] M Q := by
  refine (rn_step (e := (.astore_n 2, 16, 2, 0, 0, 0, 0, [])) rfl).mpr ?_
  refine (rn_step (e := (.iconst 0, 17, 0, 0, 0, 0, 0, [])) rfl).mpr ?_
  refine (rn_step (e := (.istore_n 3, 18, 3, 0, 0, 0, 0, [])) rfl).mpr ?_
  exact k1
set_option maxRecDepth 4000 in
theorem rb_Lw_law_18 {M : rn_M} {Q : rn_Q} {al0 : Nat} {vl2 : rn_V} {xl3 : Int} {n1 : Nat} (hM : rn_sh M)  (h1 : rn_fa M al0 n1) (hr1 : (-2147483648 : Int) ≤ (n1 : Int) - 6 ∧ (n1 : Int) - 6 ≤ 2147483647) (hr2 : (¬ ((n1 : Int) - 6 < xl3)) → (0 : Int) ≤ xl3 ∧ xl3 < (n1 : Int)) (hr3 : (¬ ((n1 : Int) - 6 < xl3)) → (rn_and (rn_gi M al0 (xl3).toNat) 31 < 0 ∨ 26 < rn_and (rn_gi M al0 (xl3).toNat) 31) → (-2147483648 : Int) ≤ xl3 + 6 ∧ xl3 + 6 ≤ 2147483647) (hr4 : (¬ ((n1 : Int) - 6 < xl3)) → (rn_and (rn_gi M al0 (xl3).toNat) 31 = 0) → (-2147483648 : Int) ≤ xl3 + 1 ∧ xl3 + 1 ≤ 2147483647 ∧ (0 : Int) ≤ xl3 + 1 ∧ xl3 + 1 < (n1 : Int)) (hr5 : (¬ ((n1 : Int) - 6 < xl3)) → (rn_and (rn_gi M al0 (xl3).toNat) 31 = 3) → (-2147483648 : Int) ≤ xl3 + 1 ∧ xl3 + 1 ≤ 2147483647 ∧ (0 : Int) ≤ xl3 + 1 ∧ xl3 + 1 < (n1 : Int) ∧ (-2147483648 : Int) ≤ xl3 + 2 ∧ xl3 + 2 ≤ 2147483647 ∧ (0 : Int) ≤ xl3 + 2 ∧ xl3 + 2 < (n1 : Int) ∧ (-2147483648 : Int) ≤ xl3 + 3 ∧ xl3 + 3 ≤ 2147483647 ∧ (0 : Int) ≤ xl3 + 3 ∧ xl3 + 3 < (n1 : Int) ∧ (-2147483648 : Int) ≤ xl3 + 4 ∧ xl3 + 4 ≤ 2147483647 ∧ (0 : Int) ≤ xl3 + 4 ∧ xl3 + 4 < (n1 : Int) ∧ (-2147483648 : Int) ≤ xl3 + 5 ∧ xl3 + 5 ≤ 2147483647 ∧ (0 : Int) ≤ xl3 + 5 ∧ xl3 + 5 < (n1 : Int)) (hr6 : (¬ ((n1 : Int) - 6 < xl3)) → (rn_and (rn_gi M al0 (xl3).toNat) 31 = 4) → (-2147483648 : Int) ≤ xl3 + 1 ∧ xl3 + 1 ≤ 2147483647 ∧ (0 : Int) ≤ xl3 + 1 ∧ xl3 + 1 < (n1 : Int) ∧ (-2147483648 : Int) ≤ xl3 + 2 ∧ xl3 + 2 ≤ 2147483647 ∧ (0 : Int) ≤ xl3 + 2 ∧ xl3 + 2 < (n1 : Int) ∧ (-2147483648 : Int) ≤ xl3 + 3 ∧ xl3 + 3 ≤ 2147483647 ∧ (0 : Int) ≤ xl3 + 3 ∧ xl3 + 3 < (n1 : Int) ∧ (-2147483648 : Int) ≤ xl3 + 4 ∧ xl3 + 4 ≤ 2147483647 ∧ (0 : Int) ≤ xl3 + 4 ∧ xl3 + 4 < (n1 : Int) ∧ (-2147483648 : Int) ≤ xl3 + 5 ∧ xl3 + 5 ≤ 2147483647 ∧ (0 : Int) ≤ xl3 + 5 ∧ xl3 + 5 < (n1 : Int)) (hr7 : (¬ ((n1 : Int) - 6 < xl3)) → (rn_and (rn_gi M al0 (xl3).toNat) 31 = 5) → (-2147483648 : Int) ≤ xl3 + 1 ∧ xl3 + 1 ≤ 2147483647 ∧ (0 : Int) ≤ xl3 + 1 ∧ xl3 + 1 < (n1 : Int) ∧ (-2147483648 : Int) ≤ xl3 + 2 ∧ xl3 + 2 ≤ 2147483647 ∧ (0 : Int) ≤ xl3 + 2 ∧ xl3 + 2 < (n1 : Int)) (hr8 : (¬ ((n1 : Int) - 6 < xl3)) → (rn_and (rn_gi M al0 (xl3).toNat) 31 = 6) → (-2147483648 : Int) ≤ xl3 + 1 ∧ xl3 + 1 ≤ 2147483647 ∧ (0 : Int) ≤ xl3 + 1 ∧ xl3 + 1 < (n1 : Int) ∧ (-2147483648 : Int) ≤ xl3 + 2 ∧ xl3 + 2 ≤ 2147483647 ∧ (0 : Int) ≤ xl3 + 2 ∧ xl3 + 2 < (n1 : Int)) (hr9 : (¬ ((n1 : Int) - 6 < xl3)) → (rn_and (rn_gi M al0 (xl3).toNat) 31 = 7) → (-2147483648 : Int) ≤ xl3 + 1 ∧ xl3 + 1 ≤ 2147483647 ∧ (0 : Int) ≤ xl3 + 1 ∧ xl3 + 1 < (n1 : Int) ∧ (-2147483648 : Int) ≤ xl3 + 2 ∧ xl3 + 2 ≤ 2147483647 ∧ (0 : Int) ≤ xl3 + 2 ∧ xl3 + 2 < (n1 : Int)) (hr10 : (¬ ((n1 : Int) - 6 < xl3)) → (rn_and (rn_gi M al0 (xl3).toNat) 31 = 8) → (-2147483648 : Int) ≤ xl3 + 1 ∧ xl3 + 1 ≤ 2147483647 ∧ (0 : Int) ≤ xl3 + 1 ∧ xl3 + 1 < (n1 : Int) ∧ (-2147483648 : Int) ≤ xl3 + 2 ∧ xl3 + 2 ≤ 2147483647 ∧ (0 : Int) ≤ xl3 + 2 ∧ xl3 + 2 < (n1 : Int)) (hr11 : (¬ ((n1 : Int) - 6 < xl3)) → (rn_and (rn_gi M al0 (xl3).toNat) 31 = 9) → (-2147483648 : Int) ≤ xl3 + 1 ∧ xl3 + 1 ≤ 2147483647 ∧ (0 : Int) ≤ xl3 + 1 ∧ xl3 + 1 < (n1 : Int)) (hr12 : (¬ ((n1 : Int) - 6 < xl3)) → (rn_and (rn_gi M al0 (xl3).toNat) 31 = 10) → (-2147483648 : Int) ≤ xl3 + 1 ∧ xl3 + 1 ≤ 2147483647 ∧ (0 : Int) ≤ xl3 + 1 ∧ xl3 + 1 < (n1 : Int) ∧ (-2147483648 : Int) ≤ xl3 + 2 ∧ xl3 + 2 ≤ 2147483647 ∧ (0 : Int) ≤ xl3 + 2 ∧ xl3 + 2 < (n1 : Int)) (hr13 : (¬ ((n1 : Int) - 6 < xl3)) → (rn_and (rn_gi M al0 (xl3).toNat) 31 = 11) → (-2147483648 : Int) ≤ xl3 + 1 ∧ xl3 + 1 ≤ 2147483647 ∧ (0 : Int) ≤ xl3 + 1 ∧ xl3 + 1 < (n1 : Int)) (hr14 : (¬ ((n1 : Int) - 6 < xl3)) → (rn_and (rn_gi M al0 (xl3).toNat) 31 = 12) → (-2147483648 : Int) ≤ xl3 + 1 ∧ xl3 + 1 ≤ 2147483647 ∧ (0 : Int) ≤ xl3 + 1 ∧ xl3 + 1 < (n1 : Int)) (hr15 : (¬ ((n1 : Int) - 6 < xl3)) → (rn_and (rn_gi M al0 (xl3).toNat) 31 = 15) → (-2147483648 : Int) ≤ xl3 + 1 ∧ xl3 + 1 ≤ 2147483647 ∧ (0 : Int) ≤ xl3 + 1 ∧ xl3 + 1 < (n1 : Int)) (hr16 : (¬ ((n1 : Int) - 6 < xl3)) → (rn_and (rn_gi M al0 (xl3).toNat) 31 = 16) → (-2147483648 : Int) ≤ xl3 + 1 ∧ xl3 + 1 ≤ 2147483647 ∧ (0 : Int) ≤ xl3 + 1 ∧ xl3 + 1 < (n1 : Int) ∧ (-2147483648 : Int) ≤ xl3 + 2 ∧ xl3 + 2 ≤ 2147483647 ∧ (0 : Int) ≤ xl3 + 2 ∧ xl3 + 2 < (n1 : Int)) (hr17 : (¬ ((n1 : Int) - 6 < xl3)) → (rn_and (rn_gi M al0 (xl3).toNat) 31 = 17) → (-2147483648 : Int) ≤ xl3 + 1 ∧ xl3 + 1 ≤ 2147483647 ∧ (0 : Int) ≤ xl3 + 1 ∧ xl3 + 1 < (n1 : Int) ∧ (-2147483648 : Int) ≤ xl3 + 2 ∧ xl3 + 2 ≤ 2147483647 ∧ (0 : Int) ≤ xl3 + 2 ∧ xl3 + 2 < (n1 : Int)) (hr18 : (¬ ((n1 : Int) - 6 < xl3)) → (rn_and (rn_gi M al0 (xl3).toNat) 31 = 18) → (-2147483648 : Int) ≤ xl3 + 1 ∧ xl3 + 1 ≤ 2147483647 ∧ (0 : Int) ≤ xl3 + 1 ∧ xl3 + 1 < (n1 : Int) ∧ (-2147483648 : Int) ≤ xl3 + 2 ∧ xl3 + 2 ≤ 2147483647 ∧ (0 : Int) ≤ xl3 + 2 ∧ xl3 + 2 < (n1 : Int)) (hr19 : (¬ ((n1 : Int) - 6 < xl3)) → (rn_and (rn_gi M al0 (xl3).toNat) 31 = 19) → (-2147483648 : Int) ≤ xl3 + 1 ∧ xl3 + 1 ≤ 2147483647 ∧ (0 : Int) ≤ xl3 + 1 ∧ xl3 + 1 < (n1 : Int) ∧ (-2147483648 : Int) ≤ xl3 + 2 ∧ xl3 + 2 ≤ 2147483647 ∧ (0 : Int) ≤ xl3 + 2 ∧ xl3 + 2 < (n1 : Int)) (hr20 : (¬ ((n1 : Int) - 6 < xl3)) → (rn_and (rn_gi M al0 (xl3).toNat) 31 = 20) → (-2147483648 : Int) ≤ xl3 + 1 ∧ xl3 + 1 ≤ 2147483647 ∧ (0 : Int) ≤ xl3 + 1 ∧ xl3 + 1 < (n1 : Int) ∧ (-2147483648 : Int) ≤ xl3 + 2 ∧ xl3 + 2 ≤ 2147483647 ∧ (0 : Int) ≤ xl3 + 2 ∧ xl3 + 2 < (n1 : Int)) (hr21 : (¬ ((n1 : Int) - 6 < xl3)) → (rn_and (rn_gi M al0 (xl3).toNat) 31 = 21) → (-2147483648 : Int) ≤ xl3 + 1 ∧ xl3 + 1 ≤ 2147483647 ∧ (0 : Int) ≤ xl3 + 1 ∧ xl3 + 1 < (n1 : Int) ∧ (-2147483648 : Int) ≤ xl3 + 2 ∧ xl3 + 2 ≤ 2147483647 ∧ (0 : Int) ≤ xl3 + 2 ∧ xl3 + 2 < (n1 : Int)) (hr22 : (¬ ((n1 : Int) - 6 < xl3)) → (rn_and (rn_gi M al0 (xl3).toNat) 31 = 22) → (-2147483648 : Int) ≤ xl3 + 1 ∧ xl3 + 1 ≤ 2147483647 ∧ (0 : Int) ≤ xl3 + 1 ∧ xl3 + 1 < (n1 : Int) ∧ (-2147483648 : Int) ≤ xl3 + 2 ∧ xl3 + 2 ≤ 2147483647 ∧ (0 : Int) ≤ xl3 + 2 ∧ xl3 + 2 < (n1 : Int) ∧ (-2147483648 : Int) ≤ xl3 + 3 ∧ xl3 + 3 ≤ 2147483647 ∧ (0 : Int) ≤ xl3 + 3 ∧ xl3 + 3 < (n1 : Int)) (hr23 : (¬ ((n1 : Int) - 6 < xl3)) → (rn_and (rn_gi M al0 (xl3).toNat) 31 = 23) → (-2147483648 : Int) ≤ xl3 + 1 ∧ xl3 + 1 ≤ 2147483647 ∧ (0 : Int) ≤ xl3 + 1 ∧ xl3 + 1 < (n1 : Int) ∧ (-2147483648 : Int) ≤ xl3 + 2 ∧ xl3 + 2 ≤ 2147483647 ∧ (0 : Int) ≤ xl3 + 2 ∧ xl3 + 2 < (n1 : Int)) (hr24 : (¬ ((n1 : Int) - 6 < xl3)) → (rn_and (rn_gi M al0 (xl3).toNat) 31 = 24) → (-2147483648 : Int) ≤ xl3 + 1 ∧ xl3 + 1 ≤ 2147483647 ∧ (0 : Int) ≤ xl3 + 1 ∧ xl3 + 1 < (n1 : Int) ∧ (-2147483648 : Int) ≤ xl3 + 2 ∧ xl3 + 2 ≤ 2147483647 ∧ (0 : Int) ≤ xl3 + 2 ∧ xl3 + 2 < (n1 : Int)) (hr25 : (¬ ((n1 : Int) - 6 < xl3)) → (rn_and (rn_gi M al0 (xl3).toNat) 31 = 25) → (-2147483648 : Int) ≤ xl3 + 1 ∧ xl3 + 1 ≤ 2147483647 ∧ (0 : Int) ≤ xl3 + 1 ∧ xl3 + 1 < (n1 : Int) ∧ (-2147483648 : Int) ≤ xl3 + 2 ∧ xl3 + 2 ≤ 2147483647 ∧ (0 : Int) ≤ xl3 + 2 ∧ xl3 + 2 < (n1 : Int)) (hr26 : (¬ ((n1 : Int) - 6 < xl3)) → (rn_and (rn_gi M al0 (xl3).toNat) 31 = 26) → (-2147483648 : Int) ≤ xl3 + 1 ∧ xl3 + 1 ≤ 2147483647 ∧ (0 : Int) ≤ xl3 + 1 ∧ xl3 + 1 < (n1 : Int)) (k1 : ((n1 : Int) - 6 < xl3) → Q (some (rn_I 1)) M) (k2 : (¬ ((n1 : Int) - 6 < xl3)) → (rn_and (rn_gi M al0 (xl3).toNat) 31 < 0 ∨ 26 < rn_and (rn_gi M al0 (xl3).toNat) 31) → rn_WP 215 18 [rn_R al0, rn_R 8, vl2, rn_I (xl3 + 6)] [] M Q) (k3 : (¬ ((n1 : Int) - 6 < xl3)) → (rn_and (rn_gi M al0 (xl3).toNat) 31 = 0) → rn_ME 91 [rn_R 8, rn_I (rn_gi M al0 (xl3 + 1).toNat)] M (fun r M1 => rn_WP 215 165 [rn_R al0, rn_R 8, vl2, rn_I xl3] (r.toList ++ []) M1 Q)) (k4 : (¬ ((n1 : Int) - 6 < xl3)) → (rn_and (rn_gi M al0 (xl3).toNat) 31 = 1) → rn_ME 92 [rn_R 8] M (fun r M1 => rn_WP 215 183 [rn_R al0, rn_R 8, vl2, rn_I xl3] (r.toList ++ []) M1 Q)) (k5 : (¬ ((n1 : Int) - 6 < xl3)) → (rn_and (rn_gi M al0 (xl3).toNat) 31 = 2) → rn_ME 93 [rn_R 8] M (fun r M1 => rn_WP 215 196 [rn_R al0, rn_R 8, vl2, rn_I xl3] (r.toList ++ []) M1 Q)) (k6 : (¬ ((n1 : Int) - 6 < xl3)) → (rn_and (rn_gi M al0 (xl3).toNat) 31 = 3) → rn_ME 94 [rn_R 8, rn_I (rn_gi M al0 (xl3 + 1).toNat), rn_I (rn_gi M al0 (xl3 + 2).toNat), rn_I (rn_gi M al0 (xl3 + 3).toNat), rn_I (rn_gi M al0 (xl3 + 4).toNat), rn_I (rn_gi M al0 (xl3 + 5).toNat)] M (fun r M1 => rn_WP 215 234 [rn_R al0, rn_R 8, vl2, rn_I xl3] (r.toList ++ []) M1 Q)) (k7 : (¬ ((n1 : Int) - 6 < xl3)) → (rn_and (rn_gi M al0 (xl3).toNat) 31 = 4) → rn_ME 95 [rn_R 8, rn_I (rn_gi M al0 (xl3 + 1).toNat), rn_I (rn_gi M al0 (xl3 + 2).toNat), rn_I (rn_gi M al0 (xl3 + 3).toNat), rn_I (rn_gi M al0 (xl3 + 4).toNat), rn_I (rn_gi M al0 (xl3 + 5).toNat)] M (fun r M1 => rn_WP 215 297 [rn_R al0, rn_R 8, vl2, rn_I xl3] (r.toList ++ []) M1 Q)) (k8 : (¬ ((n1 : Int) - 6 < xl3)) → (rn_and (rn_gi M al0 (xl3).toNat) 31 = 5) → rn_ME 96 [rn_R 8, rn_I (rn_gi M al0 (xl3 + 1).toNat), rn_I (rn_gi M al0 (xl3 + 2).toNat)] M (fun r M1 => rn_WP 215 345 [rn_R al0, rn_R 8, vl2, rn_I xl3] (r.toList ++ []) M1 Q)) (k9 : (¬ ((n1 : Int) - 6 < xl3)) → (rn_and (rn_gi M al0 (xl3).toNat) 31 = 6) → rn_ME 97 [rn_R 8, rn_I (rn_gi M al0 (xl3 + 1).toNat), rn_I (rn_gi M al0 (xl3 + 2).toNat)] M (fun r M1 => rn_WP 215 378 [rn_R al0, rn_R 8, vl2, rn_I xl3] (r.toList ++ []) M1 Q)) (k10 : (¬ ((n1 : Int) - 6 < xl3)) → (rn_and (rn_gi M al0 (xl3).toNat) 31 = 7) → rn_ME 98 [rn_R 8, rn_I (rn_gi M al0 (xl3 + 1).toNat), rn_I (rn_gi M al0 (xl3 + 2).toNat)] M (fun r M1 => rn_WP 215 411 [rn_R al0, rn_R 8, vl2, rn_I xl3] (r.toList ++ []) M1 Q)) (k11 : (¬ ((n1 : Int) - 6 < xl3)) → (rn_and (rn_gi M al0 (xl3).toNat) 31 = 8) → rn_ME 99 [rn_R 8, rn_I (rn_gi M al0 (xl3 + 1).toNat), rn_I (rn_gi M al0 (xl3 + 2).toNat)] M (fun r M1 => rn_WP 215 444 [rn_R al0, rn_R 8, vl2, rn_I xl3] (r.toList ++ []) M1 Q)) (k12 : (¬ ((n1 : Int) - 6 < xl3)) → (rn_and (rn_gi M al0 (xl3).toNat) 31 = 9) → rn_ME 100 [rn_R 8, rn_I (rn_gi M al0 (xl3 + 1).toNat)] M (fun r M1 => rn_WP 215 472 [rn_R al0, rn_R 8, vl2, rn_I xl3] (r.toList ++ []) M1 Q)) (k13 : (¬ ((n1 : Int) - 6 < xl3)) → (rn_and (rn_gi M al0 (xl3).toNat) 31 = 10) → rn_ME 101 [rn_R 8, rn_I (rn_gi M al0 (xl3 + 1).toNat), rn_I (rn_gi M al0 (xl3 + 2).toNat)] M (fun r M1 => rn_WP 215 500 [rn_R al0, rn_R 8, vl2, rn_I xl3] (r.toList ++ []) M1 Q)) (k14 : (¬ ((n1 : Int) - 6 < xl3)) → (rn_and (rn_gi M al0 (xl3).toNat) 31 = 11) → rn_ME 102 [rn_R 8, rn_I (rn_gi M al0 (xl3 + 1).toNat)] M (fun r M1 => rn_WP 215 528 [rn_R al0, rn_R 8, vl2, rn_I xl3] (r.toList ++ []) M1 Q)) (k15 : (¬ ((n1 : Int) - 6 < xl3)) → (rn_and (rn_gi M al0 (xl3).toNat) 31 = 12) → rn_ME 103 [rn_R 8, rn_I (rn_gi M al0 (xl3 + 1).toNat)] M (fun r M1 => rn_WP 215 551 [rn_R al0, rn_R 8, vl2, rn_I xl3] (r.toList ++ []) M1 Q)) (k16 : (¬ ((n1 : Int) - 6 < xl3)) → (rn_and (rn_gi M al0 (xl3).toNat) 31 = 13) → rn_ME 104 [rn_R 8] M (fun r M1 => rn_WP 215 569 [rn_R al0, rn_R 8, vl2, rn_I xl3] (r.toList ++ []) M1 Q)) (k17 : (¬ ((n1 : Int) - 6 < xl3)) → (rn_and (rn_gi M al0 (xl3).toNat) 31 = 14) → rn_ME 105 [rn_R 8] M (fun r M1 => rn_WP 215 582 [rn_R al0, rn_R 8, vl2, rn_I xl3] (r.toList ++ []) M1 Q)) (k18 : (¬ ((n1 : Int) - 6 < xl3)) → (rn_and (rn_gi M al0 (xl3).toNat) 31 = 15) → rn_ME 106 [rn_R 8, rn_I (rn_gi M al0 (xl3 + 1).toNat)] M (fun r M1 => rn_WP 215 600 [rn_R al0, rn_R 8, vl2, rn_I xl3] (r.toList ++ []) M1 Q)) (k19 : (¬ ((n1 : Int) - 6 < xl3)) → (rn_and (rn_gi M al0 (xl3).toNat) 31 = 16) → rn_ME 107 [rn_R 8, rn_I (rn_gi M al0 (xl3 + 1).toNat), rn_I (rn_gi M al0 (xl3 + 2).toNat)] M (fun r M1 => rn_WP 215 628 [rn_R al0, rn_R 8, vl2, rn_I xl3] (r.toList ++ []) M1 Q)) (k20 : (¬ ((n1 : Int) - 6 < xl3)) → (rn_and (rn_gi M al0 (xl3).toNat) 31 = 17) → rn_ME 108 [rn_R 8, rn_I (rn_gi M al0 (xl3 + 1).toNat), rn_I (rn_gi M al0 (xl3 + 2).toNat)] M (fun r M1 => rn_WP 215 661 [rn_R al0, rn_R 8, vl2, rn_I xl3] (r.toList ++ []) M1 Q)) (k21 : (¬ ((n1 : Int) - 6 < xl3)) → (rn_and (rn_gi M al0 (xl3).toNat) 31 = 18) → rn_ME 109 [rn_R 8, rn_I (rn_gi M al0 (xl3 + 1).toNat), rn_I (rn_gi M al0 (xl3 + 2).toNat)] M (fun r M1 => rn_WP 215 694 [rn_R al0, rn_R 8, vl2, rn_I xl3] (r.toList ++ []) M1 Q)) (k22 : (¬ ((n1 : Int) - 6 < xl3)) → (rn_and (rn_gi M al0 (xl3).toNat) 31 = 19) → rn_ME 110 [rn_R 8, rn_I (rn_gi M al0 (xl3 + 1).toNat), rn_I (rn_gi M al0 (xl3 + 2).toNat)] M (fun r M1 => rn_WP 215 727 [rn_R al0, rn_R 8, vl2, rn_I xl3] (r.toList ++ []) M1 Q)) (k23 : (¬ ((n1 : Int) - 6 < xl3)) → (rn_and (rn_gi M al0 (xl3).toNat) 31 = 20) → rn_ME 111 [rn_R 8, rn_I (rn_gi M al0 (xl3 + 1).toNat), rn_I (rn_gi M al0 (xl3 + 2).toNat)] M (fun r M1 => rn_WP 215 760 [rn_R al0, rn_R 8, vl2, rn_I xl3] (r.toList ++ []) M1 Q)) (k24 : (¬ ((n1 : Int) - 6 < xl3)) → (rn_and (rn_gi M al0 (xl3).toNat) 31 = 21) → rn_ME 112 [rn_R 8, rn_I (rn_gi M al0 (xl3 + 1).toNat), rn_I (rn_gi M al0 (xl3 + 2).toNat)] M (fun r M1 => rn_WP 215 793 [rn_R al0, rn_R 8, vl2, rn_I xl3] (r.toList ++ []) M1 Q)) (k25 : (¬ ((n1 : Int) - 6 < xl3)) → (rn_and (rn_gi M al0 (xl3).toNat) 31 = 22) → rn_ME 113 [rn_R 8, rn_I (rn_gi M al0 (xl3 + 1).toNat), rn_I (rn_gi M al0 (xl3 + 2).toNat), rn_I (rn_gi M al0 (xl3 + 3).toNat)] M (fun r M1 => rn_WP 215 831 [rn_R al0, rn_R 8, vl2, rn_I xl3] (r.toList ++ []) M1 Q)) (k26 : (¬ ((n1 : Int) - 6 < xl3)) → (rn_and (rn_gi M al0 (xl3).toNat) 31 = 23) → rn_ME 114 [rn_R 8, rn_I (rn_gi M al0 (xl3 + 1).toNat), rn_I (rn_gi M al0 (xl3 + 2).toNat)] M (fun r M1 => rn_WP 215 869 [rn_R al0, rn_R 8, vl2, rn_I xl3] (r.toList ++ []) M1 Q)) (k27 : (¬ ((n1 : Int) - 6 < xl3)) → (rn_and (rn_gi M al0 (xl3).toNat) 31 = 24) → rn_ME 115 [rn_R 8, rn_I (rn_gi M al0 (xl3 + 1).toNat), rn_I (rn_gi M al0 (xl3 + 2).toNat)] M (fun r M1 => rn_WP 215 902 [rn_R al0, rn_R 8, vl2, rn_I xl3] (r.toList ++ []) M1 Q)) (k28 : (¬ ((n1 : Int) - 6 < xl3)) → (rn_and (rn_gi M al0 (xl3).toNat) 31 = 25) → rn_ME 116 [rn_R 8, rn_I (rn_gi M al0 (xl3 + 1).toNat), rn_I (rn_gi M al0 (xl3 + 2).toNat)] M (fun r M1 => rn_WP 215 935 [rn_R al0, rn_R 8, vl2, rn_I xl3] (r.toList ++ []) M1 Q)) (k29 : (¬ ((n1 : Int) - 6 < xl3)) → (rn_and (rn_gi M al0 (xl3).toNat) 31 = 26) → rn_ME 117 [rn_R 8, rn_I (rn_gi M al0 (xl3 + 1).toNat)] M (fun r M1 => rn_WP 215 963 [rn_R al0, rn_R 8, vl2, rn_I xl3] (r.toList ++ []) M1 Q)) : rn_WP 215 18 [rn_R al0, rn_R 8, vl2, rn_I xl3] [] M Q := by
  refine (rn_step (e := (.iload_n 3, 19, 3, 0, 0, 0, 0, [])) rfl).mpr ?_
  refine (rn_step (e := (.aload_n 0, 20, 0, 0, 0, 0, 0, [])) rfl).mpr ?_
  refine (rn_step (e := (.arraylength, 21, 0, 0, 0, 0, 0, [])) rfl).mpr (And.intro (Or.inr (Or.inl h1.1)) (rn_cn2 h1.2 ?_))
  refine (rn_step (e := (.bipush 6, 23, 0, 0, 0, 0, 0, [])) rfl).mpr ?_
  refine (rn_step (e := (.isub, 24, 0, 0, 0, 0, 0, [])) rfl).mpr (rn_cw hr1.1 hr1.2 ?_)
  refine (rn_step (e := (.if_icmp .gt 959, 27, 983, 0, 0, 0, 0, [])) rfl).mpr (And.intro (fun c1 => ?_) (fun c1 => ?_))
  ·
    refine (rn_step (e := (.iconst 1, 984, 0, 0, 0, 0, 0, [])) rfl).mpr ?_
    exact (rn_step (e := (.ireturn, 985, 0, 0, 0, 1, 0, [])) rfl).mpr (And.intro ((Or.inr rfl)) ((k1 c1)))
  ·
    refine (rn_step (e := (.aload_n 0, 28, 0, 0, 0, 0, 0, [])) rfl).mpr ?_
    refine (rn_step (e := (.iload_n 3, 29, 3, 0, 0, 0, 0, [])) rfl).mpr ?_
    refine (rn_step (e := (.iaload, 30, 0, 0, 0, 0, 0, [])) rfl).mpr (And.intro (Or.inr h1.1) (And.intro ((And.intro ((hr2 c1).1) (rn_lt h1.2 (hr2 c1).2))) (?_)))
    refine (rn_step (e := (.bipush 31, 32, 0, 0, 0, 0, 0, [])) rfl).mpr ?_
    refine (rn_step (e := (.iand, 33, 0, 0, 0, 0, 0, [])) rfl).mpr ?_
    refine (rn_step (e := (.tableswitch 944 0 26 #[123, 146, 159, 172, 235, 298, 331, 364, 397, 430, 453, 486, 509, 532, 545, 558, 581, 614, 647, 680, 713, 746, 779, 822, 855, 888, 921], 156, 977, 0, 0, 0, 0, [156, 179, 192, 205, 268, 331, 364, 397, 430, 463, 486, 519, 542, 565, 578, 591, 614, 647, 680, 713, 746, 779, 812, 855, 888, 921, 954])) rfl).mpr (And.intro (fun c2 => ?_) (fun q => ?_))
    ·
      refine (rn_step (e := (.iinc 3 6, 980, 3, 0, 0, 0, 0, [])) rfl).mpr (rn_ci (hr3 c1 c2).1 (hr3 c1 c2).2 ?_)
      refine (rn_step (e := (.goto (-962), 983, 18, 0, 0, 0, 0, [])) rfl).mpr ?_
      exact (k2 c1 c2)
    ·
      obtain ⟨n, hn⟩ : ∃ n : Nat, rn_and (rn_gi M al0 (xl3).toNat) 31 = (n : Int) := ⟨(rn_and (rn_gi M al0 (xl3).toNat) 31).toNat, by omega⟩
      rw [show (rn_and (rn_gi M al0 (xl3).toNat) 31 - 0).toNat = n by omega]
      match n, hn with
      | 0, c2 =>
        refine (rn_step (e := (.aload_n 1, 157, 1, 0, 0, 0, 0, [])) rfl).mpr ?_
        refine (rn_step (e := (.aload_n 0, 158, 0, 0, 0, 0, 0, [])) rfl).mpr ?_
        refine (rn_step (e := (.iload_n 3, 159, 3, 0, 0, 0, 0, [])) rfl).mpr ?_
        refine (rn_step (e := (.iconst 1, 160, 0, 0, 0, 0, 0, [])) rfl).mpr ?_
        refine (rn_step (e := (.iadd, 161, 0, 0, 0, 0, 0, [])) rfl).mpr (rn_cw (hr4 c1 c2).1 (hr4 c1 c2).2.1 ?_)
        refine (rn_step (e := (.iaload, 162, 0, 0, 0, 0, 0, [])) rfl).mpr (And.intro (Or.inr h1.1) (And.intro ((And.intro ((hr4 c1 c2).2.2.1) (rn_lt h1.2 (hr4 c1 c2).2.2.2))) (?_)))
        exact (rn_step (e := (.invokevirtual 13, 165, 91, 2, 327, 0, 10, [0])) rfl).mpr (And.intro ((rn_ks8 (M := M) hM)) ((k3 c1 c2)))
      | 1, c2 =>
        refine (rn_step (e := (.aload_n 1, 180, 1, 0, 0, 0, 0, [])) rfl).mpr ?_
        exact (rn_step (e := (.invokevirtual 18, 183, 92, 1, 339, 0, 10, [0])) rfl).mpr (And.intro ((rn_ks8 (M := M) hM)) ((k4 c1 c2)))
      | 2, c2 =>
        refine (rn_step (e := (.aload_n 1, 193, 1, 0, 0, 0, 0, [])) rfl).mpr ?_
        exact (rn_step (e := (.invokevirtual 23, 196, 93, 1, 347, 0, 10, [0])) rfl).mpr (And.intro ((rn_ks8 (M := M) hM)) ((k5 c1 c2)))
      | 3, c2 =>
        refine (rn_step (e := (.aload_n 1, 206, 1, 0, 0, 0, 0, [])) rfl).mpr ?_
        refine (rn_step (e := (.aload_n 0, 207, 0, 0, 0, 0, 0, [])) rfl).mpr ?_
        refine (rn_step (e := (.iload_n 3, 208, 3, 0, 0, 0, 0, [])) rfl).mpr ?_
        refine (rn_step (e := (.iconst 1, 209, 0, 0, 0, 0, 0, [])) rfl).mpr ?_
        refine (rn_step (e := (.iadd, 210, 0, 0, 0, 0, 0, [])) rfl).mpr (rn_cw (hr5 c1 c2).1 (hr5 c1 c2).2.1 ?_)
        refine (rn_step (e := (.iaload, 211, 0, 0, 0, 0, 0, [])) rfl).mpr (And.intro (Or.inr h1.1) (And.intro ((And.intro ((hr5 c1 c2).2.2.1) (rn_lt h1.2 (hr5 c1 c2).2.2.2.1))) (?_)))
        refine (rn_step (e := (.aload_n 0, 212, 0, 0, 0, 0, 0, [])) rfl).mpr ?_
        refine (rn_step (e := (.iload_n 3, 213, 3, 0, 0, 0, 0, [])) rfl).mpr ?_
        refine (rn_step (e := (.iconst 2, 214, 0, 0, 0, 0, 0, [])) rfl).mpr ?_
        refine (rn_step (e := (.iadd, 215, 0, 0, 0, 0, 0, [])) rfl).mpr (rn_cw (hr5 c1 c2).2.2.2.2.1 (hr5 c1 c2).2.2.2.2.2.1 ?_)
        refine (rn_step (e := (.iaload, 216, 0, 0, 0, 0, 0, [])) rfl).mpr (And.intro (Or.inr h1.1) (And.intro ((And.intro ((hr5 c1 c2).2.2.2.2.2.2.1) (rn_lt h1.2 (hr5 c1 c2).2.2.2.2.2.2.2.1))) (?_)))
        refine (rn_step (e := (.aload_n 0, 217, 0, 0, 0, 0, 0, [])) rfl).mpr ?_
        refine (rn_step (e := (.iload_n 3, 218, 3, 0, 0, 0, 0, [])) rfl).mpr ?_
        refine (rn_step (e := (.iconst 3, 219, 0, 0, 0, 0, 0, [])) rfl).mpr ?_
        refine (rn_step (e := (.iadd, 220, 0, 0, 0, 0, 0, [])) rfl).mpr (rn_cw (hr5 c1 c2).2.2.2.2.2.2.2.2.1 (hr5 c1 c2).2.2.2.2.2.2.2.2.2.1 ?_)
        refine (rn_step (e := (.iaload, 221, 0, 0, 0, 0, 0, [])) rfl).mpr (And.intro (Or.inr h1.1) (And.intro ((And.intro ((hr5 c1 c2).2.2.2.2.2.2.2.2.2.2.1) (rn_lt h1.2 (hr5 c1 c2).2.2.2.2.2.2.2.2.2.2.2.1))) (?_)))
        refine (rn_step (e := (.aload_n 0, 222, 0, 0, 0, 0, 0, [])) rfl).mpr ?_
        refine (rn_step (e := (.iload_n 3, 223, 3, 0, 0, 0, 0, [])) rfl).mpr ?_
        refine (rn_step (e := (.iconst 4, 224, 0, 0, 0, 0, 0, [])) rfl).mpr ?_
        refine (rn_step (e := (.iadd, 225, 0, 0, 0, 0, 0, [])) rfl).mpr (rn_cw (hr5 c1 c2).2.2.2.2.2.2.2.2.2.2.2.2.1 (hr5 c1 c2).2.2.2.2.2.2.2.2.2.2.2.2.2.1 ?_)
        refine (rn_step (e := (.iaload, 226, 0, 0, 0, 0, 0, [])) rfl).mpr (And.intro (Or.inr h1.1) (And.intro ((And.intro ((hr5 c1 c2).2.2.2.2.2.2.2.2.2.2.2.2.2.2.1) (rn_lt h1.2 (hr5 c1 c2).2.2.2.2.2.2.2.2.2.2.2.2.2.2.2.1))) (?_)))
        refine (rn_step (e := (.aload_n 0, 227, 0, 0, 0, 0, 0, [])) rfl).mpr ?_
        refine (rn_step (e := (.iload_n 3, 228, 3, 0, 0, 0, 0, [])) rfl).mpr ?_
        refine (rn_step (e := (.iconst 5, 229, 0, 0, 0, 0, 0, [])) rfl).mpr ?_
        refine (rn_step (e := (.iadd, 230, 0, 0, 0, 0, 0, [])) rfl).mpr (rn_cw (hr5 c1 c2).2.2.2.2.2.2.2.2.2.2.2.2.2.2.2.2.1 (hr5 c1 c2).2.2.2.2.2.2.2.2.2.2.2.2.2.2.2.2.2.1 ?_)
        refine (rn_step (e := (.iaload, 231, 0, 0, 0, 0, 0, [])) rfl).mpr (And.intro (Or.inr h1.1) (And.intro ((And.intro ((hr5 c1 c2).2.2.2.2.2.2.2.2.2.2.2.2.2.2.2.2.2.2.1) (rn_lt h1.2 (hr5 c1 c2).2.2.2.2.2.2.2.2.2.2.2.2.2.2.2.2.2.2.2))) (?_)))
        exact (rn_step (e := (.invokevirtual 27, 234, 94, 6, 569, 0, 10, [0])) rfl).mpr (And.intro ((rn_ks8 (M := M) hM)) ((k6 c1 c2)))
      | 4, c2 =>
        refine (rn_step (e := (.aload_n 1, 269, 1, 0, 0, 0, 0, [])) rfl).mpr ?_
        refine (rn_step (e := (.aload_n 0, 270, 0, 0, 0, 0, 0, [])) rfl).mpr ?_
        refine (rn_step (e := (.iload_n 3, 271, 3, 0, 0, 0, 0, [])) rfl).mpr ?_
        refine (rn_step (e := (.iconst 1, 272, 0, 0, 0, 0, 0, [])) rfl).mpr ?_
        refine (rn_step (e := (.iadd, 273, 0, 0, 0, 0, 0, [])) rfl).mpr (rn_cw (hr6 c1 c2).1 (hr6 c1 c2).2.1 ?_)
        refine (rn_step (e := (.iaload, 274, 0, 0, 0, 0, 0, [])) rfl).mpr (And.intro (Or.inr h1.1) (And.intro ((And.intro ((hr6 c1 c2).2.2.1) (rn_lt h1.2 (hr6 c1 c2).2.2.2.1))) (?_)))
        refine (rn_step (e := (.aload_n 0, 275, 0, 0, 0, 0, 0, [])) rfl).mpr ?_
        refine (rn_step (e := (.iload_n 3, 276, 3, 0, 0, 0, 0, [])) rfl).mpr ?_
        refine (rn_step (e := (.iconst 2, 277, 0, 0, 0, 0, 0, [])) rfl).mpr ?_
        refine (rn_step (e := (.iadd, 278, 0, 0, 0, 0, 0, [])) rfl).mpr (rn_cw (hr6 c1 c2).2.2.2.2.1 (hr6 c1 c2).2.2.2.2.2.1 ?_)
        refine (rn_step (e := (.iaload, 279, 0, 0, 0, 0, 0, [])) rfl).mpr (And.intro (Or.inr h1.1) (And.intro ((And.intro ((hr6 c1 c2).2.2.2.2.2.2.1) (rn_lt h1.2 (hr6 c1 c2).2.2.2.2.2.2.2.1))) (?_)))
        refine (rn_step (e := (.aload_n 0, 280, 0, 0, 0, 0, 0, [])) rfl).mpr ?_
        refine (rn_step (e := (.iload_n 3, 281, 3, 0, 0, 0, 0, [])) rfl).mpr ?_
        refine (rn_step (e := (.iconst 3, 282, 0, 0, 0, 0, 0, [])) rfl).mpr ?_
        refine (rn_step (e := (.iadd, 283, 0, 0, 0, 0, 0, [])) rfl).mpr (rn_cw (hr6 c1 c2).2.2.2.2.2.2.2.2.1 (hr6 c1 c2).2.2.2.2.2.2.2.2.2.1 ?_)
        refine (rn_step (e := (.iaload, 284, 0, 0, 0, 0, 0, [])) rfl).mpr (And.intro (Or.inr h1.1) (And.intro ((And.intro ((hr6 c1 c2).2.2.2.2.2.2.2.2.2.2.1) (rn_lt h1.2 (hr6 c1 c2).2.2.2.2.2.2.2.2.2.2.2.1))) (?_)))
        refine (rn_step (e := (.aload_n 0, 285, 0, 0, 0, 0, 0, [])) rfl).mpr ?_
        refine (rn_step (e := (.iload_n 3, 286, 3, 0, 0, 0, 0, [])) rfl).mpr ?_
        refine (rn_step (e := (.iconst 4, 287, 0, 0, 0, 0, 0, [])) rfl).mpr ?_
        refine (rn_step (e := (.iadd, 288, 0, 0, 0, 0, 0, [])) rfl).mpr (rn_cw (hr6 c1 c2).2.2.2.2.2.2.2.2.2.2.2.2.1 (hr6 c1 c2).2.2.2.2.2.2.2.2.2.2.2.2.2.1 ?_)
        refine (rn_step (e := (.iaload, 289, 0, 0, 0, 0, 0, [])) rfl).mpr (And.intro (Or.inr h1.1) (And.intro ((And.intro ((hr6 c1 c2).2.2.2.2.2.2.2.2.2.2.2.2.2.2.1) (rn_lt h1.2 (hr6 c1 c2).2.2.2.2.2.2.2.2.2.2.2.2.2.2.2.1))) (?_)))
        refine (rn_step (e := (.aload_n 0, 290, 0, 0, 0, 0, 0, [])) rfl).mpr ?_
        refine (rn_step (e := (.iload_n 3, 291, 3, 0, 0, 0, 0, [])) rfl).mpr ?_
        refine (rn_step (e := (.iconst 5, 292, 0, 0, 0, 0, 0, [])) rfl).mpr ?_
        refine (rn_step (e := (.iadd, 293, 0, 0, 0, 0, 0, [])) rfl).mpr (rn_cw (hr6 c1 c2).2.2.2.2.2.2.2.2.2.2.2.2.2.2.2.2.1 (hr6 c1 c2).2.2.2.2.2.2.2.2.2.2.2.2.2.2.2.2.2.1 ?_)
        refine (rn_step (e := (.iaload, 294, 0, 0, 0, 0, 0, [])) rfl).mpr (And.intro (Or.inr h1.1) (And.intro ((And.intro ((hr6 c1 c2).2.2.2.2.2.2.2.2.2.2.2.2.2.2.2.2.2.2.1) (rn_lt h1.2 (hr6 c1 c2).2.2.2.2.2.2.2.2.2.2.2.2.2.2.2.2.2.2.2))) (?_)))
        exact (rn_step (e := (.invokevirtual 32, 297, 95, 6, 583, 0, 10, [0])) rfl).mpr (And.intro ((rn_ks8 (M := M) hM)) ((k7 c1 c2)))
      | 5, c2 =>
        refine (rn_step (e := (.aload_n 1, 332, 1, 0, 0, 0, 0, [])) rfl).mpr ?_
        refine (rn_step (e := (.aload_n 0, 333, 0, 0, 0, 0, 0, [])) rfl).mpr ?_
        refine (rn_step (e := (.iload_n 3, 334, 3, 0, 0, 0, 0, [])) rfl).mpr ?_
        refine (rn_step (e := (.iconst 1, 335, 0, 0, 0, 0, 0, [])) rfl).mpr ?_
        refine (rn_step (e := (.iadd, 336, 0, 0, 0, 0, 0, [])) rfl).mpr (rn_cw (hr7 c1 c2).1 (hr7 c1 c2).2.1 ?_)
        refine (rn_step (e := (.iaload, 337, 0, 0, 0, 0, 0, [])) rfl).mpr (And.intro (Or.inr h1.1) (And.intro ((And.intro ((hr7 c1 c2).2.2.1) (rn_lt h1.2 (hr7 c1 c2).2.2.2.1))) (?_)))
        refine (rn_step (e := (.aload_n 0, 338, 0, 0, 0, 0, 0, [])) rfl).mpr ?_
        refine (rn_step (e := (.iload_n 3, 339, 3, 0, 0, 0, 0, [])) rfl).mpr ?_
        refine (rn_step (e := (.iconst 2, 340, 0, 0, 0, 0, 0, [])) rfl).mpr ?_
        refine (rn_step (e := (.iadd, 341, 0, 0, 0, 0, 0, [])) rfl).mpr (rn_cw (hr7 c1 c2).2.2.2.2.1 (hr7 c1 c2).2.2.2.2.2.1 ?_)
        refine (rn_step (e := (.iaload, 342, 0, 0, 0, 0, 0, [])) rfl).mpr (And.intro (Or.inr h1.1) (And.intro ((And.intro ((hr7 c1 c2).2.2.2.2.2.2.1) (rn_lt h1.2 (hr7 c1 c2).2.2.2.2.2.2.2))) (?_)))
        exact (rn_step (e := (.invokevirtual 36, 345, 96, 3, 589, 0, 10, [0])) rfl).mpr (And.intro ((rn_ks8 (M := M) hM)) ((k8 c1 c2)))
      | 6, c2 =>
        refine (rn_step (e := (.aload_n 1, 365, 1, 0, 0, 0, 0, [])) rfl).mpr ?_
        refine (rn_step (e := (.aload_n 0, 366, 0, 0, 0, 0, 0, [])) rfl).mpr ?_
        refine (rn_step (e := (.iload_n 3, 367, 3, 0, 0, 0, 0, [])) rfl).mpr ?_
        refine (rn_step (e := (.iconst 1, 368, 0, 0, 0, 0, 0, [])) rfl).mpr ?_
        refine (rn_step (e := (.iadd, 369, 0, 0, 0, 0, 0, [])) rfl).mpr (rn_cw (hr8 c1 c2).1 (hr8 c1 c2).2.1 ?_)
        refine (rn_step (e := (.iaload, 370, 0, 0, 0, 0, 0, [])) rfl).mpr (And.intro (Or.inr h1.1) (And.intro ((And.intro ((hr8 c1 c2).2.2.1) (rn_lt h1.2 (hr8 c1 c2).2.2.2.1))) (?_)))
        refine (rn_step (e := (.aload_n 0, 371, 0, 0, 0, 0, 0, [])) rfl).mpr ?_
        refine (rn_step (e := (.iload_n 3, 372, 3, 0, 0, 0, 0, [])) rfl).mpr ?_
        refine (rn_step (e := (.iconst 2, 373, 0, 0, 0, 0, 0, [])) rfl).mpr ?_
        refine (rn_step (e := (.iadd, 374, 0, 0, 0, 0, 0, [])) rfl).mpr (rn_cw (hr8 c1 c2).2.2.2.2.1 (hr8 c1 c2).2.2.2.2.2.1 ?_)
        refine (rn_step (e := (.iaload, 375, 0, 0, 0, 0, 0, [])) rfl).mpr (And.intro (Or.inr h1.1) (And.intro ((And.intro ((hr8 c1 c2).2.2.2.2.2.2.1) (rn_lt h1.2 (hr8 c1 c2).2.2.2.2.2.2.2))) (?_)))
        exact (rn_step (e := (.invokevirtual 41, 378, 97, 3, 596, 0, 10, [0])) rfl).mpr (And.intro ((rn_ks8 (M := M) hM)) ((k9 c1 c2)))
      | 7, c2 =>
        refine (rn_step (e := (.aload_n 1, 398, 1, 0, 0, 0, 0, [])) rfl).mpr ?_
        refine (rn_step (e := (.aload_n 0, 399, 0, 0, 0, 0, 0, [])) rfl).mpr ?_
        refine (rn_step (e := (.iload_n 3, 400, 3, 0, 0, 0, 0, [])) rfl).mpr ?_
        refine (rn_step (e := (.iconst 1, 401, 0, 0, 0, 0, 0, [])) rfl).mpr ?_
        refine (rn_step (e := (.iadd, 402, 0, 0, 0, 0, 0, [])) rfl).mpr (rn_cw (hr9 c1 c2).1 (hr9 c1 c2).2.1 ?_)
        refine (rn_step (e := (.iaload, 403, 0, 0, 0, 0, 0, [])) rfl).mpr (And.intro (Or.inr h1.1) (And.intro ((And.intro ((hr9 c1 c2).2.2.1) (rn_lt h1.2 (hr9 c1 c2).2.2.2.1))) (?_)))
        refine (rn_step (e := (.aload_n 0, 404, 0, 0, 0, 0, 0, [])) rfl).mpr ?_
        refine (rn_step (e := (.iload_n 3, 405, 3, 0, 0, 0, 0, [])) rfl).mpr ?_
        refine (rn_step (e := (.iconst 2, 406, 0, 0, 0, 0, 0, [])) rfl).mpr ?_
        refine (rn_step (e := (.iadd, 407, 0, 0, 0, 0, 0, [])) rfl).mpr (rn_cw (hr9 c1 c2).2.2.2.2.1 (hr9 c1 c2).2.2.2.2.2.1 ?_)
        refine (rn_step (e := (.iaload, 408, 0, 0, 0, 0, 0, [])) rfl).mpr (And.intro (Or.inr h1.1) (And.intro ((And.intro ((hr9 c1 c2).2.2.2.2.2.2.1) (rn_lt h1.2 (hr9 c1 c2).2.2.2.2.2.2.2))) (?_)))
        exact (rn_step (e := (.invokevirtual 45, 411, 98, 3, 600, 0, 10, [0])) rfl).mpr (And.intro ((rn_ks8 (M := M) hM)) ((k10 c1 c2)))
      | 8, c2 =>
        refine (rn_step (e := (.aload_n 1, 431, 1, 0, 0, 0, 0, [])) rfl).mpr ?_
        refine (rn_step (e := (.aload_n 0, 432, 0, 0, 0, 0, 0, [])) rfl).mpr ?_
        refine (rn_step (e := (.iload_n 3, 433, 3, 0, 0, 0, 0, [])) rfl).mpr ?_
        refine (rn_step (e := (.iconst 1, 434, 0, 0, 0, 0, 0, [])) rfl).mpr ?_
        refine (rn_step (e := (.iadd, 435, 0, 0, 0, 0, 0, [])) rfl).mpr (rn_cw (hr10 c1 c2).1 (hr10 c1 c2).2.1 ?_)
        refine (rn_step (e := (.iaload, 436, 0, 0, 0, 0, 0, [])) rfl).mpr (And.intro (Or.inr h1.1) (And.intro ((And.intro ((hr10 c1 c2).2.2.1) (rn_lt h1.2 (hr10 c1 c2).2.2.2.1))) (?_)))
        refine (rn_step (e := (.aload_n 0, 437, 0, 0, 0, 0, 0, [])) rfl).mpr ?_
        refine (rn_step (e := (.iload_n 3, 438, 3, 0, 0, 0, 0, [])) rfl).mpr ?_
        refine (rn_step (e := (.iconst 2, 439, 0, 0, 0, 0, 0, [])) rfl).mpr ?_
        refine (rn_step (e := (.iadd, 440, 0, 0, 0, 0, 0, [])) rfl).mpr (rn_cw (hr10 c1 c2).2.2.2.2.1 (hr10 c1 c2).2.2.2.2.2.1 ?_)
        refine (rn_step (e := (.iaload, 441, 0, 0, 0, 0, 0, [])) rfl).mpr (And.intro (Or.inr h1.1) (And.intro ((And.intro ((hr10 c1 c2).2.2.2.2.2.2.1) (rn_lt h1.2 (hr10 c1 c2).2.2.2.2.2.2.2))) (?_)))
        exact (rn_step (e := (.invokevirtual 49, 444, 99, 3, 604, 0, 10, [0])) rfl).mpr (And.intro ((rn_ks8 (M := M) hM)) ((k11 c1 c2)))
      | 9, c2 =>
        refine (rn_step (e := (.aload_n 1, 464, 1, 0, 0, 0, 0, [])) rfl).mpr ?_
        refine (rn_step (e := (.aload_n 0, 465, 0, 0, 0, 0, 0, [])) rfl).mpr ?_
        refine (rn_step (e := (.iload_n 3, 466, 3, 0, 0, 0, 0, [])) rfl).mpr ?_
        refine (rn_step (e := (.iconst 1, 467, 0, 0, 0, 0, 0, [])) rfl).mpr ?_
        refine (rn_step (e := (.iadd, 468, 0, 0, 0, 0, 0, [])) rfl).mpr (rn_cw (hr11 c1 c2).1 (hr11 c1 c2).2.1 ?_)
        refine (rn_step (e := (.iaload, 469, 0, 0, 0, 0, 0, [])) rfl).mpr (And.intro (Or.inr h1.1) (And.intro ((And.intro ((hr11 c1 c2).2.2.1) (rn_lt h1.2 (hr11 c1 c2).2.2.2))) (?_)))
        exact (rn_step (e := (.invokevirtual 53, 472, 100, 2, 609, 0, 10, [0])) rfl).mpr (And.intro ((rn_ks8 (M := M) hM)) ((k12 c1 c2)))
      | 10, c2 =>
        refine (rn_step (e := (.aload_n 1, 487, 1, 0, 0, 0, 0, [])) rfl).mpr ?_
        refine (rn_step (e := (.aload_n 0, 488, 0, 0, 0, 0, 0, [])) rfl).mpr ?_
        refine (rn_step (e := (.iload_n 3, 489, 3, 0, 0, 0, 0, [])) rfl).mpr ?_
        refine (rn_step (e := (.iconst 1, 490, 0, 0, 0, 0, 0, [])) rfl).mpr ?_
        refine (rn_step (e := (.iadd, 491, 0, 0, 0, 0, 0, [])) rfl).mpr (rn_cw (hr12 c1 c2).1 (hr12 c1 c2).2.1 ?_)
        refine (rn_step (e := (.iaload, 492, 0, 0, 0, 0, 0, [])) rfl).mpr (And.intro (Or.inr h1.1) (And.intro ((And.intro ((hr12 c1 c2).2.2.1) (rn_lt h1.2 (hr12 c1 c2).2.2.2.1))) (?_)))
        refine (rn_step (e := (.aload_n 0, 493, 0, 0, 0, 0, 0, [])) rfl).mpr ?_
        refine (rn_step (e := (.iload_n 3, 494, 3, 0, 0, 0, 0, [])) rfl).mpr ?_
        refine (rn_step (e := (.iconst 2, 495, 0, 0, 0, 0, 0, [])) rfl).mpr ?_
        refine (rn_step (e := (.iadd, 496, 0, 0, 0, 0, 0, [])) rfl).mpr (rn_cw (hr12 c1 c2).2.2.2.2.1 (hr12 c1 c2).2.2.2.2.2.1 ?_)
        refine (rn_step (e := (.iaload, 497, 0, 0, 0, 0, 0, [])) rfl).mpr (And.intro (Or.inr h1.1) (And.intro ((And.intro ((hr12 c1 c2).2.2.2.2.2.2.1) (rn_lt h1.2 (hr12 c1 c2).2.2.2.2.2.2.2))) (?_)))
        exact (rn_step (e := (.invokevirtual 57, 500, 101, 3, 613, 0, 10, [0])) rfl).mpr (And.intro ((rn_ks8 (M := M) hM)) ((k13 c1 c2)))
      | 11, c2 =>
        refine (rn_step (e := (.aload_n 1, 520, 1, 0, 0, 0, 0, [])) rfl).mpr ?_
        refine (rn_step (e := (.aload_n 0, 521, 0, 0, 0, 0, 0, [])) rfl).mpr ?_
        refine (rn_step (e := (.iload_n 3, 522, 3, 0, 0, 0, 0, [])) rfl).mpr ?_
        refine (rn_step (e := (.iconst 1, 523, 0, 0, 0, 0, 0, [])) rfl).mpr ?_
        refine (rn_step (e := (.iadd, 524, 0, 0, 0, 0, 0, [])) rfl).mpr (rn_cw (hr13 c1 c2).1 (hr13 c1 c2).2.1 ?_)
        refine (rn_step (e := (.iaload, 525, 0, 0, 0, 0, 0, [])) rfl).mpr (And.intro (Or.inr h1.1) (And.intro ((And.intro ((hr13 c1 c2).2.2.1) (rn_lt h1.2 (hr13 c1 c2).2.2.2))) (?_)))
        exact (rn_step (e := (.invokevirtual 61, 528, 102, 2, 665, 0, 10, [0])) rfl).mpr (And.intro ((rn_ks8 (M := M) hM)) ((k14 c1 c2)))
      | 12, c2 =>
        refine (rn_step (e := (.aload_n 1, 543, 1, 0, 0, 0, 0, [])) rfl).mpr ?_
        refine (rn_step (e := (.aload_n 0, 544, 0, 0, 0, 0, 0, [])) rfl).mpr ?_
        refine (rn_step (e := (.iload_n 3, 545, 3, 0, 0, 0, 0, [])) rfl).mpr ?_
        refine (rn_step (e := (.iconst 1, 546, 0, 0, 0, 0, 0, [])) rfl).mpr ?_
        refine (rn_step (e := (.iadd, 547, 0, 0, 0, 0, 0, [])) rfl).mpr (rn_cw (hr14 c1 c2).1 (hr14 c1 c2).2.1 ?_)
        refine (rn_step (e := (.iaload, 548, 0, 0, 0, 0, 0, [])) rfl).mpr (And.intro (Or.inr h1.1) (And.intro ((And.intro ((hr14 c1 c2).2.2.1) (rn_lt h1.2 (hr14 c1 c2).2.2.2))) (?_)))
        exact (rn_step (e := (.invokevirtual 65, 551, 103, 2, 673, 0, 10, [0])) rfl).mpr (And.intro ((rn_ks8 (M := M) hM)) ((k15 c1 c2)))
      | 13, c2 =>
        refine (rn_step (e := (.aload_n 1, 566, 1, 0, 0, 0, 0, [])) rfl).mpr ?_
        exact (rn_step (e := (.invokevirtual 69, 569, 104, 1, 713, 0, 10, [0])) rfl).mpr (And.intro ((rn_ks8 (M := M) hM)) ((k16 c1 c2)))
      | 14, c2 =>
        refine (rn_step (e := (.aload_n 1, 579, 1, 0, 0, 0, 0, [])) rfl).mpr ?_
        exact (rn_step (e := (.invokevirtual 73, 582, 105, 1, 727, 0, 10, [0])) rfl).mpr (And.intro ((rn_ks8 (M := M) hM)) ((k17 c1 c2)))
      | 15, c2 =>
        refine (rn_step (e := (.aload_n 1, 592, 1, 0, 0, 0, 0, [])) rfl).mpr ?_
        refine (rn_step (e := (.aload_n 0, 593, 0, 0, 0, 0, 0, [])) rfl).mpr ?_
        refine (rn_step (e := (.iload_n 3, 594, 3, 0, 0, 0, 0, [])) rfl).mpr ?_
        refine (rn_step (e := (.iconst 1, 595, 0, 0, 0, 0, 0, [])) rfl).mpr ?_
        refine (rn_step (e := (.iadd, 596, 0, 0, 0, 0, 0, [])) rfl).mpr (rn_cw (hr15 c1 c2).1 (hr15 c1 c2).2.1 ?_)
        refine (rn_step (e := (.iaload, 597, 0, 0, 0, 0, 0, [])) rfl).mpr (And.intro (Or.inr h1.1) (And.intro ((And.intro ((hr15 c1 c2).2.2.1) (rn_lt h1.2 (hr15 c1 c2).2.2.2))) (?_)))
        exact (rn_step (e := (.invokevirtual 77, 600, 106, 2, 735, 0, 10, [0])) rfl).mpr (And.intro ((rn_ks8 (M := M) hM)) ((k18 c1 c2)))
      | 16, c2 =>
        refine (rn_step (e := (.aload_n 1, 615, 1, 0, 0, 0, 0, [])) rfl).mpr ?_
        refine (rn_step (e := (.aload_n 0, 616, 0, 0, 0, 0, 0, [])) rfl).mpr ?_
        refine (rn_step (e := (.iload_n 3, 617, 3, 0, 0, 0, 0, [])) rfl).mpr ?_
        refine (rn_step (e := (.iconst 1, 618, 0, 0, 0, 0, 0, [])) rfl).mpr ?_
        refine (rn_step (e := (.iadd, 619, 0, 0, 0, 0, 0, [])) rfl).mpr (rn_cw (hr16 c1 c2).1 (hr16 c1 c2).2.1 ?_)
        refine (rn_step (e := (.iaload, 620, 0, 0, 0, 0, 0, [])) rfl).mpr (And.intro (Or.inr h1.1) (And.intro ((And.intro ((hr16 c1 c2).2.2.1) (rn_lt h1.2 (hr16 c1 c2).2.2.2.1))) (?_)))
        refine (rn_step (e := (.aload_n 0, 621, 0, 0, 0, 0, 0, [])) rfl).mpr ?_
        refine (rn_step (e := (.iload_n 3, 622, 3, 0, 0, 0, 0, [])) rfl).mpr ?_
        refine (rn_step (e := (.iconst 2, 623, 0, 0, 0, 0, 0, [])) rfl).mpr ?_
        refine (rn_step (e := (.iadd, 624, 0, 0, 0, 0, 0, [])) rfl).mpr (rn_cw (hr16 c1 c2).2.2.2.2.1 (hr16 c1 c2).2.2.2.2.2.1 ?_)
        refine (rn_step (e := (.iaload, 625, 0, 0, 0, 0, 0, [])) rfl).mpr (And.intro (Or.inr h1.1) (And.intro ((And.intro ((hr16 c1 c2).2.2.2.2.2.2.1) (rn_lt h1.2 (hr16 c1 c2).2.2.2.2.2.2.2))) (?_)))
        exact (rn_step (e := (.invokevirtual 81, 628, 107, 3, 786, 0, 10, [0])) rfl).mpr (And.intro ((rn_ks8 (M := M) hM)) ((k19 c1 c2)))
      | 17, c2 =>
        refine (rn_step (e := (.aload_n 1, 648, 1, 0, 0, 0, 0, [])) rfl).mpr ?_
        refine (rn_step (e := (.aload_n 0, 649, 0, 0, 0, 0, 0, [])) rfl).mpr ?_
        refine (rn_step (e := (.iload_n 3, 650, 3, 0, 0, 0, 0, [])) rfl).mpr ?_
        refine (rn_step (e := (.iconst 1, 651, 0, 0, 0, 0, 0, [])) rfl).mpr ?_
        refine (rn_step (e := (.iadd, 652, 0, 0, 0, 0, 0, [])) rfl).mpr (rn_cw (hr17 c1 c2).1 (hr17 c1 c2).2.1 ?_)
        refine (rn_step (e := (.iaload, 653, 0, 0, 0, 0, 0, [])) rfl).mpr (And.intro (Or.inr h1.1) (And.intro ((And.intro ((hr17 c1 c2).2.2.1) (rn_lt h1.2 (hr17 c1 c2).2.2.2.1))) (?_)))
        refine (rn_step (e := (.aload_n 0, 654, 0, 0, 0, 0, 0, [])) rfl).mpr ?_
        refine (rn_step (e := (.iload_n 3, 655, 3, 0, 0, 0, 0, [])) rfl).mpr ?_
        refine (rn_step (e := (.iconst 2, 656, 0, 0, 0, 0, 0, [])) rfl).mpr ?_
        refine (rn_step (e := (.iadd, 657, 0, 0, 0, 0, 0, [])) rfl).mpr (rn_cw (hr17 c1 c2).2.2.2.2.1 (hr17 c1 c2).2.2.2.2.2.1 ?_)
        refine (rn_step (e := (.iaload, 658, 0, 0, 0, 0, 0, [])) rfl).mpr (And.intro (Or.inr h1.1) (And.intro ((And.intro ((hr17 c1 c2).2.2.2.2.2.2.1) (rn_lt h1.2 (hr17 c1 c2).2.2.2.2.2.2.2))) (?_)))
        exact (rn_step (e := (.invokevirtual 85, 661, 108, 3, 798, 0, 10, [0])) rfl).mpr (And.intro ((rn_ks8 (M := M) hM)) ((k20 c1 c2)))
      | 18, c2 =>
        refine (rn_step (e := (.aload_n 1, 681, 1, 0, 0, 0, 0, [])) rfl).mpr ?_
        refine (rn_step (e := (.aload_n 0, 682, 0, 0, 0, 0, 0, [])) rfl).mpr ?_
        refine (rn_step (e := (.iload_n 3, 683, 3, 0, 0, 0, 0, [])) rfl).mpr ?_
        refine (rn_step (e := (.iconst 1, 684, 0, 0, 0, 0, 0, [])) rfl).mpr ?_
        refine (rn_step (e := (.iadd, 685, 0, 0, 0, 0, 0, [])) rfl).mpr (rn_cw (hr18 c1 c2).1 (hr18 c1 c2).2.1 ?_)
        refine (rn_step (e := (.iaload, 686, 0, 0, 0, 0, 0, [])) rfl).mpr (And.intro (Or.inr h1.1) (And.intro ((And.intro ((hr18 c1 c2).2.2.1) (rn_lt h1.2 (hr18 c1 c2).2.2.2.1))) (?_)))
        refine (rn_step (e := (.aload_n 0, 687, 0, 0, 0, 0, 0, [])) rfl).mpr ?_
        refine (rn_step (e := (.iload_n 3, 688, 3, 0, 0, 0, 0, [])) rfl).mpr ?_
        refine (rn_step (e := (.iconst 2, 689, 0, 0, 0, 0, 0, [])) rfl).mpr ?_
        refine (rn_step (e := (.iadd, 690, 0, 0, 0, 0, 0, [])) rfl).mpr (rn_cw (hr18 c1 c2).2.2.2.2.1 (hr18 c1 c2).2.2.2.2.2.1 ?_)
        refine (rn_step (e := (.iaload, 691, 0, 0, 0, 0, 0, [])) rfl).mpr (And.intro (Or.inr h1.1) (And.intro ((And.intro ((hr18 c1 c2).2.2.2.2.2.2.1) (rn_lt h1.2 (hr18 c1 c2).2.2.2.2.2.2.2))) (?_)))
        exact (rn_step (e := (.invokevirtual 89, 694, 109, 3, 805, 0, 10, [0])) rfl).mpr (And.intro ((rn_ks8 (M := M) hM)) ((k21 c1 c2)))
      | 19, c2 =>
        refine (rn_step (e := (.aload_n 1, 714, 1, 0, 0, 0, 0, [])) rfl).mpr ?_
        refine (rn_step (e := (.aload_n 0, 715, 0, 0, 0, 0, 0, [])) rfl).mpr ?_
        refine (rn_step (e := (.iload_n 3, 716, 3, 0, 0, 0, 0, [])) rfl).mpr ?_
        refine (rn_step (e := (.iconst 1, 717, 0, 0, 0, 0, 0, [])) rfl).mpr ?_
        refine (rn_step (e := (.iadd, 718, 0, 0, 0, 0, 0, [])) rfl).mpr (rn_cw (hr19 c1 c2).1 (hr19 c1 c2).2.1 ?_)
        refine (rn_step (e := (.iaload, 719, 0, 0, 0, 0, 0, [])) rfl).mpr (And.intro (Or.inr h1.1) (And.intro ((And.intro ((hr19 c1 c2).2.2.1) (rn_lt h1.2 (hr19 c1 c2).2.2.2.1))) (?_)))
        refine (rn_step (e := (.aload_n 0, 720, 0, 0, 0, 0, 0, [])) rfl).mpr ?_
        refine (rn_step (e := (.iload_n 3, 721, 3, 0, 0, 0, 0, [])) rfl).mpr ?_
        refine (rn_step (e := (.iconst 2, 722, 0, 0, 0, 0, 0, [])) rfl).mpr ?_
        refine (rn_step (e := (.iadd, 723, 0, 0, 0, 0, 0, [])) rfl).mpr (rn_cw (hr19 c1 c2).2.2.2.2.1 (hr19 c1 c2).2.2.2.2.2.1 ?_)
        refine (rn_step (e := (.iaload, 724, 0, 0, 0, 0, 0, [])) rfl).mpr (And.intro (Or.inr h1.1) (And.intro ((And.intro ((hr19 c1 c2).2.2.2.2.2.2.1) (rn_lt h1.2 (hr19 c1 c2).2.2.2.2.2.2.2))) (?_)))
        exact (rn_step (e := (.invokevirtual 93, 727, 110, 3, 813, 0, 10, [0])) rfl).mpr (And.intro ((rn_ks8 (M := M) hM)) ((k22 c1 c2)))
      | 20, c2 =>
        refine (rn_step (e := (.aload_n 1, 747, 1, 0, 0, 0, 0, [])) rfl).mpr ?_
        refine (rn_step (e := (.aload_n 0, 748, 0, 0, 0, 0, 0, [])) rfl).mpr ?_
        refine (rn_step (e := (.iload_n 3, 749, 3, 0, 0, 0, 0, [])) rfl).mpr ?_
        refine (rn_step (e := (.iconst 1, 750, 0, 0, 0, 0, 0, [])) rfl).mpr ?_
        refine (rn_step (e := (.iadd, 751, 0, 0, 0, 0, 0, [])) rfl).mpr (rn_cw (hr20 c1 c2).1 (hr20 c1 c2).2.1 ?_)
        refine (rn_step (e := (.iaload, 752, 0, 0, 0, 0, 0, [])) rfl).mpr (And.intro (Or.inr h1.1) (And.intro ((And.intro ((hr20 c1 c2).2.2.1) (rn_lt h1.2 (hr20 c1 c2).2.2.2.1))) (?_)))
        refine (rn_step (e := (.aload_n 0, 753, 0, 0, 0, 0, 0, [])) rfl).mpr ?_
        refine (rn_step (e := (.iload_n 3, 754, 3, 0, 0, 0, 0, [])) rfl).mpr ?_
        refine (rn_step (e := (.iconst 2, 755, 0, 0, 0, 0, 0, [])) rfl).mpr ?_
        refine (rn_step (e := (.iadd, 756, 0, 0, 0, 0, 0, [])) rfl).mpr (rn_cw (hr20 c1 c2).2.2.2.2.1 (hr20 c1 c2).2.2.2.2.2.1 ?_)
        refine (rn_step (e := (.iaload, 757, 0, 0, 0, 0, 0, [])) rfl).mpr (And.intro (Or.inr h1.1) (And.intro ((And.intro ((hr20 c1 c2).2.2.2.2.2.2.1) (rn_lt h1.2 (hr20 c1 c2).2.2.2.2.2.2.2))) (?_)))
        exact (rn_step (e := (.invokevirtual 97, 760, 111, 3, 826, 0, 10, [0])) rfl).mpr (And.intro ((rn_ks8 (M := M) hM)) ((k23 c1 c2)))
      | 21, c2 =>
        refine (rn_step (e := (.aload_n 1, 780, 1, 0, 0, 0, 0, [])) rfl).mpr ?_
        refine (rn_step (e := (.aload_n 0, 781, 0, 0, 0, 0, 0, [])) rfl).mpr ?_
        refine (rn_step (e := (.iload_n 3, 782, 3, 0, 0, 0, 0, [])) rfl).mpr ?_
        refine (rn_step (e := (.iconst 1, 783, 0, 0, 0, 0, 0, [])) rfl).mpr ?_
        refine (rn_step (e := (.iadd, 784, 0, 0, 0, 0, 0, [])) rfl).mpr (rn_cw (hr21 c1 c2).1 (hr21 c1 c2).2.1 ?_)
        refine (rn_step (e := (.iaload, 785, 0, 0, 0, 0, 0, [])) rfl).mpr (And.intro (Or.inr h1.1) (And.intro ((And.intro ((hr21 c1 c2).2.2.1) (rn_lt h1.2 (hr21 c1 c2).2.2.2.1))) (?_)))
        refine (rn_step (e := (.aload_n 0, 786, 0, 0, 0, 0, 0, [])) rfl).mpr ?_
        refine (rn_step (e := (.iload_n 3, 787, 3, 0, 0, 0, 0, [])) rfl).mpr ?_
        refine (rn_step (e := (.iconst 2, 788, 0, 0, 0, 0, 0, [])) rfl).mpr ?_
        refine (rn_step (e := (.iadd, 789, 0, 0, 0, 0, 0, [])) rfl).mpr (rn_cw (hr21 c1 c2).2.2.2.2.1 (hr21 c1 c2).2.2.2.2.2.1 ?_)
        refine (rn_step (e := (.iaload, 790, 0, 0, 0, 0, 0, [])) rfl).mpr (And.intro (Or.inr h1.1) (And.intro ((And.intro ((hr21 c1 c2).2.2.2.2.2.2.1) (rn_lt h1.2 (hr21 c1 c2).2.2.2.2.2.2.2))) (?_)))
        exact (rn_step (e := (.invokevirtual 101, 793, 112, 3, 846, 0, 10, [0])) rfl).mpr (And.intro ((rn_ks8 (M := M) hM)) ((k24 c1 c2)))
      | 22, c2 =>
        refine (rn_step (e := (.aload_n 1, 813, 1, 0, 0, 0, 0, [])) rfl).mpr ?_
        refine (rn_step (e := (.aload_n 0, 814, 0, 0, 0, 0, 0, [])) rfl).mpr ?_
        refine (rn_step (e := (.iload_n 3, 815, 3, 0, 0, 0, 0, [])) rfl).mpr ?_
        refine (rn_step (e := (.iconst 1, 816, 0, 0, 0, 0, 0, [])) rfl).mpr ?_
        refine (rn_step (e := (.iadd, 817, 0, 0, 0, 0, 0, [])) rfl).mpr (rn_cw (hr22 c1 c2).1 (hr22 c1 c2).2.1 ?_)
        refine (rn_step (e := (.iaload, 818, 0, 0, 0, 0, 0, [])) rfl).mpr (And.intro (Or.inr h1.1) (And.intro ((And.intro ((hr22 c1 c2).2.2.1) (rn_lt h1.2 (hr22 c1 c2).2.2.2.1))) (?_)))
        refine (rn_step (e := (.aload_n 0, 819, 0, 0, 0, 0, 0, [])) rfl).mpr ?_
        refine (rn_step (e := (.iload_n 3, 820, 3, 0, 0, 0, 0, [])) rfl).mpr ?_
        refine (rn_step (e := (.iconst 2, 821, 0, 0, 0, 0, 0, [])) rfl).mpr ?_
        refine (rn_step (e := (.iadd, 822, 0, 0, 0, 0, 0, [])) rfl).mpr (rn_cw (hr22 c1 c2).2.2.2.2.1 (hr22 c1 c2).2.2.2.2.2.1 ?_)
        refine (rn_step (e := (.iaload, 823, 0, 0, 0, 0, 0, [])) rfl).mpr (And.intro (Or.inr h1.1) (And.intro ((And.intro ((hr22 c1 c2).2.2.2.2.2.2.1) (rn_lt h1.2 (hr22 c1 c2).2.2.2.2.2.2.2.1))) (?_)))
        refine (rn_step (e := (.aload_n 0, 824, 0, 0, 0, 0, 0, [])) rfl).mpr ?_
        refine (rn_step (e := (.iload_n 3, 825, 3, 0, 0, 0, 0, [])) rfl).mpr ?_
        refine (rn_step (e := (.iconst 3, 826, 0, 0, 0, 0, 0, [])) rfl).mpr ?_
        refine (rn_step (e := (.iadd, 827, 0, 0, 0, 0, 0, [])) rfl).mpr (rn_cw (hr22 c1 c2).2.2.2.2.2.2.2.2.1 (hr22 c1 c2).2.2.2.2.2.2.2.2.2.1 ?_)
        refine (rn_step (e := (.iaload, 828, 0, 0, 0, 0, 0, [])) rfl).mpr (And.intro (Or.inr h1.1) (And.intro ((And.intro ((hr22 c1 c2).2.2.2.2.2.2.2.2.2.2.1) (rn_lt h1.2 (hr22 c1 c2).2.2.2.2.2.2.2.2.2.2.2))) (?_)))
        exact (rn_step (e := (.invokevirtual 105, 831, 113, 4, 860, 0, 10, [0])) rfl).mpr (And.intro ((rn_ks8 (M := M) hM)) ((k25 c1 c2)))
      | 23, c2 =>
        refine (rn_step (e := (.aload_n 1, 856, 1, 0, 0, 0, 0, [])) rfl).mpr ?_
        refine (rn_step (e := (.aload_n 0, 857, 0, 0, 0, 0, 0, [])) rfl).mpr ?_
        refine (rn_step (e := (.iload_n 3, 858, 3, 0, 0, 0, 0, [])) rfl).mpr ?_
        refine (rn_step (e := (.iconst 1, 859, 0, 0, 0, 0, 0, [])) rfl).mpr ?_
        refine (rn_step (e := (.iadd, 860, 0, 0, 0, 0, 0, [])) rfl).mpr (rn_cw (hr23 c1 c2).1 (hr23 c1 c2).2.1 ?_)
        refine (rn_step (e := (.iaload, 861, 0, 0, 0, 0, 0, [])) rfl).mpr (And.intro (Or.inr h1.1) (And.intro ((And.intro ((hr23 c1 c2).2.2.1) (rn_lt h1.2 (hr23 c1 c2).2.2.2.1))) (?_)))
        refine (rn_step (e := (.aload_n 0, 862, 0, 0, 0, 0, 0, [])) rfl).mpr ?_
        refine (rn_step (e := (.iload_n 3, 863, 3, 0, 0, 0, 0, [])) rfl).mpr ?_
        refine (rn_step (e := (.iconst 2, 864, 0, 0, 0, 0, 0, [])) rfl).mpr ?_
        refine (rn_step (e := (.iadd, 865, 0, 0, 0, 0, 0, [])) rfl).mpr (rn_cw (hr23 c1 c2).2.2.2.2.1 (hr23 c1 c2).2.2.2.2.2.1 ?_)
        refine (rn_step (e := (.iaload, 866, 0, 0, 0, 0, 0, [])) rfl).mpr (And.intro (Or.inr h1.1) (And.intro ((And.intro ((hr23 c1 c2).2.2.2.2.2.2.1) (rn_lt h1.2 (hr23 c1 c2).2.2.2.2.2.2.2))) (?_)))
        exact (rn_step (e := (.invokevirtual 110, 869, 114, 3, 865, 0, 10, [0])) rfl).mpr (And.intro ((rn_ks8 (M := M) hM)) ((k26 c1 c2)))
      | 24, c2 =>
        refine (rn_step (e := (.aload_n 1, 889, 1, 0, 0, 0, 0, [])) rfl).mpr ?_
        refine (rn_step (e := (.aload_n 0, 890, 0, 0, 0, 0, 0, [])) rfl).mpr ?_
        refine (rn_step (e := (.iload_n 3, 891, 3, 0, 0, 0, 0, [])) rfl).mpr ?_
        refine (rn_step (e := (.iconst 1, 892, 0, 0, 0, 0, 0, [])) rfl).mpr ?_
        refine (rn_step (e := (.iadd, 893, 0, 0, 0, 0, 0, [])) rfl).mpr (rn_cw (hr24 c1 c2).1 (hr24 c1 c2).2.1 ?_)
        refine (rn_step (e := (.iaload, 894, 0, 0, 0, 0, 0, [])) rfl).mpr (And.intro (Or.inr h1.1) (And.intro ((And.intro ((hr24 c1 c2).2.2.1) (rn_lt h1.2 (hr24 c1 c2).2.2.2.1))) (?_)))
        refine (rn_step (e := (.aload_n 0, 895, 0, 0, 0, 0, 0, [])) rfl).mpr ?_
        refine (rn_step (e := (.iload_n 3, 896, 3, 0, 0, 0, 0, [])) rfl).mpr ?_
        refine (rn_step (e := (.iconst 2, 897, 0, 0, 0, 0, 0, [])) rfl).mpr ?_
        refine (rn_step (e := (.iadd, 898, 0, 0, 0, 0, 0, [])) rfl).mpr (rn_cw (hr24 c1 c2).2.2.2.2.1 (hr24 c1 c2).2.2.2.2.2.1 ?_)
        refine (rn_step (e := (.iaload, 899, 0, 0, 0, 0, 0, [])) rfl).mpr (And.intro (Or.inr h1.1) (And.intro ((And.intro ((hr24 c1 c2).2.2.2.2.2.2.1) (rn_lt h1.2 (hr24 c1 c2).2.2.2.2.2.2.2))) (?_)))
        exact (rn_step (e := (.invokevirtual 114, 902, 115, 3, 874, 0, 10, [0])) rfl).mpr (And.intro ((rn_ks8 (M := M) hM)) ((k27 c1 c2)))
      | 25, c2 =>
        refine (rn_step (e := (.aload_n 1, 922, 1, 0, 0, 0, 0, [])) rfl).mpr ?_
        refine (rn_step (e := (.aload_n 0, 923, 0, 0, 0, 0, 0, [])) rfl).mpr ?_
        refine (rn_step (e := (.iload_n 3, 924, 3, 0, 0, 0, 0, [])) rfl).mpr ?_
        refine (rn_step (e := (.iconst 1, 925, 0, 0, 0, 0, 0, [])) rfl).mpr ?_
        refine (rn_step (e := (.iadd, 926, 0, 0, 0, 0, 0, [])) rfl).mpr (rn_cw (hr25 c1 c2).1 (hr25 c1 c2).2.1 ?_)
        refine (rn_step (e := (.iaload, 927, 0, 0, 0, 0, 0, [])) rfl).mpr (And.intro (Or.inr h1.1) (And.intro ((And.intro ((hr25 c1 c2).2.2.1) (rn_lt h1.2 (hr25 c1 c2).2.2.2.1))) (?_)))
        refine (rn_step (e := (.aload_n 0, 928, 0, 0, 0, 0, 0, [])) rfl).mpr ?_
        refine (rn_step (e := (.iload_n 3, 929, 3, 0, 0, 0, 0, [])) rfl).mpr ?_
        refine (rn_step (e := (.iconst 2, 930, 0, 0, 0, 0, 0, [])) rfl).mpr ?_
        refine (rn_step (e := (.iadd, 931, 0, 0, 0, 0, 0, [])) rfl).mpr (rn_cw (hr25 c1 c2).2.2.2.2.1 (hr25 c1 c2).2.2.2.2.2.1 ?_)
        refine (rn_step (e := (.iaload, 932, 0, 0, 0, 0, 0, [])) rfl).mpr (And.intro (Or.inr h1.1) (And.intro ((And.intro ((hr25 c1 c2).2.2.2.2.2.2.1) (rn_lt h1.2 (hr25 c1 c2).2.2.2.2.2.2.2))) (?_)))
        exact (rn_step (e := (.invokevirtual 118, 935, 116, 3, 878, 0, 10, [0])) rfl).mpr (And.intro ((rn_ks8 (M := M) hM)) ((k28 c1 c2)))
      | 26, c2 =>
        refine (rn_step (e := (.aload_n 1, 955, 1, 0, 0, 0, 0, [])) rfl).mpr ?_
        refine (rn_step (e := (.aload_n 0, 956, 0, 0, 0, 0, 0, [])) rfl).mpr ?_
        refine (rn_step (e := (.iload_n 3, 957, 3, 0, 0, 0, 0, [])) rfl).mpr ?_
        refine (rn_step (e := (.iconst 1, 958, 0, 0, 0, 0, 0, [])) rfl).mpr ?_
        refine (rn_step (e := (.iadd, 959, 0, 0, 0, 0, 0, [])) rfl).mpr (rn_cw (hr26 c1 c2).1 (hr26 c1 c2).2.1 ?_)
        refine (rn_step (e := (.iaload, 960, 0, 0, 0, 0, 0, [])) rfl).mpr (And.intro (Or.inr h1.1) (And.intro ((And.intro ((hr26 c1 c2).2.2.1) (rn_lt h1.2 (hr26 c1 c2).2.2.2))) (?_)))
        exact (rn_step (e := (.invokevirtual 122, 963, 117, 2, 886, 0, 10, [0])) rfl).mpr (And.intro ((rn_ks8 (M := M) hM)) ((k29 c1 c2)))
      | n + 27, hn => exact absurd (Or.inr (by omega)) q
set_option maxRecDepth 4000 in
theorem rb_Lw_law_165 {M : rn_M} {Q : rn_Q} {al0 : Nat} {vl1 : rn_V} {xl3 : Int} {vs0 : rn_V} {n1 : Nat} (hM : rn_sh M)  (h1 : rn_fa M al0 n1) (hr1 : (-2147483648 : Int) ≤ xl3 + 1 ∧ xl3 + 1 ≤ 2147483647 ∧ (0 : Int) ≤ xl3 + 1 ∧ xl3 + 1 < (n1 : Int)) (k1 : rn_ME 189 [rn_R 466, rn_I (rn_gi M al0 (xl3 + 1).toNat)] M (fun r M1 => rn_WP 215 174 [rn_R al0, vl1, rn_R 466, rn_I xl3] (r.toList ++ [vs0]) M1 Q)) : rn_WP 215 165 [rn_R al0, vl1, rn_R 466, rn_I xl3] [vs0] M Q := by
  refine (rn_step (e := (.aload_n 2, 166, 2, 0, 0, 0, 0, [])) rfl).mpr ?_
  refine (rn_step (e := (.aload_n 0, 167, 0, 0, 0, 0, 0, [])) rfl).mpr ?_
  refine (rn_step (e := (.iload_n 3, 168, 3, 0, 0, 0, 0, [])) rfl).mpr ?_
  refine (rn_step (e := (.iconst 1, 169, 0, 0, 0, 0, 0, [])) rfl).mpr ?_
  refine (rn_step (e := (.iadd, 170, 0, 0, 0, 0, 0, [])) rfl).mpr (rn_cw hr1.1 hr1.2.1 ?_)
  refine (rn_step (e := (.iaload, 171, 0, 0, 0, 0, 0, [])) rfl).mpr (And.intro (Or.inr h1.1) (And.intro ((And.intro (hr1.2.2.1) (rn_lt h1.2 hr1.2.2.2))) (?_)))
  exact (rn_step (e := (.invokevirtual 17, 174, 189, 2, 1198, 0, 11, [0])) rfl).mpr (And.intro ((rn_ks466 (M := M) hM)) (k1))
set_option maxRecDepth 4000 in
theorem rb_Lw_law_174 {M : rn_M} {Q : rn_Q} {vl0 : rn_V} {vl1 : rn_V} {vl2 : rn_V} {xl3 : Int} {xs0 : Int} {xs1 : Int}   (hr1 : (xs1 = xs0) → (-2147483648 : Int) ≤ xl3 + 6 ∧ xl3 + 6 ≤ 2147483647) (k1 : (xs1 = xs0) → rn_WP 215 18 [vl0, vl1, vl2, rn_I (xl3 + 6)] [] M Q) (k2 : (¬ (xs1 = xs0)) → Q (some (rn_I 0)) M) : rn_WP 215 174 [vl0, vl1, vl2, rn_I xl3] [rn_I xs0, rn_I xs1] M Q := by
  refine (rn_step (e := (.if_icmp .eq 803, 177, 977, 0, 0, 0, 0, [])) rfl).mpr (And.intro (fun c1 => ?_) (fun c1 => ?_))
  ·
    refine (rn_step (e := (.iinc 3 6, 980, 3, 0, 0, 0, 0, [])) rfl).mpr (rn_ci (hr1 c1).1 (hr1 c1).2 ?_)
    refine (rn_step (e := (.goto (-962), 983, 18, 0, 0, 0, 0, [])) rfl).mpr ?_
    exact (k1 c1)
  ·
    refine (rn_step (e := (.iconst 0, 178, 0, 0, 0, 0, 0, [])) rfl).mpr ?_
    exact (rn_step (e := (.ireturn, 179, 0, 0, 0, 1, 0, [])) rfl).mpr (And.intro ((Or.inl rfl)) ((k2 c1)))
set_option maxRecDepth 4000 in
theorem rb_Lw_law_183 {M : rn_M} {Q : rn_Q} {vl0 : rn_V} {vl1 : rn_V} {vl3 : rn_V} {vs0 : rn_V} (hM : rn_sh M)   (k1 : rn_ME 190 [rn_R 466] M (fun r M1 => rn_WP 215 187 [vl0, vl1, rn_R 466, vl3] (r.toList ++ [vs0]) M1 Q)) : rn_WP 215 183 [vl0, vl1, rn_R 466, vl3] [vs0] M Q := by
  refine (rn_step (e := (.aload_n 2, 184, 2, 0, 0, 0, 0, [])) rfl).mpr ?_
  exact (rn_step (e := (.invokevirtual 22, 187, 190, 1, 1202, 0, 11, [0])) rfl).mpr (And.intro ((rn_ks466 (M := M) hM)) (k1))
set_option maxRecDepth 4000 in
theorem rb_Lw_law_187 {M : rn_M} {Q : rn_Q} {vl0 : rn_V} {vl1 : rn_V} {vl2 : rn_V} {xl3 : Int} {xs0 : Int} {xs1 : Int}   (hr1 : (xs1 = xs0) → (-2147483648 : Int) ≤ xl3 + 6 ∧ xl3 + 6 ≤ 2147483647) (k1 : (xs1 = xs0) → rn_WP 215 18 [vl0, vl1, vl2, rn_I (xl3 + 6)] [] M Q) (k2 : (¬ (xs1 = xs0)) → Q (some (rn_I 0)) M) : rn_WP 215 187 [vl0, vl1, vl2, rn_I xl3] [rn_I xs0, rn_I xs1] M Q := by
  refine (rn_step (e := (.if_icmp .eq 790, 190, 977, 0, 0, 0, 0, [])) rfl).mpr (And.intro (fun c1 => ?_) (fun c1 => ?_))
  ·
    refine (rn_step (e := (.iinc 3 6, 980, 3, 0, 0, 0, 0, [])) rfl).mpr (rn_ci (hr1 c1).1 (hr1 c1).2 ?_)
    refine (rn_step (e := (.goto (-962), 983, 18, 0, 0, 0, 0, [])) rfl).mpr ?_
    exact (k1 c1)
  ·
    refine (rn_step (e := (.iconst 0, 191, 0, 0, 0, 0, 0, [])) rfl).mpr ?_
    exact (rn_step (e := (.ireturn, 192, 0, 0, 0, 1, 0, [])) rfl).mpr (And.intro ((Or.inl rfl)) ((k2 c1)))
set_option maxRecDepth 4000 in
theorem rb_Lw_law_196 {M : rn_M} {Q : rn_Q} {vl0 : rn_V} {vl1 : rn_V} {vl3 : rn_V} {vs0 : rn_V} (hM : rn_sh M)   (k1 : rn_ME 201 [rn_R 466] M (fun r M1 => rn_WP 215 200 [vl0, vl1, rn_R 466, vl3] (r.toList ++ [vs0]) M1 Q)) : rn_WP 215 196 [vl0, vl1, rn_R 466, vl3] [vs0] M Q := by
  refine (rn_step (e := (.aload_n 2, 197, 2, 0, 0, 0, 0, [])) rfl).mpr ?_
  exact (rn_step (e := (.invokevirtual 26, 200, 201, 1, 1206, 0, 11, [0])) rfl).mpr (And.intro ((rn_ks466 (M := M) hM)) (k1))
set_option maxRecDepth 4000 in
theorem rb_Lw_law_200 {M : rn_M} {Q : rn_Q} {vl0 : rn_V} {vl1 : rn_V} {vl2 : rn_V} {xl3 : Int} {xs0 : Int} {xs1 : Int}   (hr1 : (xs1 = xs0) → (-2147483648 : Int) ≤ xl3 + 6 ∧ xl3 + 6 ≤ 2147483647) (k1 : (xs1 = xs0) → rn_WP 215 18 [vl0, vl1, vl2, rn_I (xl3 + 6)] [] M Q) (k2 : (¬ (xs1 = xs0)) → Q (some (rn_I 0)) M) : rn_WP 215 200 [vl0, vl1, vl2, rn_I xl3] [rn_I xs0, rn_I xs1] M Q := by
  refine (rn_step (e := (.if_icmp .eq 777, 203, 977, 0, 0, 0, 0, [])) rfl).mpr (And.intro (fun c1 => ?_) (fun c1 => ?_))
  ·
    refine (rn_step (e := (.iinc 3 6, 980, 3, 0, 0, 0, 0, [])) rfl).mpr (rn_ci (hr1 c1).1 (hr1 c1).2 ?_)
    refine (rn_step (e := (.goto (-962), 983, 18, 0, 0, 0, 0, [])) rfl).mpr ?_
    exact (k1 c1)
  ·
    refine (rn_step (e := (.iconst 0, 204, 0, 0, 0, 0, 0, [])) rfl).mpr ?_
    exact (rn_step (e := (.ireturn, 205, 0, 0, 0, 1, 0, [])) rfl).mpr (And.intro ((Or.inl rfl)) ((k2 c1)))
set_option maxRecDepth 4000 in
theorem rb_Lw_law_234 {M : rn_M} {Q : rn_Q} {al0 : Nat} {vl1 : rn_V} {xl3 : Int} {vs0 : rn_V} {n1 : Nat} (hM : rn_sh M)  (h1 : rn_fa M al0 n1) (hr1 : (-2147483648 : Int) ≤ xl3 + 1 ∧ xl3 + 1 ≤ 2147483647 ∧ (0 : Int) ≤ xl3 + 1 ∧ xl3 + 1 < (n1 : Int) ∧ (-2147483648 : Int) ≤ xl3 + 2 ∧ xl3 + 2 ≤ 2147483647 ∧ (0 : Int) ≤ xl3 + 2 ∧ xl3 + 2 < (n1 : Int) ∧ (-2147483648 : Int) ≤ xl3 + 3 ∧ xl3 + 3 ≤ 2147483647 ∧ (0 : Int) ≤ xl3 + 3 ∧ xl3 + 3 < (n1 : Int) ∧ (-2147483648 : Int) ≤ xl3 + 4 ∧ xl3 + 4 ≤ 2147483647 ∧ (0 : Int) ≤ xl3 + 4 ∧ xl3 + 4 < (n1 : Int) ∧ (-2147483648 : Int) ≤ xl3 + 5 ∧ xl3 + 5 ≤ 2147483647 ∧ (0 : Int) ≤ xl3 + 5 ∧ xl3 + 5 < (n1 : Int)) (k1 : rn_ME 137 [rn_R 466, rn_I (rn_gi M al0 (xl3 + 1).toNat), rn_I (rn_gi M al0 (xl3 + 2).toNat), rn_I (rn_gi M al0 (xl3 + 3).toNat), rn_I (rn_gi M al0 (xl3 + 4).toNat), rn_I (rn_gi M al0 (xl3 + 5).toNat)] M (fun r M1 => rn_WP 215 263 [rn_R al0, vl1, rn_R 466, rn_I xl3] (r.toList ++ [vs0]) M1 Q)) : rn_WP 215 234 [rn_R al0, vl1, rn_R 466, rn_I xl3] [vs0] M Q := by
  refine (rn_step (e := (.aload_n 2, 235, 2, 0, 0, 0, 0, [])) rfl).mpr ?_
  refine (rn_step (e := (.aload_n 0, 236, 0, 0, 0, 0, 0, [])) rfl).mpr ?_
  refine (rn_step (e := (.iload_n 3, 237, 3, 0, 0, 0, 0, [])) rfl).mpr ?_
  refine (rn_step (e := (.iconst 1, 238, 0, 0, 0, 0, 0, [])) rfl).mpr ?_
  refine (rn_step (e := (.iadd, 239, 0, 0, 0, 0, 0, [])) rfl).mpr (rn_cw hr1.1 hr1.2.1 ?_)
  refine (rn_step (e := (.iaload, 240, 0, 0, 0, 0, 0, [])) rfl).mpr (And.intro (Or.inr h1.1) (And.intro ((And.intro (hr1.2.2.1) (rn_lt h1.2 hr1.2.2.2.1))) (?_)))
  refine (rn_step (e := (.aload_n 0, 241, 0, 0, 0, 0, 0, [])) rfl).mpr ?_
  refine (rn_step (e := (.iload_n 3, 242, 3, 0, 0, 0, 0, [])) rfl).mpr ?_
  refine (rn_step (e := (.iconst 2, 243, 0, 0, 0, 0, 0, [])) rfl).mpr ?_
  refine (rn_step (e := (.iadd, 244, 0, 0, 0, 0, 0, [])) rfl).mpr (rn_cw hr1.2.2.2.2.1 hr1.2.2.2.2.2.1 ?_)
  refine (rn_step (e := (.iaload, 245, 0, 0, 0, 0, 0, [])) rfl).mpr (And.intro (Or.inr h1.1) (And.intro ((And.intro (hr1.2.2.2.2.2.2.1) (rn_lt h1.2 hr1.2.2.2.2.2.2.2.1))) (?_)))
  refine (rn_step (e := (.aload_n 0, 246, 0, 0, 0, 0, 0, [])) rfl).mpr ?_
  refine (rn_step (e := (.iload_n 3, 247, 3, 0, 0, 0, 0, [])) rfl).mpr ?_
  refine (rn_step (e := (.iconst 3, 248, 0, 0, 0, 0, 0, [])) rfl).mpr ?_
  refine (rn_step (e := (.iadd, 249, 0, 0, 0, 0, 0, [])) rfl).mpr (rn_cw hr1.2.2.2.2.2.2.2.2.1 hr1.2.2.2.2.2.2.2.2.2.1 ?_)
  refine (rn_step (e := (.iaload, 250, 0, 0, 0, 0, 0, [])) rfl).mpr (And.intro (Or.inr h1.1) (And.intro ((And.intro (hr1.2.2.2.2.2.2.2.2.2.2.1) (rn_lt h1.2 hr1.2.2.2.2.2.2.2.2.2.2.2.1))) (?_)))
  refine (rn_step (e := (.aload_n 0, 251, 0, 0, 0, 0, 0, [])) rfl).mpr ?_
  refine (rn_step (e := (.iload_n 3, 252, 3, 0, 0, 0, 0, [])) rfl).mpr ?_
  refine (rn_step (e := (.iconst 4, 253, 0, 0, 0, 0, 0, [])) rfl).mpr ?_
  refine (rn_step (e := (.iadd, 254, 0, 0, 0, 0, 0, [])) rfl).mpr (rn_cw hr1.2.2.2.2.2.2.2.2.2.2.2.2.1 hr1.2.2.2.2.2.2.2.2.2.2.2.2.2.1 ?_)
  refine (rn_step (e := (.iaload, 255, 0, 0, 0, 0, 0, [])) rfl).mpr (And.intro (Or.inr h1.1) (And.intro ((And.intro (hr1.2.2.2.2.2.2.2.2.2.2.2.2.2.2.1) (rn_lt h1.2 hr1.2.2.2.2.2.2.2.2.2.2.2.2.2.2.2.1))) (?_)))
  refine (rn_step (e := (.aload_n 0, 256, 0, 0, 0, 0, 0, [])) rfl).mpr ?_
  refine (rn_step (e := (.iload_n 3, 257, 3, 0, 0, 0, 0, [])) rfl).mpr ?_
  refine (rn_step (e := (.iconst 5, 258, 0, 0, 0, 0, 0, [])) rfl).mpr ?_
  refine (rn_step (e := (.iadd, 259, 0, 0, 0, 0, 0, [])) rfl).mpr (rn_cw hr1.2.2.2.2.2.2.2.2.2.2.2.2.2.2.2.2.1 hr1.2.2.2.2.2.2.2.2.2.2.2.2.2.2.2.2.2.1 ?_)
  refine (rn_step (e := (.iaload, 260, 0, 0, 0, 0, 0, [])) rfl).mpr (And.intro (Or.inr h1.1) (And.intro ((And.intro (hr1.2.2.2.2.2.2.2.2.2.2.2.2.2.2.2.2.2.2.1) (rn_lt h1.2 hr1.2.2.2.2.2.2.2.2.2.2.2.2.2.2.2.2.2.2.2))) (?_)))
  exact (rn_step (e := (.invokevirtual 31, 263, 137, 6, 952, 0, 11, [0])) rfl).mpr (And.intro ((rn_ks466 (M := M) hM)) (k1))
set_option maxRecDepth 4000 in
theorem rb_Lw_law_263 {M : rn_M} {Q : rn_Q} {vl0 : rn_V} {vl1 : rn_V} {vl2 : rn_V} {xl3 : Int} {xs0 : Int} {xs1 : Int}   (hr1 : (xs1 = xs0) → (-2147483648 : Int) ≤ xl3 + 6 ∧ xl3 + 6 ≤ 2147483647) (k1 : (xs1 = xs0) → rn_WP 215 18 [vl0, vl1, vl2, rn_I (xl3 + 6)] [] M Q) (k2 : (¬ (xs1 = xs0)) → Q (some (rn_I 0)) M) : rn_WP 215 263 [vl0, vl1, vl2, rn_I xl3] [rn_I xs0, rn_I xs1] M Q := by
  refine (rn_step (e := (.if_icmp .eq 714, 266, 977, 0, 0, 0, 0, [])) rfl).mpr (And.intro (fun c1 => ?_) (fun c1 => ?_))
  ·
    refine (rn_step (e := (.iinc 3 6, 980, 3, 0, 0, 0, 0, [])) rfl).mpr (rn_ci (hr1 c1).1 (hr1 c1).2 ?_)
    refine (rn_step (e := (.goto (-962), 983, 18, 0, 0, 0, 0, [])) rfl).mpr ?_
    exact (k1 c1)
  ·
    refine (rn_step (e := (.iconst 0, 267, 0, 0, 0, 0, 0, [])) rfl).mpr ?_
    exact (rn_step (e := (.ireturn, 268, 0, 0, 0, 1, 0, [])) rfl).mpr (And.intro ((Or.inl rfl)) ((k2 c1)))
set_option maxRecDepth 4000 in
theorem rb_Lw_law_297 {M : rn_M} {Q : rn_Q} {al0 : Nat} {vl1 : rn_V} {xl3 : Int} {vs0 : rn_V} {n1 : Nat} (hM : rn_sh M)  (h1 : rn_fa M al0 n1) (hr1 : (-2147483648 : Int) ≤ xl3 + 1 ∧ xl3 + 1 ≤ 2147483647 ∧ (0 : Int) ≤ xl3 + 1 ∧ xl3 + 1 < (n1 : Int) ∧ (-2147483648 : Int) ≤ xl3 + 2 ∧ xl3 + 2 ≤ 2147483647 ∧ (0 : Int) ≤ xl3 + 2 ∧ xl3 + 2 < (n1 : Int) ∧ (-2147483648 : Int) ≤ xl3 + 3 ∧ xl3 + 3 ≤ 2147483647 ∧ (0 : Int) ≤ xl3 + 3 ∧ xl3 + 3 < (n1 : Int) ∧ (-2147483648 : Int) ≤ xl3 + 4 ∧ xl3 + 4 ≤ 2147483647 ∧ (0 : Int) ≤ xl3 + 4 ∧ xl3 + 4 < (n1 : Int) ∧ (-2147483648 : Int) ≤ xl3 + 5 ∧ xl3 + 5 ≤ 2147483647 ∧ (0 : Int) ≤ xl3 + 5 ∧ xl3 + 5 < (n1 : Int)) (k1 : rn_ME 140 [rn_R 466, rn_I (rn_gi M al0 (xl3 + 1).toNat), rn_I (rn_gi M al0 (xl3 + 2).toNat), rn_I (rn_gi M al0 (xl3 + 3).toNat), rn_I (rn_gi M al0 (xl3 + 4).toNat), rn_I (rn_gi M al0 (xl3 + 5).toNat)] M (fun r M1 => rn_WP 215 326 [rn_R al0, vl1, rn_R 466, rn_I xl3] (r.toList ++ [vs0]) M1 Q)) : rn_WP 215 297 [rn_R al0, vl1, rn_R 466, rn_I xl3] [vs0] M Q := by
  refine (rn_step (e := (.aload_n 2, 298, 2, 0, 0, 0, 0, [])) rfl).mpr ?_
  refine (rn_step (e := (.aload_n 0, 299, 0, 0, 0, 0, 0, [])) rfl).mpr ?_
  refine (rn_step (e := (.iload_n 3, 300, 3, 0, 0, 0, 0, [])) rfl).mpr ?_
  refine (rn_step (e := (.iconst 1, 301, 0, 0, 0, 0, 0, [])) rfl).mpr ?_
  refine (rn_step (e := (.iadd, 302, 0, 0, 0, 0, 0, [])) rfl).mpr (rn_cw hr1.1 hr1.2.1 ?_)
  refine (rn_step (e := (.iaload, 303, 0, 0, 0, 0, 0, [])) rfl).mpr (And.intro (Or.inr h1.1) (And.intro ((And.intro (hr1.2.2.1) (rn_lt h1.2 hr1.2.2.2.1))) (?_)))
  refine (rn_step (e := (.aload_n 0, 304, 0, 0, 0, 0, 0, [])) rfl).mpr ?_
  refine (rn_step (e := (.iload_n 3, 305, 3, 0, 0, 0, 0, [])) rfl).mpr ?_
  refine (rn_step (e := (.iconst 2, 306, 0, 0, 0, 0, 0, [])) rfl).mpr ?_
  refine (rn_step (e := (.iadd, 307, 0, 0, 0, 0, 0, [])) rfl).mpr (rn_cw hr1.2.2.2.2.1 hr1.2.2.2.2.2.1 ?_)
  refine (rn_step (e := (.iaload, 308, 0, 0, 0, 0, 0, [])) rfl).mpr (And.intro (Or.inr h1.1) (And.intro ((And.intro (hr1.2.2.2.2.2.2.1) (rn_lt h1.2 hr1.2.2.2.2.2.2.2.1))) (?_)))
  refine (rn_step (e := (.aload_n 0, 309, 0, 0, 0, 0, 0, [])) rfl).mpr ?_
  refine (rn_step (e := (.iload_n 3, 310, 3, 0, 0, 0, 0, [])) rfl).mpr ?_
  refine (rn_step (e := (.iconst 3, 311, 0, 0, 0, 0, 0, [])) rfl).mpr ?_
  refine (rn_step (e := (.iadd, 312, 0, 0, 0, 0, 0, [])) rfl).mpr (rn_cw hr1.2.2.2.2.2.2.2.2.1 hr1.2.2.2.2.2.2.2.2.2.1 ?_)
  refine (rn_step (e := (.iaload, 313, 0, 0, 0, 0, 0, [])) rfl).mpr (And.intro (Or.inr h1.1) (And.intro ((And.intro (hr1.2.2.2.2.2.2.2.2.2.2.1) (rn_lt h1.2 hr1.2.2.2.2.2.2.2.2.2.2.2.1))) (?_)))
  refine (rn_step (e := (.aload_n 0, 314, 0, 0, 0, 0, 0, [])) rfl).mpr ?_
  refine (rn_step (e := (.iload_n 3, 315, 3, 0, 0, 0, 0, [])) rfl).mpr ?_
  refine (rn_step (e := (.iconst 4, 316, 0, 0, 0, 0, 0, [])) rfl).mpr ?_
  refine (rn_step (e := (.iadd, 317, 0, 0, 0, 0, 0, [])) rfl).mpr (rn_cw hr1.2.2.2.2.2.2.2.2.2.2.2.2.1 hr1.2.2.2.2.2.2.2.2.2.2.2.2.2.1 ?_)
  refine (rn_step (e := (.iaload, 318, 0, 0, 0, 0, 0, [])) rfl).mpr (And.intro (Or.inr h1.1) (And.intro ((And.intro (hr1.2.2.2.2.2.2.2.2.2.2.2.2.2.2.1) (rn_lt h1.2 hr1.2.2.2.2.2.2.2.2.2.2.2.2.2.2.2.1))) (?_)))
  refine (rn_step (e := (.aload_n 0, 319, 0, 0, 0, 0, 0, [])) rfl).mpr ?_
  refine (rn_step (e := (.iload_n 3, 320, 3, 0, 0, 0, 0, [])) rfl).mpr ?_
  refine (rn_step (e := (.iconst 5, 321, 0, 0, 0, 0, 0, [])) rfl).mpr ?_
  refine (rn_step (e := (.iadd, 322, 0, 0, 0, 0, 0, [])) rfl).mpr (rn_cw hr1.2.2.2.2.2.2.2.2.2.2.2.2.2.2.2.2.1 hr1.2.2.2.2.2.2.2.2.2.2.2.2.2.2.2.2.2.1 ?_)
  refine (rn_step (e := (.iaload, 323, 0, 0, 0, 0, 0, [])) rfl).mpr (And.intro (Or.inr h1.1) (And.intro ((And.intro (hr1.2.2.2.2.2.2.2.2.2.2.2.2.2.2.2.2.2.2.1) (rn_lt h1.2 hr1.2.2.2.2.2.2.2.2.2.2.2.2.2.2.2.2.2.2.2))) (?_)))
  exact (rn_step (e := (.invokevirtual 35, 326, 140, 6, 979, 0, 11, [0])) rfl).mpr (And.intro ((rn_ks466 (M := M) hM)) (k1))
set_option maxRecDepth 4000 in
theorem rb_Lw_law_326 {M : rn_M} {Q : rn_Q} {vl0 : rn_V} {vl1 : rn_V} {vl2 : rn_V} {xl3 : Int} {xs0 : Int} {xs1 : Int}   (hr1 : (xs1 = xs0) → (-2147483648 : Int) ≤ xl3 + 6 ∧ xl3 + 6 ≤ 2147483647) (k1 : (xs1 = xs0) → rn_WP 215 18 [vl0, vl1, vl2, rn_I (xl3 + 6)] [] M Q) (k2 : (¬ (xs1 = xs0)) → Q (some (rn_I 0)) M) : rn_WP 215 326 [vl0, vl1, vl2, rn_I xl3] [rn_I xs0, rn_I xs1] M Q := by
  refine (rn_step (e := (.if_icmp .eq 651, 329, 977, 0, 0, 0, 0, [])) rfl).mpr (And.intro (fun c1 => ?_) (fun c1 => ?_))
  ·
    refine (rn_step (e := (.iinc 3 6, 980, 3, 0, 0, 0, 0, [])) rfl).mpr (rn_ci (hr1 c1).1 (hr1 c1).2 ?_)
    refine (rn_step (e := (.goto (-962), 983, 18, 0, 0, 0, 0, [])) rfl).mpr ?_
    exact (k1 c1)
  ·
    refine (rn_step (e := (.iconst 0, 330, 0, 0, 0, 0, 0, [])) rfl).mpr ?_
    exact (rn_step (e := (.ireturn, 331, 0, 0, 0, 1, 0, [])) rfl).mpr (And.intro ((Or.inl rfl)) ((k2 c1)))
set_option maxRecDepth 4000 in
theorem rb_Lw_law_345 {M : rn_M} {Q : rn_Q} {al0 : Nat} {vl1 : rn_V} {xl3 : Int} {vs0 : rn_V} {n1 : Nat} (hM : rn_sh M)  (h1 : rn_fa M al0 n1) (hr1 : (-2147483648 : Int) ≤ xl3 + 1 ∧ xl3 + 1 ≤ 2147483647 ∧ (0 : Int) ≤ xl3 + 1 ∧ xl3 + 1 < (n1 : Int) ∧ (-2147483648 : Int) ≤ xl3 + 2 ∧ xl3 + 2 ≤ 2147483647 ∧ (0 : Int) ≤ xl3 + 2 ∧ xl3 + 2 < (n1 : Int)) (k1 : rn_ME 142 [rn_R 466, rn_I (rn_gi M al0 (xl3 + 1).toNat), rn_I (rn_gi M al0 (xl3 + 2).toNat)] M (fun r M1 => rn_WP 215 359 [rn_R al0, vl1, rn_R 466, rn_I xl3] (r.toList ++ [vs0]) M1 Q)) : rn_WP 215 345 [rn_R al0, vl1, rn_R 466, rn_I xl3] [vs0] M Q := by
  refine (rn_step (e := (.aload_n 2, 346, 2, 0, 0, 0, 0, [])) rfl).mpr ?_
  refine (rn_step (e := (.aload_n 0, 347, 0, 0, 0, 0, 0, [])) rfl).mpr ?_
  refine (rn_step (e := (.iload_n 3, 348, 3, 0, 0, 0, 0, [])) rfl).mpr ?_
  refine (rn_step (e := (.iconst 1, 349, 0, 0, 0, 0, 0, [])) rfl).mpr ?_
  refine (rn_step (e := (.iadd, 350, 0, 0, 0, 0, 0, [])) rfl).mpr (rn_cw hr1.1 hr1.2.1 ?_)
  refine (rn_step (e := (.iaload, 351, 0, 0, 0, 0, 0, [])) rfl).mpr (And.intro (Or.inr h1.1) (And.intro ((And.intro (hr1.2.2.1) (rn_lt h1.2 hr1.2.2.2.1))) (?_)))
  refine (rn_step (e := (.aload_n 0, 352, 0, 0, 0, 0, 0, [])) rfl).mpr ?_
  refine (rn_step (e := (.iload_n 3, 353, 3, 0, 0, 0, 0, [])) rfl).mpr ?_
  refine (rn_step (e := (.iconst 2, 354, 0, 0, 0, 0, 0, [])) rfl).mpr ?_
  refine (rn_step (e := (.iadd, 355, 0, 0, 0, 0, 0, [])) rfl).mpr (rn_cw hr1.2.2.2.2.1 hr1.2.2.2.2.2.1 ?_)
  refine (rn_step (e := (.iaload, 356, 0, 0, 0, 0, 0, [])) rfl).mpr (And.intro (Or.inr h1.1) (And.intro ((And.intro (hr1.2.2.2.2.2.2.1) (rn_lt h1.2 hr1.2.2.2.2.2.2.2))) (?_)))
  exact (rn_step (e := (.invokevirtual 40, 359, 142, 3, 990, 0, 11, [0])) rfl).mpr (And.intro ((rn_ks466 (M := M) hM)) (k1))
set_option maxRecDepth 4000 in
theorem rb_Lw_law_359 {M : rn_M} {Q : rn_Q} {vl0 : rn_V} {vl1 : rn_V} {vl2 : rn_V} {xl3 : Int} {xs0 : Int} {xs1 : Int}   (hr1 : (xs1 = xs0) → (-2147483648 : Int) ≤ xl3 + 6 ∧ xl3 + 6 ≤ 2147483647) (k1 : (xs1 = xs0) → rn_WP 215 18 [vl0, vl1, vl2, rn_I (xl3 + 6)] [] M Q) (k2 : (¬ (xs1 = xs0)) → Q (some (rn_I 0)) M) : rn_WP 215 359 [vl0, vl1, vl2, rn_I xl3] [rn_I xs0, rn_I xs1] M Q := by
  refine (rn_step (e := (.if_icmp .eq 618, 362, 977, 0, 0, 0, 0, [])) rfl).mpr (And.intro (fun c1 => ?_) (fun c1 => ?_))
  ·
    refine (rn_step (e := (.iinc 3 6, 980, 3, 0, 0, 0, 0, [])) rfl).mpr (rn_ci (hr1 c1).1 (hr1 c1).2 ?_)
    refine (rn_step (e := (.goto (-962), 983, 18, 0, 0, 0, 0, [])) rfl).mpr ?_
    exact (k1 c1)
  ·
    refine (rn_step (e := (.iconst 0, 363, 0, 0, 0, 0, 0, [])) rfl).mpr ?_
    exact (rn_step (e := (.ireturn, 364, 0, 0, 0, 1, 0, [])) rfl).mpr (And.intro ((Or.inl rfl)) ((k2 c1)))
set_option maxRecDepth 4000 in
theorem rb_Lw_law_378 {M : rn_M} {Q : rn_Q} {al0 : Nat} {vl1 : rn_V} {xl3 : Int} {vs0 : rn_V} {n1 : Nat} (hM : rn_sh M)  (h1 : rn_fa M al0 n1) (hr1 : (-2147483648 : Int) ≤ xl3 + 1 ∧ xl3 + 1 ≤ 2147483647 ∧ (0 : Int) ≤ xl3 + 1 ∧ xl3 + 1 < (n1 : Int) ∧ (-2147483648 : Int) ≤ xl3 + 2 ∧ xl3 + 2 ≤ 2147483647 ∧ (0 : Int) ≤ xl3 + 2 ∧ xl3 + 2 < (n1 : Int)) (k1 : rn_ME 144 [rn_R 466, rn_I (rn_gi M al0 (xl3 + 1).toNat), rn_I (rn_gi M al0 (xl3 + 2).toNat)] M (fun r M1 => rn_WP 215 392 [rn_R al0, vl1, rn_R 466, rn_I xl3] (r.toList ++ [vs0]) M1 Q)) : rn_WP 215 378 [rn_R al0, vl1, rn_R 466, rn_I xl3] [vs0] M Q := by
  refine (rn_step (e := (.aload_n 2, 379, 2, 0, 0, 0, 0, [])) rfl).mpr ?_
  refine (rn_step (e := (.aload_n 0, 380, 0, 0, 0, 0, 0, [])) rfl).mpr ?_
  refine (rn_step (e := (.iload_n 3, 381, 3, 0, 0, 0, 0, [])) rfl).mpr ?_
  refine (rn_step (e := (.iconst 1, 382, 0, 0, 0, 0, 0, [])) rfl).mpr ?_
  refine (rn_step (e := (.iadd, 383, 0, 0, 0, 0, 0, [])) rfl).mpr (rn_cw hr1.1 hr1.2.1 ?_)
  refine (rn_step (e := (.iaload, 384, 0, 0, 0, 0, 0, [])) rfl).mpr (And.intro (Or.inr h1.1) (And.intro ((And.intro (hr1.2.2.1) (rn_lt h1.2 hr1.2.2.2.1))) (?_)))
  refine (rn_step (e := (.aload_n 0, 385, 0, 0, 0, 0, 0, [])) rfl).mpr ?_
  refine (rn_step (e := (.iload_n 3, 386, 3, 0, 0, 0, 0, [])) rfl).mpr ?_
  refine (rn_step (e := (.iconst 2, 387, 0, 0, 0, 0, 0, [])) rfl).mpr ?_
  refine (rn_step (e := (.iadd, 388, 0, 0, 0, 0, 0, [])) rfl).mpr (rn_cw hr1.2.2.2.2.1 hr1.2.2.2.2.2.1 ?_)
  refine (rn_step (e := (.iaload, 389, 0, 0, 0, 0, 0, [])) rfl).mpr (And.intro (Or.inr h1.1) (And.intro ((And.intro (hr1.2.2.2.2.2.2.1) (rn_lt h1.2 hr1.2.2.2.2.2.2.2))) (?_)))
  exact (rn_step (e := (.invokevirtual 44, 392, 144, 3, 1016, 0, 11, [0])) rfl).mpr (And.intro ((rn_ks466 (M := M) hM)) (k1))
set_option maxRecDepth 4000 in
theorem rb_Lw_law_392 {M : rn_M} {Q : rn_Q} {vl0 : rn_V} {vl1 : rn_V} {vl2 : rn_V} {xl3 : Int} {xs0 : Int} {xs1 : Int}   (hr1 : (xs1 = xs0) → (-2147483648 : Int) ≤ xl3 + 6 ∧ xl3 + 6 ≤ 2147483647) (k1 : (xs1 = xs0) → rn_WP 215 18 [vl0, vl1, vl2, rn_I (xl3 + 6)] [] M Q) (k2 : (¬ (xs1 = xs0)) → Q (some (rn_I 0)) M) : rn_WP 215 392 [vl0, vl1, vl2, rn_I xl3] [rn_I xs0, rn_I xs1] M Q := by
  refine (rn_step (e := (.if_icmp .eq 585, 395, 977, 0, 0, 0, 0, [])) rfl).mpr (And.intro (fun c1 => ?_) (fun c1 => ?_))
  ·
    refine (rn_step (e := (.iinc 3 6, 980, 3, 0, 0, 0, 0, [])) rfl).mpr (rn_ci (hr1 c1).1 (hr1 c1).2 ?_)
    refine (rn_step (e := (.goto (-962), 983, 18, 0, 0, 0, 0, [])) rfl).mpr ?_
    exact (k1 c1)
  ·
    refine (rn_step (e := (.iconst 0, 396, 0, 0, 0, 0, 0, [])) rfl).mpr ?_
    exact (rn_step (e := (.ireturn, 397, 0, 0, 0, 1, 0, [])) rfl).mpr (And.intro ((Or.inl rfl)) ((k2 c1)))
set_option maxRecDepth 4000 in
theorem rb_Lw_law_411 {M : rn_M} {Q : rn_Q} {al0 : Nat} {vl1 : rn_V} {xl3 : Int} {vs0 : rn_V} {n1 : Nat} (hM : rn_sh M)  (h1 : rn_fa M al0 n1) (hr1 : (-2147483648 : Int) ≤ xl3 + 1 ∧ xl3 + 1 ≤ 2147483647 ∧ (0 : Int) ≤ xl3 + 1 ∧ xl3 + 1 < (n1 : Int) ∧ (-2147483648 : Int) ≤ xl3 + 2 ∧ xl3 + 2 ≤ 2147483647 ∧ (0 : Int) ≤ xl3 + 2 ∧ xl3 + 2 < (n1 : Int)) (k1 : rn_ME 145 [rn_R 466, rn_I (rn_gi M al0 (xl3 + 1).toNat), rn_I (rn_gi M al0 (xl3 + 2).toNat)] M (fun r M1 => rn_WP 215 425 [rn_R al0, vl1, rn_R 466, rn_I xl3] (r.toList ++ [vs0]) M1 Q)) : rn_WP 215 411 [rn_R al0, vl1, rn_R 466, rn_I xl3] [vs0] M Q := by
  refine (rn_step (e := (.aload_n 2, 412, 2, 0, 0, 0, 0, [])) rfl).mpr ?_
  refine (rn_step (e := (.aload_n 0, 413, 0, 0, 0, 0, 0, [])) rfl).mpr ?_
  refine (rn_step (e := (.iload_n 3, 414, 3, 0, 0, 0, 0, [])) rfl).mpr ?_
  refine (rn_step (e := (.iconst 1, 415, 0, 0, 0, 0, 0, [])) rfl).mpr ?_
  refine (rn_step (e := (.iadd, 416, 0, 0, 0, 0, 0, [])) rfl).mpr (rn_cw hr1.1 hr1.2.1 ?_)
  refine (rn_step (e := (.iaload, 417, 0, 0, 0, 0, 0, [])) rfl).mpr (And.intro (Or.inr h1.1) (And.intro ((And.intro (hr1.2.2.1) (rn_lt h1.2 hr1.2.2.2.1))) (?_)))
  refine (rn_step (e := (.aload_n 0, 418, 0, 0, 0, 0, 0, [])) rfl).mpr ?_
  refine (rn_step (e := (.iload_n 3, 419, 3, 0, 0, 0, 0, [])) rfl).mpr ?_
  refine (rn_step (e := (.iconst 2, 420, 0, 0, 0, 0, 0, [])) rfl).mpr ?_
  refine (rn_step (e := (.iadd, 421, 0, 0, 0, 0, 0, [])) rfl).mpr (rn_cw hr1.2.2.2.2.1 hr1.2.2.2.2.2.1 ?_)
  refine (rn_step (e := (.iaload, 422, 0, 0, 0, 0, 0, [])) rfl).mpr (And.intro (Or.inr h1.1) (And.intro ((And.intro (hr1.2.2.2.2.2.2.1) (rn_lt h1.2 hr1.2.2.2.2.2.2.2))) (?_)))
  exact (rn_step (e := (.invokevirtual 48, 425, 145, 3, 1024, 0, 11, [0])) rfl).mpr (And.intro ((rn_ks466 (M := M) hM)) (k1))
set_option maxRecDepth 4000 in
theorem rb_Lw_law_425 {M : rn_M} {Q : rn_Q} {vl0 : rn_V} {vl1 : rn_V} {vl2 : rn_V} {xl3 : Int} {xs0 : Int} {xs1 : Int}   (hr1 : (xs1 = xs0) → (-2147483648 : Int) ≤ xl3 + 6 ∧ xl3 + 6 ≤ 2147483647) (k1 : (xs1 = xs0) → rn_WP 215 18 [vl0, vl1, vl2, rn_I (xl3 + 6)] [] M Q) (k2 : (¬ (xs1 = xs0)) → Q (some (rn_I 0)) M) : rn_WP 215 425 [vl0, vl1, vl2, rn_I xl3] [rn_I xs0, rn_I xs1] M Q := by
  refine (rn_step (e := (.if_icmp .eq 552, 428, 977, 0, 0, 0, 0, [])) rfl).mpr (And.intro (fun c1 => ?_) (fun c1 => ?_))
  ·
    refine (rn_step (e := (.iinc 3 6, 980, 3, 0, 0, 0, 0, [])) rfl).mpr (rn_ci (hr1 c1).1 (hr1 c1).2 ?_)
    refine (rn_step (e := (.goto (-962), 983, 18, 0, 0, 0, 0, [])) rfl).mpr ?_
    exact (k1 c1)
  ·
    refine (rn_step (e := (.iconst 0, 429, 0, 0, 0, 0, 0, [])) rfl).mpr ?_
    exact (rn_step (e := (.ireturn, 430, 0, 0, 0, 1, 0, [])) rfl).mpr (And.intro ((Or.inl rfl)) ((k2 c1)))
set_option maxRecDepth 4000 in
theorem rb_Lw_law_444 {M : rn_M} {Q : rn_Q} {al0 : Nat} {vl1 : rn_V} {xl3 : Int} {vs0 : rn_V} {n1 : Nat} (hM : rn_sh M)  (h1 : rn_fa M al0 n1) (hr1 : (-2147483648 : Int) ≤ xl3 + 1 ∧ xl3 + 1 ≤ 2147483647 ∧ (0 : Int) ≤ xl3 + 1 ∧ xl3 + 1 < (n1 : Int) ∧ (-2147483648 : Int) ≤ xl3 + 2 ∧ xl3 + 2 ≤ 2147483647 ∧ (0 : Int) ≤ xl3 + 2 ∧ xl3 + 2 < (n1 : Int)) (k1 : rn_ME 147 [rn_R 466, rn_I (rn_gi M al0 (xl3 + 1).toNat), rn_I (rn_gi M al0 (xl3 + 2).toNat)] M (fun r M1 => rn_WP 215 458 [rn_R al0, vl1, rn_R 466, rn_I xl3] (r.toList ++ [vs0]) M1 Q)) : rn_WP 215 444 [rn_R al0, vl1, rn_R 466, rn_I xl3] [vs0] M Q := by
  refine (rn_step (e := (.aload_n 2, 445, 2, 0, 0, 0, 0, [])) rfl).mpr ?_
  refine (rn_step (e := (.aload_n 0, 446, 0, 0, 0, 0, 0, [])) rfl).mpr ?_
  refine (rn_step (e := (.iload_n 3, 447, 3, 0, 0, 0, 0, [])) rfl).mpr ?_
  refine (rn_step (e := (.iconst 1, 448, 0, 0, 0, 0, 0, [])) rfl).mpr ?_
  refine (rn_step (e := (.iadd, 449, 0, 0, 0, 0, 0, [])) rfl).mpr (rn_cw hr1.1 hr1.2.1 ?_)
  refine (rn_step (e := (.iaload, 450, 0, 0, 0, 0, 0, [])) rfl).mpr (And.intro (Or.inr h1.1) (And.intro ((And.intro (hr1.2.2.1) (rn_lt h1.2 hr1.2.2.2.1))) (?_)))
  refine (rn_step (e := (.aload_n 0, 451, 0, 0, 0, 0, 0, [])) rfl).mpr ?_
  refine (rn_step (e := (.iload_n 3, 452, 3, 0, 0, 0, 0, [])) rfl).mpr ?_
  refine (rn_step (e := (.iconst 2, 453, 0, 0, 0, 0, 0, [])) rfl).mpr ?_
  refine (rn_step (e := (.iadd, 454, 0, 0, 0, 0, 0, [])) rfl).mpr (rn_cw hr1.2.2.2.2.1 hr1.2.2.2.2.2.1 ?_)
  refine (rn_step (e := (.iaload, 455, 0, 0, 0, 0, 0, [])) rfl).mpr (And.intro (Or.inr h1.1) (And.intro ((And.intro (hr1.2.2.2.2.2.2.1) (rn_lt h1.2 hr1.2.2.2.2.2.2.2))) (?_)))
  exact (rn_step (e := (.invokevirtual 52, 458, 147, 3, 1028, 0, 11, [0])) rfl).mpr (And.intro ((rn_ks466 (M := M) hM)) (k1))
set_option maxRecDepth 4000 in
theorem rb_Lw_law_458 {M : rn_M} {Q : rn_Q} {vl0 : rn_V} {vl1 : rn_V} {vl2 : rn_V} {xl3 : Int} {xs0 : Int} {xs1 : Int}   (hr1 : (xs1 = xs0) → (-2147483648 : Int) ≤ xl3 + 6 ∧ xl3 + 6 ≤ 2147483647) (k1 : (xs1 = xs0) → rn_WP 215 18 [vl0, vl1, vl2, rn_I (xl3 + 6)] [] M Q) (k2 : (¬ (xs1 = xs0)) → Q (some (rn_I 0)) M) : rn_WP 215 458 [vl0, vl1, vl2, rn_I xl3] [rn_I xs0, rn_I xs1] M Q := by
  refine (rn_step (e := (.if_icmp .eq 519, 461, 977, 0, 0, 0, 0, [])) rfl).mpr (And.intro (fun c1 => ?_) (fun c1 => ?_))
  ·
    refine (rn_step (e := (.iinc 3 6, 980, 3, 0, 0, 0, 0, [])) rfl).mpr (rn_ci (hr1 c1).1 (hr1 c1).2 ?_)
    refine (rn_step (e := (.goto (-962), 983, 18, 0, 0, 0, 0, [])) rfl).mpr ?_
    exact (k1 c1)
  ·
    refine (rn_step (e := (.iconst 0, 462, 0, 0, 0, 0, 0, [])) rfl).mpr ?_
    exact (rn_step (e := (.ireturn, 463, 0, 0, 0, 1, 0, [])) rfl).mpr (And.intro ((Or.inl rfl)) ((k2 c1)))
set_option maxRecDepth 4000 in
theorem rb_Lw_law_472 {M : rn_M} {Q : rn_Q} {al0 : Nat} {vl1 : rn_V} {xl3 : Int} {vs0 : rn_V} {n1 : Nat} (hM : rn_sh M)  (h1 : rn_fa M al0 n1) (hr1 : (-2147483648 : Int) ≤ xl3 + 1 ∧ xl3 + 1 ≤ 2147483647 ∧ (0 : Int) ≤ xl3 + 1 ∧ xl3 + 1 < (n1 : Int)) (k1 : rn_ME 148 [rn_R 466, rn_I (rn_gi M al0 (xl3 + 1).toNat)] M (fun r M1 => rn_WP 215 481 [rn_R al0, vl1, rn_R 466, rn_I xl3] (r.toList ++ [vs0]) M1 Q)) : rn_WP 215 472 [rn_R al0, vl1, rn_R 466, rn_I xl3] [vs0] M Q := by
  refine (rn_step (e := (.aload_n 2, 473, 2, 0, 0, 0, 0, [])) rfl).mpr ?_
  refine (rn_step (e := (.aload_n 0, 474, 0, 0, 0, 0, 0, [])) rfl).mpr ?_
  refine (rn_step (e := (.iload_n 3, 475, 3, 0, 0, 0, 0, [])) rfl).mpr ?_
  refine (rn_step (e := (.iconst 1, 476, 0, 0, 0, 0, 0, [])) rfl).mpr ?_
  refine (rn_step (e := (.iadd, 477, 0, 0, 0, 0, 0, [])) rfl).mpr (rn_cw hr1.1 hr1.2.1 ?_)
  refine (rn_step (e := (.iaload, 478, 0, 0, 0, 0, 0, [])) rfl).mpr (And.intro (Or.inr h1.1) (And.intro ((And.intro (hr1.2.2.1) (rn_lt h1.2 hr1.2.2.2))) (?_)))
  exact (rn_step (e := (.invokevirtual 56, 481, 148, 2, 1036, 0, 11, [0])) rfl).mpr (And.intro ((rn_ks466 (M := M) hM)) (k1))
set_option maxRecDepth 4000 in
theorem rb_Lw_law_481 {M : rn_M} {Q : rn_Q} {vl0 : rn_V} {vl1 : rn_V} {vl2 : rn_V} {xl3 : Int} {xs0 : Int} {xs1 : Int}   (hr1 : (xs1 = xs0) → (-2147483648 : Int) ≤ xl3 + 6 ∧ xl3 + 6 ≤ 2147483647) (k1 : (xs1 = xs0) → rn_WP 215 18 [vl0, vl1, vl2, rn_I (xl3 + 6)] [] M Q) (k2 : (¬ (xs1 = xs0)) → Q (some (rn_I 0)) M) : rn_WP 215 481 [vl0, vl1, vl2, rn_I xl3] [rn_I xs0, rn_I xs1] M Q := by
  refine (rn_step (e := (.if_icmp .eq 496, 484, 977, 0, 0, 0, 0, [])) rfl).mpr (And.intro (fun c1 => ?_) (fun c1 => ?_))
  ·
    refine (rn_step (e := (.iinc 3 6, 980, 3, 0, 0, 0, 0, [])) rfl).mpr (rn_ci (hr1 c1).1 (hr1 c1).2 ?_)
    refine (rn_step (e := (.goto (-962), 983, 18, 0, 0, 0, 0, [])) rfl).mpr ?_
    exact (k1 c1)
  ·
    refine (rn_step (e := (.iconst 0, 485, 0, 0, 0, 0, 0, [])) rfl).mpr ?_
    exact (rn_step (e := (.ireturn, 486, 0, 0, 0, 1, 0, [])) rfl).mpr (And.intro ((Or.inl rfl)) ((k2 c1)))
set_option maxRecDepth 4000 in
theorem rb_Lw_law_500 {M : rn_M} {Q : rn_Q} {al0 : Nat} {vl1 : rn_V} {xl3 : Int} {vs0 : rn_V} {n1 : Nat} (hM : rn_sh M)  (h1 : rn_fa M al0 n1) (hr1 : (-2147483648 : Int) ≤ xl3 + 1 ∧ xl3 + 1 ≤ 2147483647 ∧ (0 : Int) ≤ xl3 + 1 ∧ xl3 + 1 < (n1 : Int) ∧ (-2147483648 : Int) ≤ xl3 + 2 ∧ xl3 + 2 ≤ 2147483647 ∧ (0 : Int) ≤ xl3 + 2 ∧ xl3 + 2 < (n1 : Int)) (k1 : rn_ME 164 [rn_R 466, rn_I (rn_gi M al0 (xl3 + 1).toNat), rn_I (rn_gi M al0 (xl3 + 2).toNat)] M (fun r M1 => rn_WP 215 514 [rn_R al0, vl1, rn_R 466, rn_I xl3] (r.toList ++ [vs0]) M1 Q)) : rn_WP 215 500 [rn_R al0, vl1, rn_R 466, rn_I xl3] [vs0] M Q := by
  refine (rn_step (e := (.aload_n 2, 501, 2, 0, 0, 0, 0, [])) rfl).mpr ?_
  refine (rn_step (e := (.aload_n 0, 502, 0, 0, 0, 0, 0, [])) rfl).mpr ?_
  refine (rn_step (e := (.iload_n 3, 503, 3, 0, 0, 0, 0, [])) rfl).mpr ?_
  refine (rn_step (e := (.iconst 1, 504, 0, 0, 0, 0, 0, [])) rfl).mpr ?_
  refine (rn_step (e := (.iadd, 505, 0, 0, 0, 0, 0, [])) rfl).mpr (rn_cw hr1.1 hr1.2.1 ?_)
  refine (rn_step (e := (.iaload, 506, 0, 0, 0, 0, 0, [])) rfl).mpr (And.intro (Or.inr h1.1) (And.intro ((And.intro (hr1.2.2.1) (rn_lt h1.2 hr1.2.2.2.1))) (?_)))
  refine (rn_step (e := (.aload_n 0, 507, 0, 0, 0, 0, 0, [])) rfl).mpr ?_
  refine (rn_step (e := (.iload_n 3, 508, 3, 0, 0, 0, 0, [])) rfl).mpr ?_
  refine (rn_step (e := (.iconst 2, 509, 0, 0, 0, 0, 0, [])) rfl).mpr ?_
  refine (rn_step (e := (.iadd, 510, 0, 0, 0, 0, 0, [])) rfl).mpr (rn_cw hr1.2.2.2.2.1 hr1.2.2.2.2.2.1 ?_)
  refine (rn_step (e := (.iaload, 511, 0, 0, 0, 0, 0, [])) rfl).mpr (And.intro (Or.inr h1.1) (And.intro ((And.intro (hr1.2.2.2.2.2.2.1) (rn_lt h1.2 hr1.2.2.2.2.2.2.2))) (?_)))
  exact (rn_step (e := (.invokevirtual 60, 514, 164, 3, 1040, 0, 11, [0])) rfl).mpr (And.intro ((rn_ks466 (M := M) hM)) (k1))
set_option maxRecDepth 4000 in
theorem rb_Lw_law_514 {M : rn_M} {Q : rn_Q} {vl0 : rn_V} {vl1 : rn_V} {vl2 : rn_V} {xl3 : Int} {xs0 : Int} {xs1 : Int}   (hr1 : (xs1 = xs0) → (-2147483648 : Int) ≤ xl3 + 6 ∧ xl3 + 6 ≤ 2147483647) (k1 : (xs1 = xs0) → rn_WP 215 18 [vl0, vl1, vl2, rn_I (xl3 + 6)] [] M Q) (k2 : (¬ (xs1 = xs0)) → Q (some (rn_I 0)) M) : rn_WP 215 514 [vl0, vl1, vl2, rn_I xl3] [rn_I xs0, rn_I xs1] M Q := by
  refine (rn_step (e := (.if_icmp .eq 463, 517, 977, 0, 0, 0, 0, [])) rfl).mpr (And.intro (fun c1 => ?_) (fun c1 => ?_))
  ·
    refine (rn_step (e := (.iinc 3 6, 980, 3, 0, 0, 0, 0, [])) rfl).mpr (rn_ci (hr1 c1).1 (hr1 c1).2 ?_)
    refine (rn_step (e := (.goto (-962), 983, 18, 0, 0, 0, 0, [])) rfl).mpr ?_
    exact (k1 c1)
  ·
    refine (rn_step (e := (.iconst 0, 518, 0, 0, 0, 0, 0, [])) rfl).mpr ?_
    exact (rn_step (e := (.ireturn, 519, 0, 0, 0, 1, 0, [])) rfl).mpr (And.intro ((Or.inl rfl)) ((k2 c1)))
set_option maxRecDepth 4000 in
theorem rb_Lw_law_528 {M : rn_M} {Q : rn_Q} {al0 : Nat} {vl1 : rn_V} {xl3 : Int} {vs0 : rn_V} {n1 : Nat} (hM : rn_sh M)  (h1 : rn_fa M al0 n1) (hr1 : (-2147483648 : Int) ≤ xl3 + 1 ∧ xl3 + 1 ≤ 2147483647 ∧ (0 : Int) ≤ xl3 + 1 ∧ xl3 + 1 < (n1 : Int)) (k1 : rn_ME 166 [rn_R 466, rn_I (rn_gi M al0 (xl3 + 1).toNat)] M (fun r M1 => rn_WP 215 537 [rn_R al0, vl1, rn_R 466, rn_I xl3] (r.toList ++ [vs0]) M1 Q)) : rn_WP 215 528 [rn_R al0, vl1, rn_R 466, rn_I xl3] [vs0] M Q := by
  refine (rn_step (e := (.aload_n 2, 529, 2, 0, 0, 0, 0, [])) rfl).mpr ?_
  refine (rn_step (e := (.aload_n 0, 530, 0, 0, 0, 0, 0, [])) rfl).mpr ?_
  refine (rn_step (e := (.iload_n 3, 531, 3, 0, 0, 0, 0, [])) rfl).mpr ?_
  refine (rn_step (e := (.iconst 1, 532, 0, 0, 0, 0, 0, [])) rfl).mpr ?_
  refine (rn_step (e := (.iadd, 533, 0, 0, 0, 0, 0, [])) rfl).mpr (rn_cw hr1.1 hr1.2.1 ?_)
  refine (rn_step (e := (.iaload, 534, 0, 0, 0, 0, 0, [])) rfl).mpr (And.intro (Or.inr h1.1) (And.intro ((And.intro (hr1.2.2.1) (rn_lt h1.2 hr1.2.2.2))) (?_)))
  exact (rn_step (e := (.invokevirtual 64, 537, 166, 2, 1075, 0, 11, [0])) rfl).mpr (And.intro ((rn_ks466 (M := M) hM)) (k1))
set_option maxRecDepth 4000 in
theorem rb_Lw_law_537 {M : rn_M} {Q : rn_Q} {vl0 : rn_V} {vl1 : rn_V} {vl2 : rn_V} {xl3 : Int} {xs0 : Int} {xs1 : Int}   (hr1 : (xs1 = xs0) → (-2147483648 : Int) ≤ xl3 + 6 ∧ xl3 + 6 ≤ 2147483647) (k1 : (xs1 = xs0) → rn_WP 215 18 [vl0, vl1, vl2, rn_I (xl3 + 6)] [] M Q) (k2 : (¬ (xs1 = xs0)) → Q (some (rn_I 0)) M) : rn_WP 215 537 [vl0, vl1, vl2, rn_I xl3] [rn_I xs0, rn_I xs1] M Q := by
  refine (rn_step (e := (.if_icmp .eq 440, 540, 977, 0, 0, 0, 0, [])) rfl).mpr (And.intro (fun c1 => ?_) (fun c1 => ?_))
  ·
    refine (rn_step (e := (.iinc 3 6, 980, 3, 0, 0, 0, 0, [])) rfl).mpr (rn_ci (hr1 c1).1 (hr1 c1).2 ?_)
    refine (rn_step (e := (.goto (-962), 983, 18, 0, 0, 0, 0, [])) rfl).mpr ?_
    exact (k1 c1)
  ·
    refine (rn_step (e := (.iconst 0, 541, 0, 0, 0, 0, 0, [])) rfl).mpr ?_
    exact (rn_step (e := (.ireturn, 542, 0, 0, 0, 1, 0, [])) rfl).mpr (And.intro ((Or.inl rfl)) ((k2 c1)))
set_option maxRecDepth 4000 in
theorem rb_Lw_law_551 {M : rn_M} {Q : rn_Q} {al0 : Nat} {vl1 : rn_V} {xl3 : Int} {vs0 : rn_V} {n1 : Nat} (hM : rn_sh M)  (h1 : rn_fa M al0 n1) (hr1 : (-2147483648 : Int) ≤ xl3 + 1 ∧ xl3 + 1 ≤ 2147483647 ∧ (0 : Int) ≤ xl3 + 1 ∧ xl3 + 1 < (n1 : Int)) (k1 : rn_ME 167 [rn_R 466, rn_I (rn_gi M al0 (xl3 + 1).toNat)] M (fun r M1 => rn_WP 215 560 [rn_R al0, vl1, rn_R 466, rn_I xl3] (r.toList ++ [vs0]) M1 Q)) : rn_WP 215 551 [rn_R al0, vl1, rn_R 466, rn_I xl3] [vs0] M Q := by
  refine (rn_step (e := (.aload_n 2, 552, 2, 0, 0, 0, 0, [])) rfl).mpr ?_
  refine (rn_step (e := (.aload_n 0, 553, 0, 0, 0, 0, 0, [])) rfl).mpr ?_
  refine (rn_step (e := (.iload_n 3, 554, 3, 0, 0, 0, 0, [])) rfl).mpr ?_
  refine (rn_step (e := (.iconst 1, 555, 0, 0, 0, 0, 0, [])) rfl).mpr ?_
  refine (rn_step (e := (.iadd, 556, 0, 0, 0, 0, 0, [])) rfl).mpr (rn_cw hr1.1 hr1.2.1 ?_)
  refine (rn_step (e := (.iaload, 557, 0, 0, 0, 0, 0, [])) rfl).mpr (And.intro (Or.inr h1.1) (And.intro ((And.intro (hr1.2.2.1) (rn_lt h1.2 hr1.2.2.2))) (?_)))
  exact (rn_step (e := (.invokevirtual 68, 560, 167, 2, 1087, 0, 11, [0])) rfl).mpr (And.intro ((rn_ks466 (M := M) hM)) (k1))
set_option maxRecDepth 4000 in
theorem rb_Lw_law_560 {M : rn_M} {Q : rn_Q} {vl0 : rn_V} {vl1 : rn_V} {vl2 : rn_V} {xl3 : Int} {xs0 : Int} {xs1 : Int}   (hr1 : (xs1 = xs0) → (-2147483648 : Int) ≤ xl3 + 6 ∧ xl3 + 6 ≤ 2147483647) (k1 : (xs1 = xs0) → rn_WP 215 18 [vl0, vl1, vl2, rn_I (xl3 + 6)] [] M Q) (k2 : (¬ (xs1 = xs0)) → Q (some (rn_I 0)) M) : rn_WP 215 560 [vl0, vl1, vl2, rn_I xl3] [rn_I xs0, rn_I xs1] M Q := by
  refine (rn_step (e := (.if_icmp .eq 417, 563, 977, 0, 0, 0, 0, [])) rfl).mpr (And.intro (fun c1 => ?_) (fun c1 => ?_))
  ·
    refine (rn_step (e := (.iinc 3 6, 980, 3, 0, 0, 0, 0, [])) rfl).mpr (rn_ci (hr1 c1).1 (hr1 c1).2 ?_)
    refine (rn_step (e := (.goto (-962), 983, 18, 0, 0, 0, 0, [])) rfl).mpr ?_
    exact (k1 c1)
  ·
    refine (rn_step (e := (.iconst 0, 564, 0, 0, 0, 0, 0, [])) rfl).mpr ?_
    exact (rn_step (e := (.ireturn, 565, 0, 0, 0, 1, 0, [])) rfl).mpr (And.intro ((Or.inl rfl)) ((k2 c1)))
set_option maxRecDepth 4000 in
theorem rb_Lw_law_569 {M : rn_M} {Q : rn_Q} {vl0 : rn_V} {vl1 : rn_V} {vl3 : rn_V} {vs0 : rn_V} (hM : rn_sh M)   (k1 : rn_ME 168 [rn_R 466] M (fun r M1 => rn_WP 215 573 [vl0, vl1, rn_R 466, vl3] (r.toList ++ [vs0]) M1 Q)) : rn_WP 215 569 [vl0, vl1, rn_R 466, vl3] [vs0] M Q := by
  refine (rn_step (e := (.aload_n 2, 570, 2, 0, 0, 0, 0, [])) rfl).mpr ?_
  exact (rn_step (e := (.invokevirtual 72, 573, 168, 1, 1106, 0, 11, [0])) rfl).mpr (And.intro ((rn_ks466 (M := M) hM)) (k1))
set_option maxRecDepth 4000 in
theorem rb_Lw_law_573 {M : rn_M} {Q : rn_Q} {vl0 : rn_V} {vl1 : rn_V} {vl2 : rn_V} {xl3 : Int} {xs0 : Int} {xs1 : Int}   (hr1 : (xs1 = xs0) → (-2147483648 : Int) ≤ xl3 + 6 ∧ xl3 + 6 ≤ 2147483647) (k1 : (xs1 = xs0) → rn_WP 215 18 [vl0, vl1, vl2, rn_I (xl3 + 6)] [] M Q) (k2 : (¬ (xs1 = xs0)) → Q (some (rn_I 0)) M) : rn_WP 215 573 [vl0, vl1, vl2, rn_I xl3] [rn_I xs0, rn_I xs1] M Q := by
  refine (rn_step (e := (.if_icmp .eq 404, 576, 977, 0, 0, 0, 0, [])) rfl).mpr (And.intro (fun c1 => ?_) (fun c1 => ?_))
  ·
    refine (rn_step (e := (.iinc 3 6, 980, 3, 0, 0, 0, 0, [])) rfl).mpr (rn_ci (hr1 c1).1 (hr1 c1).2 ?_)
    refine (rn_step (e := (.goto (-962), 983, 18, 0, 0, 0, 0, [])) rfl).mpr ?_
    exact (k1 c1)
  ·
    refine (rn_step (e := (.iconst 0, 577, 0, 0, 0, 0, 0, [])) rfl).mpr ?_
    exact (rn_step (e := (.ireturn, 578, 0, 0, 0, 1, 0, [])) rfl).mpr (And.intro ((Or.inl rfl)) ((k2 c1)))
set_option maxRecDepth 4000 in
theorem rb_Lw_law_582 {M : rn_M} {Q : rn_Q} {vl0 : rn_V} {vl1 : rn_V} {vl3 : rn_V} {vs0 : rn_V} (hM : rn_sh M)   (k1 : rn_ME 126 [rn_R 466] M (fun r M1 => rn_WP 215 586 [vl0, vl1, rn_R 466, vl3] (r.toList ++ [vs0]) M1 Q)) : rn_WP 215 582 [vl0, vl1, rn_R 466, vl3] [vs0] M Q := by
  refine (rn_step (e := (.aload_n 2, 583, 2, 0, 0, 0, 0, [])) rfl).mpr ?_
  exact (rn_step (e := (.invokevirtual 76, 586, 126, 1, 948, 0, 11, [0])) rfl).mpr (And.intro ((rn_ks466 (M := M) hM)) (k1))
set_option maxRecDepth 4000 in
theorem rb_Lw_law_586 {M : rn_M} {Q : rn_Q} {vl0 : rn_V} {vl1 : rn_V} {vl2 : rn_V} {xl3 : Int} {xs0 : Int} {xs1 : Int}   (hr1 : (xs1 = xs0) → (-2147483648 : Int) ≤ xl3 + 6 ∧ xl3 + 6 ≤ 2147483647) (k1 : (xs1 = xs0) → rn_WP 215 18 [vl0, vl1, vl2, rn_I (xl3 + 6)] [] M Q) (k2 : (¬ (xs1 = xs0)) → Q (some (rn_I 0)) M) : rn_WP 215 586 [vl0, vl1, vl2, rn_I xl3] [rn_I xs0, rn_I xs1] M Q := by
  refine (rn_step (e := (.if_icmp .eq 391, 589, 977, 0, 0, 0, 0, [])) rfl).mpr (And.intro (fun c1 => ?_) (fun c1 => ?_))
  ·
    refine (rn_step (e := (.iinc 3 6, 980, 3, 0, 0, 0, 0, [])) rfl).mpr (rn_ci (hr1 c1).1 (hr1 c1).2 ?_)
    refine (rn_step (e := (.goto (-962), 983, 18, 0, 0, 0, 0, [])) rfl).mpr ?_
    exact (k1 c1)
  ·
    refine (rn_step (e := (.iconst 0, 590, 0, 0, 0, 0, 0, [])) rfl).mpr ?_
    exact (rn_step (e := (.ireturn, 591, 0, 0, 0, 1, 0, [])) rfl).mpr (And.intro ((Or.inl rfl)) ((k2 c1)))
set_option maxRecDepth 4000 in
theorem rb_Lw_law_600 {M : rn_M} {Q : rn_Q} {al0 : Nat} {vl1 : rn_V} {xl3 : Int} {vs0 : rn_V} {n1 : Nat} (hM : rn_sh M)  (h1 : rn_fa M al0 n1) (hr1 : (-2147483648 : Int) ≤ xl3 + 1 ∧ xl3 + 1 ≤ 2147483647 ∧ (0 : Int) ≤ xl3 + 1 ∧ xl3 + 1 < (n1 : Int)) (k1 : rn_ME 174 [rn_R 466, rn_I (rn_gi M al0 (xl3 + 1).toNat)] M (fun r M1 => rn_WP 215 609 [rn_R al0, vl1, rn_R 466, rn_I xl3] (r.toList ++ [vs0]) M1 Q)) : rn_WP 215 600 [rn_R al0, vl1, rn_R 466, rn_I xl3] [vs0] M Q := by
  refine (rn_step (e := (.aload_n 2, 601, 2, 0, 0, 0, 0, [])) rfl).mpr ?_
  refine (rn_step (e := (.aload_n 0, 602, 0, 0, 0, 0, 0, [])) rfl).mpr ?_
  refine (rn_step (e := (.iload_n 3, 603, 3, 0, 0, 0, 0, [])) rfl).mpr ?_
  refine (rn_step (e := (.iconst 1, 604, 0, 0, 0, 0, 0, [])) rfl).mpr ?_
  refine (rn_step (e := (.iadd, 605, 0, 0, 0, 0, 0, [])) rfl).mpr (rn_cw hr1.1 hr1.2.1 ?_)
  refine (rn_step (e := (.iaload, 606, 0, 0, 0, 0, 0, [])) rfl).mpr (And.intro (Or.inr h1.1) (And.intro ((And.intro (hr1.2.2.1) (rn_lt h1.2 hr1.2.2.2))) (?_)))
  exact (rn_step (e := (.invokevirtual 80, 609, 174, 2, 1114, 0, 11, [0])) rfl).mpr (And.intro ((rn_ks466 (M := M) hM)) (k1))
set_option maxRecDepth 4000 in
theorem rb_Lw_law_609 {M : rn_M} {Q : rn_Q} {vl0 : rn_V} {vl1 : rn_V} {vl2 : rn_V} {xl3 : Int} {xs0 : Int} {xs1 : Int}   (hr1 : (xs1 = xs0) → (-2147483648 : Int) ≤ xl3 + 6 ∧ xl3 + 6 ≤ 2147483647) (k1 : (xs1 = xs0) → rn_WP 215 18 [vl0, vl1, vl2, rn_I (xl3 + 6)] [] M Q) (k2 : (¬ (xs1 = xs0)) → Q (some (rn_I 0)) M) : rn_WP 215 609 [vl0, vl1, vl2, rn_I xl3] [rn_I xs0, rn_I xs1] M Q := by
  refine (rn_step (e := (.if_icmp .eq 368, 612, 977, 0, 0, 0, 0, [])) rfl).mpr (And.intro (fun c1 => ?_) (fun c1 => ?_))
  ·
    refine (rn_step (e := (.iinc 3 6, 980, 3, 0, 0, 0, 0, [])) rfl).mpr (rn_ci (hr1 c1).1 (hr1 c1).2 ?_)
    refine (rn_step (e := (.goto (-962), 983, 18, 0, 0, 0, 0, [])) rfl).mpr ?_
    exact (k1 c1)
  ·
    refine (rn_step (e := (.iconst 0, 613, 0, 0, 0, 0, 0, [])) rfl).mpr ?_
    exact (rn_step (e := (.ireturn, 614, 0, 0, 0, 1, 0, [])) rfl).mpr (And.intro ((Or.inl rfl)) ((k2 c1)))
set_option maxRecDepth 4000 in
theorem rb_Lw_law_628 {M : rn_M} {Q : rn_Q} {al0 : Nat} {vl1 : rn_V} {xl3 : Int} {vs0 : rn_V} {n1 : Nat} (hM : rn_sh M)  (h1 : rn_fa M al0 n1) (hr1 : (-2147483648 : Int) ≤ xl3 + 1 ∧ xl3 + 1 ≤ 2147483647 ∧ (0 : Int) ≤ xl3 + 1 ∧ xl3 + 1 < (n1 : Int) ∧ (-2147483648 : Int) ≤ xl3 + 2 ∧ xl3 + 2 ≤ 2147483647 ∧ (0 : Int) ≤ xl3 + 2 ∧ xl3 + 2 < (n1 : Int)) (k1 : rn_ME 176 [rn_R 466, rn_I (rn_gi M al0 (xl3 + 1).toNat), rn_I (rn_gi M al0 (xl3 + 2).toNat)] M (fun r M1 => rn_WP 215 642 [rn_R al0, vl1, rn_R 466, rn_I xl3] (r.toList ++ [vs0]) M1 Q)) : rn_WP 215 628 [rn_R al0, vl1, rn_R 466, rn_I xl3] [vs0] M Q := by
  refine (rn_step (e := (.aload_n 2, 629, 2, 0, 0, 0, 0, [])) rfl).mpr ?_
  refine (rn_step (e := (.aload_n 0, 630, 0, 0, 0, 0, 0, [])) rfl).mpr ?_
  refine (rn_step (e := (.iload_n 3, 631, 3, 0, 0, 0, 0, [])) rfl).mpr ?_
  refine (rn_step (e := (.iconst 1, 632, 0, 0, 0, 0, 0, [])) rfl).mpr ?_
  refine (rn_step (e := (.iadd, 633, 0, 0, 0, 0, 0, [])) rfl).mpr (rn_cw hr1.1 hr1.2.1 ?_)
  refine (rn_step (e := (.iaload, 634, 0, 0, 0, 0, 0, [])) rfl).mpr (And.intro (Or.inr h1.1) (And.intro ((And.intro (hr1.2.2.1) (rn_lt h1.2 hr1.2.2.2.1))) (?_)))
  refine (rn_step (e := (.aload_n 0, 635, 0, 0, 0, 0, 0, [])) rfl).mpr ?_
  refine (rn_step (e := (.iload_n 3, 636, 3, 0, 0, 0, 0, [])) rfl).mpr ?_
  refine (rn_step (e := (.iconst 2, 637, 0, 0, 0, 0, 0, [])) rfl).mpr ?_
  refine (rn_step (e := (.iadd, 638, 0, 0, 0, 0, 0, [])) rfl).mpr (rn_cw hr1.2.2.2.2.1 hr1.2.2.2.2.2.1 ?_)
  refine (rn_step (e := (.iaload, 639, 0, 0, 0, 0, 0, [])) rfl).mpr (And.intro (Or.inr h1.1) (And.intro ((And.intro (hr1.2.2.2.2.2.2.1) (rn_lt h1.2 hr1.2.2.2.2.2.2.2))) (?_)))
  exact (rn_step (e := (.invokevirtual 84, 642, 176, 3, 1138, 0, 11, [0])) rfl).mpr (And.intro ((rn_ks466 (M := M) hM)) (k1))
set_option maxRecDepth 4000 in
theorem rb_Lw_law_642 {M : rn_M} {Q : rn_Q} {vl0 : rn_V} {vl1 : rn_V} {vl2 : rn_V} {xl3 : Int} {xs0 : Int} {xs1 : Int}   (hr1 : (xs1 = xs0) → (-2147483648 : Int) ≤ xl3 + 6 ∧ xl3 + 6 ≤ 2147483647) (k1 : (xs1 = xs0) → rn_WP 215 18 [vl0, vl1, vl2, rn_I (xl3 + 6)] [] M Q) (k2 : (¬ (xs1 = xs0)) → Q (some (rn_I 0)) M) : rn_WP 215 642 [vl0, vl1, vl2, rn_I xl3] [rn_I xs0, rn_I xs1] M Q := by
  refine (rn_step (e := (.if_icmp .eq 335, 645, 977, 0, 0, 0, 0, [])) rfl).mpr (And.intro (fun c1 => ?_) (fun c1 => ?_))
  ·
    refine (rn_step (e := (.iinc 3 6, 980, 3, 0, 0, 0, 0, [])) rfl).mpr (rn_ci (hr1 c1).1 (hr1 c1).2 ?_)
    refine (rn_step (e := (.goto (-962), 983, 18, 0, 0, 0, 0, [])) rfl).mpr ?_
    exact (k1 c1)
  ·
    refine (rn_step (e := (.iconst 0, 646, 0, 0, 0, 0, 0, [])) rfl).mpr ?_
    exact (rn_step (e := (.ireturn, 647, 0, 0, 0, 1, 0, [])) rfl).mpr (And.intro ((Or.inl rfl)) ((k2 c1)))
set_option maxRecDepth 4000 in
theorem rb_Lw_law_661 {M : rn_M} {Q : rn_Q} {al0 : Nat} {vl1 : rn_V} {xl3 : Int} {vs0 : rn_V} {n1 : Nat} (hM : rn_sh M)  (h1 : rn_fa M al0 n1) (hr1 : (-2147483648 : Int) ≤ xl3 + 1 ∧ xl3 + 1 ≤ 2147483647 ∧ (0 : Int) ≤ xl3 + 1 ∧ xl3 + 1 < (n1 : Int) ∧ (-2147483648 : Int) ≤ xl3 + 2 ∧ xl3 + 2 ≤ 2147483647 ∧ (0 : Int) ≤ xl3 + 2 ∧ xl3 + 2 < (n1 : Int)) (k1 : rn_ME 177 [rn_R 466, rn_I (rn_gi M al0 (xl3 + 1).toNat), rn_I (rn_gi M al0 (xl3 + 2).toNat)] M (fun r M1 => rn_WP 215 675 [rn_R al0, vl1, rn_R 466, rn_I xl3] (r.toList ++ [vs0]) M1 Q)) : rn_WP 215 661 [rn_R al0, vl1, rn_R 466, rn_I xl3] [vs0] M Q := by
  refine (rn_step (e := (.aload_n 2, 662, 2, 0, 0, 0, 0, [])) rfl).mpr ?_
  refine (rn_step (e := (.aload_n 0, 663, 0, 0, 0, 0, 0, [])) rfl).mpr ?_
  refine (rn_step (e := (.iload_n 3, 664, 3, 0, 0, 0, 0, [])) rfl).mpr ?_
  refine (rn_step (e := (.iconst 1, 665, 0, 0, 0, 0, 0, [])) rfl).mpr ?_
  refine (rn_step (e := (.iadd, 666, 0, 0, 0, 0, 0, [])) rfl).mpr (rn_cw hr1.1 hr1.2.1 ?_)
  refine (rn_step (e := (.iaload, 667, 0, 0, 0, 0, 0, [])) rfl).mpr (And.intro (Or.inr h1.1) (And.intro ((And.intro (hr1.2.2.1) (rn_lt h1.2 hr1.2.2.2.1))) (?_)))
  refine (rn_step (e := (.aload_n 0, 668, 0, 0, 0, 0, 0, [])) rfl).mpr ?_
  refine (rn_step (e := (.iload_n 3, 669, 3, 0, 0, 0, 0, [])) rfl).mpr ?_
  refine (rn_step (e := (.iconst 2, 670, 0, 0, 0, 0, 0, [])) rfl).mpr ?_
  refine (rn_step (e := (.iadd, 671, 0, 0, 0, 0, 0, [])) rfl).mpr (rn_cw hr1.2.2.2.2.1 hr1.2.2.2.2.2.1 ?_)
  refine (rn_step (e := (.iaload, 672, 0, 0, 0, 0, 0, [])) rfl).mpr (And.intro (Or.inr h1.1) (And.intro ((And.intro (hr1.2.2.2.2.2.2.1) (rn_lt h1.2 hr1.2.2.2.2.2.2.2))) (?_)))
  exact (rn_step (e := (.invokevirtual 88, 675, 177, 3, 1146, 0, 11, [0])) rfl).mpr (And.intro ((rn_ks466 (M := M) hM)) (k1))
set_option maxRecDepth 4000 in
theorem rb_Lw_law_675 {M : rn_M} {Q : rn_Q} {vl0 : rn_V} {vl1 : rn_V} {vl2 : rn_V} {xl3 : Int} {xs0 : Int} {xs1 : Int}   (hr1 : (xs1 = xs0) → (-2147483648 : Int) ≤ xl3 + 6 ∧ xl3 + 6 ≤ 2147483647) (k1 : (xs1 = xs0) → rn_WP 215 18 [vl0, vl1, vl2, rn_I (xl3 + 6)] [] M Q) (k2 : (¬ (xs1 = xs0)) → Q (some (rn_I 0)) M) : rn_WP 215 675 [vl0, vl1, vl2, rn_I xl3] [rn_I xs0, rn_I xs1] M Q := by
  refine (rn_step (e := (.if_icmp .eq 302, 678, 977, 0, 0, 0, 0, [])) rfl).mpr (And.intro (fun c1 => ?_) (fun c1 => ?_))
  ·
    refine (rn_step (e := (.iinc 3 6, 980, 3, 0, 0, 0, 0, [])) rfl).mpr (rn_ci (hr1 c1).1 (hr1 c1).2 ?_)
    refine (rn_step (e := (.goto (-962), 983, 18, 0, 0, 0, 0, [])) rfl).mpr ?_
    exact (k1 c1)
  ·
    refine (rn_step (e := (.iconst 0, 679, 0, 0, 0, 0, 0, [])) rfl).mpr ?_
    exact (rn_step (e := (.ireturn, 680, 0, 0, 0, 1, 0, [])) rfl).mpr (And.intro ((Or.inl rfl)) ((k2 c1)))
set_option maxRecDepth 4000 in
theorem rb_Lw_law_694 {M : rn_M} {Q : rn_Q} {al0 : Nat} {vl1 : rn_V} {xl3 : Int} {vs0 : rn_V} {n1 : Nat} (hM : rn_sh M)  (h1 : rn_fa M al0 n1) (hr1 : (-2147483648 : Int) ≤ xl3 + 1 ∧ xl3 + 1 ≤ 2147483647 ∧ (0 : Int) ≤ xl3 + 1 ∧ xl3 + 1 < (n1 : Int) ∧ (-2147483648 : Int) ≤ xl3 + 2 ∧ xl3 + 2 ≤ 2147483647 ∧ (0 : Int) ≤ xl3 + 2 ∧ xl3 + 2 < (n1 : Int)) (k1 : rn_ME 178 [rn_R 466, rn_I (rn_gi M al0 (xl3 + 1).toNat), rn_I (rn_gi M al0 (xl3 + 2).toNat)] M (fun r M1 => rn_WP 215 708 [rn_R al0, vl1, rn_R 466, rn_I xl3] (r.toList ++ [vs0]) M1 Q)) : rn_WP 215 694 [rn_R al0, vl1, rn_R 466, rn_I xl3] [vs0] M Q := by
  refine (rn_step (e := (.aload_n 2, 695, 2, 0, 0, 0, 0, [])) rfl).mpr ?_
  refine (rn_step (e := (.aload_n 0, 696, 0, 0, 0, 0, 0, [])) rfl).mpr ?_
  refine (rn_step (e := (.iload_n 3, 697, 3, 0, 0, 0, 0, [])) rfl).mpr ?_
  refine (rn_step (e := (.iconst 1, 698, 0, 0, 0, 0, 0, [])) rfl).mpr ?_
  refine (rn_step (e := (.iadd, 699, 0, 0, 0, 0, 0, [])) rfl).mpr (rn_cw hr1.1 hr1.2.1 ?_)
  refine (rn_step (e := (.iaload, 700, 0, 0, 0, 0, 0, [])) rfl).mpr (And.intro (Or.inr h1.1) (And.intro ((And.intro (hr1.2.2.1) (rn_lt h1.2 hr1.2.2.2.1))) (?_)))
  refine (rn_step (e := (.aload_n 0, 701, 0, 0, 0, 0, 0, [])) rfl).mpr ?_
  refine (rn_step (e := (.iload_n 3, 702, 3, 0, 0, 0, 0, [])) rfl).mpr ?_
  refine (rn_step (e := (.iconst 2, 703, 0, 0, 0, 0, 0, [])) rfl).mpr ?_
  refine (rn_step (e := (.iadd, 704, 0, 0, 0, 0, 0, [])) rfl).mpr (rn_cw hr1.2.2.2.2.1 hr1.2.2.2.2.2.1 ?_)
  refine (rn_step (e := (.iaload, 705, 0, 0, 0, 0, 0, [])) rfl).mpr (And.intro (Or.inr h1.1) (And.intro ((And.intro (hr1.2.2.2.2.2.2.1) (rn_lt h1.2 hr1.2.2.2.2.2.2.2))) (?_)))
  exact (rn_step (e := (.invokevirtual 92, 708, 178, 3, 1150, 0, 11, [0])) rfl).mpr (And.intro ((rn_ks466 (M := M) hM)) (k1))
set_option maxRecDepth 4000 in
theorem rb_Lw_law_708 {M : rn_M} {Q : rn_Q} {vl0 : rn_V} {vl1 : rn_V} {vl2 : rn_V} {xl3 : Int} {xs0 : Int} {xs1 : Int}   (hr1 : (xs1 = xs0) → (-2147483648 : Int) ≤ xl3 + 6 ∧ xl3 + 6 ≤ 2147483647) (k1 : (xs1 = xs0) → rn_WP 215 18 [vl0, vl1, vl2, rn_I (xl3 + 6)] [] M Q) (k2 : (¬ (xs1 = xs0)) → Q (some (rn_I 0)) M) : rn_WP 215 708 [vl0, vl1, vl2, rn_I xl3] [rn_I xs0, rn_I xs1] M Q := by
  refine (rn_step (e := (.if_icmp .eq 269, 711, 977, 0, 0, 0, 0, [])) rfl).mpr (And.intro (fun c1 => ?_) (fun c1 => ?_))
  ·
    refine (rn_step (e := (.iinc 3 6, 980, 3, 0, 0, 0, 0, [])) rfl).mpr (rn_ci (hr1 c1).1 (hr1 c1).2 ?_)
    refine (rn_step (e := (.goto (-962), 983, 18, 0, 0, 0, 0, [])) rfl).mpr ?_
    exact (k1 c1)
  ·
    refine (rn_step (e := (.iconst 0, 712, 0, 0, 0, 0, 0, [])) rfl).mpr ?_
    exact (rn_step (e := (.ireturn, 713, 0, 0, 0, 1, 0, [])) rfl).mpr (And.intro ((Or.inl rfl)) ((k2 c1)))
set_option maxRecDepth 4000 in
theorem rb_Lw_law_727 {M : rn_M} {Q : rn_Q} {al0 : Nat} {vl1 : rn_V} {xl3 : Int} {vs0 : rn_V} {n1 : Nat} (hM : rn_sh M)  (h1 : rn_fa M al0 n1) (hr1 : (-2147483648 : Int) ≤ xl3 + 1 ∧ xl3 + 1 ≤ 2147483647 ∧ (0 : Int) ≤ xl3 + 1 ∧ xl3 + 1 < (n1 : Int) ∧ (-2147483648 : Int) ≤ xl3 + 2 ∧ xl3 + 2 ≤ 2147483647 ∧ (0 : Int) ≤ xl3 + 2 ∧ xl3 + 2 < (n1 : Int)) (k1 : rn_ME 179 [rn_R 466, rn_I (rn_gi M al0 (xl3 + 1).toNat), rn_I (rn_gi M al0 (xl3 + 2).toNat)] M (fun r M1 => rn_WP 215 741 [rn_R al0, vl1, rn_R 466, rn_I xl3] (r.toList ++ [vs0]) M1 Q)) : rn_WP 215 727 [rn_R al0, vl1, rn_R 466, rn_I xl3] [vs0] M Q := by
  refine (rn_step (e := (.aload_n 2, 728, 2, 0, 0, 0, 0, [])) rfl).mpr ?_
  refine (rn_step (e := (.aload_n 0, 729, 0, 0, 0, 0, 0, [])) rfl).mpr ?_
  refine (rn_step (e := (.iload_n 3, 730, 3, 0, 0, 0, 0, [])) rfl).mpr ?_
  refine (rn_step (e := (.iconst 1, 731, 0, 0, 0, 0, 0, [])) rfl).mpr ?_
  refine (rn_step (e := (.iadd, 732, 0, 0, 0, 0, 0, [])) rfl).mpr (rn_cw hr1.1 hr1.2.1 ?_)
  refine (rn_step (e := (.iaload, 733, 0, 0, 0, 0, 0, [])) rfl).mpr (And.intro (Or.inr h1.1) (And.intro ((And.intro (hr1.2.2.1) (rn_lt h1.2 hr1.2.2.2.1))) (?_)))
  refine (rn_step (e := (.aload_n 0, 734, 0, 0, 0, 0, 0, [])) rfl).mpr ?_
  refine (rn_step (e := (.iload_n 3, 735, 3, 0, 0, 0, 0, [])) rfl).mpr ?_
  refine (rn_step (e := (.iconst 2, 736, 0, 0, 0, 0, 0, [])) rfl).mpr ?_
  refine (rn_step (e := (.iadd, 737, 0, 0, 0, 0, 0, [])) rfl).mpr (rn_cw hr1.2.2.2.2.1 hr1.2.2.2.2.2.1 ?_)
  refine (rn_step (e := (.iaload, 738, 0, 0, 0, 0, 0, [])) rfl).mpr (And.intro (Or.inr h1.1) (And.intro ((And.intro (hr1.2.2.2.2.2.2.1) (rn_lt h1.2 hr1.2.2.2.2.2.2.2))) (?_)))
  exact (rn_step (e := (.invokevirtual 96, 741, 179, 3, 1154, 0, 11, [0])) rfl).mpr (And.intro ((rn_ks466 (M := M) hM)) (k1))
set_option maxRecDepth 4000 in
theorem rb_Lw_law_741 {M : rn_M} {Q : rn_Q} {vl0 : rn_V} {vl1 : rn_V} {vl2 : rn_V} {xl3 : Int} {xs0 : Int} {xs1 : Int}   (hr1 : (xs1 = xs0) → (-2147483648 : Int) ≤ xl3 + 6 ∧ xl3 + 6 ≤ 2147483647) (k1 : (xs1 = xs0) → rn_WP 215 18 [vl0, vl1, vl2, rn_I (xl3 + 6)] [] M Q) (k2 : (¬ (xs1 = xs0)) → Q (some (rn_I 0)) M) : rn_WP 215 741 [vl0, vl1, vl2, rn_I xl3] [rn_I xs0, rn_I xs1] M Q := by
  refine (rn_step (e := (.if_icmp .eq 236, 744, 977, 0, 0, 0, 0, [])) rfl).mpr (And.intro (fun c1 => ?_) (fun c1 => ?_))
  ·
    refine (rn_step (e := (.iinc 3 6, 980, 3, 0, 0, 0, 0, [])) rfl).mpr (rn_ci (hr1 c1).1 (hr1 c1).2 ?_)
    refine (rn_step (e := (.goto (-962), 983, 18, 0, 0, 0, 0, [])) rfl).mpr ?_
    exact (k1 c1)
  ·
    refine (rn_step (e := (.iconst 0, 745, 0, 0, 0, 0, 0, [])) rfl).mpr ?_
    exact (rn_step (e := (.ireturn, 746, 0, 0, 0, 1, 0, [])) rfl).mpr (And.intro ((Or.inl rfl)) ((k2 c1)))
set_option maxRecDepth 4000 in
theorem rb_Lw_law_760 {M : rn_M} {Q : rn_Q} {al0 : Nat} {vl1 : rn_V} {xl3 : Int} {vs0 : rn_V} {n1 : Nat} (hM : rn_sh M)  (h1 : rn_fa M al0 n1) (hr1 : (-2147483648 : Int) ≤ xl3 + 1 ∧ xl3 + 1 ≤ 2147483647 ∧ (0 : Int) ≤ xl3 + 1 ∧ xl3 + 1 < (n1 : Int) ∧ (-2147483648 : Int) ≤ xl3 + 2 ∧ xl3 + 2 ≤ 2147483647 ∧ (0 : Int) ≤ xl3 + 2 ∧ xl3 + 2 < (n1 : Int)) (k1 : rn_ME 181 [rn_R 466, rn_I (rn_gi M al0 (xl3 + 1).toNat), rn_I (rn_gi M al0 (xl3 + 2).toNat)] M (fun r M1 => rn_WP 215 774 [rn_R al0, vl1, rn_R 466, rn_I xl3] (r.toList ++ [vs0]) M1 Q)) : rn_WP 215 760 [rn_R al0, vl1, rn_R 466, rn_I xl3] [vs0] M Q := by
  refine (rn_step (e := (.aload_n 2, 761, 2, 0, 0, 0, 0, [])) rfl).mpr ?_
  refine (rn_step (e := (.aload_n 0, 762, 0, 0, 0, 0, 0, [])) rfl).mpr ?_
  refine (rn_step (e := (.iload_n 3, 763, 3, 0, 0, 0, 0, [])) rfl).mpr ?_
  refine (rn_step (e := (.iconst 1, 764, 0, 0, 0, 0, 0, [])) rfl).mpr ?_
  refine (rn_step (e := (.iadd, 765, 0, 0, 0, 0, 0, [])) rfl).mpr (rn_cw hr1.1 hr1.2.1 ?_)
  refine (rn_step (e := (.iaload, 766, 0, 0, 0, 0, 0, [])) rfl).mpr (And.intro (Or.inr h1.1) (And.intro ((And.intro (hr1.2.2.1) (rn_lt h1.2 hr1.2.2.2.1))) (?_)))
  refine (rn_step (e := (.aload_n 0, 767, 0, 0, 0, 0, 0, [])) rfl).mpr ?_
  refine (rn_step (e := (.iload_n 3, 768, 3, 0, 0, 0, 0, [])) rfl).mpr ?_
  refine (rn_step (e := (.iconst 2, 769, 0, 0, 0, 0, 0, [])) rfl).mpr ?_
  refine (rn_step (e := (.iadd, 770, 0, 0, 0, 0, 0, [])) rfl).mpr (rn_cw hr1.2.2.2.2.1 hr1.2.2.2.2.2.1 ?_)
  refine (rn_step (e := (.iaload, 771, 0, 0, 0, 0, 0, [])) rfl).mpr (And.intro (Or.inr h1.1) (And.intro ((And.intro (hr1.2.2.2.2.2.2.1) (rn_lt h1.2 hr1.2.2.2.2.2.2.2))) (?_)))
  exact (rn_step (e := (.invokevirtual 100, 774, 181, 3, 1158, 0, 11, [0])) rfl).mpr (And.intro ((rn_ks466 (M := M) hM)) (k1))
set_option maxRecDepth 4000 in
theorem rb_Lw_law_774 {M : rn_M} {Q : rn_Q} {vl0 : rn_V} {vl1 : rn_V} {vl2 : rn_V} {xl3 : Int} {xs0 : Int} {xs1 : Int}   (hr1 : (xs1 = xs0) → (-2147483648 : Int) ≤ xl3 + 6 ∧ xl3 + 6 ≤ 2147483647) (k1 : (xs1 = xs0) → rn_WP 215 18 [vl0, vl1, vl2, rn_I (xl3 + 6)] [] M Q) (k2 : (¬ (xs1 = xs0)) → Q (some (rn_I 0)) M) : rn_WP 215 774 [vl0, vl1, vl2, rn_I xl3] [rn_I xs0, rn_I xs1] M Q := by
  refine (rn_step (e := (.if_icmp .eq 203, 777, 977, 0, 0, 0, 0, [])) rfl).mpr (And.intro (fun c1 => ?_) (fun c1 => ?_))
  ·
    refine (rn_step (e := (.iinc 3 6, 980, 3, 0, 0, 0, 0, [])) rfl).mpr (rn_ci (hr1 c1).1 (hr1 c1).2 ?_)
    refine (rn_step (e := (.goto (-962), 983, 18, 0, 0, 0, 0, [])) rfl).mpr ?_
    exact (k1 c1)
  ·
    refine (rn_step (e := (.iconst 0, 778, 0, 0, 0, 0, 0, [])) rfl).mpr ?_
    exact (rn_step (e := (.ireturn, 779, 0, 0, 0, 1, 0, [])) rfl).mpr (And.intro ((Or.inl rfl)) ((k2 c1)))
set_option maxRecDepth 4000 in
theorem rb_Lw_law_793 {M : rn_M} {Q : rn_Q} {al0 : Nat} {vl1 : rn_V} {xl3 : Int} {vs0 : rn_V} {n1 : Nat} (hM : rn_sh M)  (h1 : rn_fa M al0 n1) (hr1 : (-2147483648 : Int) ≤ xl3 + 1 ∧ xl3 + 1 ≤ 2147483647 ∧ (0 : Int) ≤ xl3 + 1 ∧ xl3 + 1 < (n1 : Int) ∧ (-2147483648 : Int) ≤ xl3 + 2 ∧ xl3 + 2 ≤ 2147483647 ∧ (0 : Int) ≤ xl3 + 2 ∧ xl3 + 2 < (n1 : Int)) (k1 : rn_ME 183 [rn_R 466, rn_I (rn_gi M al0 (xl3 + 1).toNat), rn_I (rn_gi M al0 (xl3 + 2).toNat)] M (fun r M1 => rn_WP 215 807 [rn_R al0, vl1, rn_R 466, rn_I xl3] (r.toList ++ [vs0]) M1 Q)) : rn_WP 215 793 [rn_R al0, vl1, rn_R 466, rn_I xl3] [vs0] M Q := by
  refine (rn_step (e := (.aload_n 2, 794, 2, 0, 0, 0, 0, [])) rfl).mpr ?_
  refine (rn_step (e := (.aload_n 0, 795, 0, 0, 0, 0, 0, [])) rfl).mpr ?_
  refine (rn_step (e := (.iload_n 3, 796, 3, 0, 0, 0, 0, [])) rfl).mpr ?_
  refine (rn_step (e := (.iconst 1, 797, 0, 0, 0, 0, 0, [])) rfl).mpr ?_
  refine (rn_step (e := (.iadd, 798, 0, 0, 0, 0, 0, [])) rfl).mpr (rn_cw hr1.1 hr1.2.1 ?_)
  refine (rn_step (e := (.iaload, 799, 0, 0, 0, 0, 0, [])) rfl).mpr (And.intro (Or.inr h1.1) (And.intro ((And.intro (hr1.2.2.1) (rn_lt h1.2 hr1.2.2.2.1))) (?_)))
  refine (rn_step (e := (.aload_n 0, 800, 0, 0, 0, 0, 0, [])) rfl).mpr ?_
  refine (rn_step (e := (.iload_n 3, 801, 3, 0, 0, 0, 0, [])) rfl).mpr ?_
  refine (rn_step (e := (.iconst 2, 802, 0, 0, 0, 0, 0, [])) rfl).mpr ?_
  refine (rn_step (e := (.iadd, 803, 0, 0, 0, 0, 0, [])) rfl).mpr (rn_cw hr1.2.2.2.2.1 hr1.2.2.2.2.2.1 ?_)
  refine (rn_step (e := (.iaload, 804, 0, 0, 0, 0, 0, [])) rfl).mpr (And.intro (Or.inr h1.1) (And.intro ((And.intro (hr1.2.2.2.2.2.2.1) (rn_lt h1.2 hr1.2.2.2.2.2.2.2))) (?_)))
  exact (rn_step (e := (.invokevirtual 104, 807, 183, 3, 1170, 0, 11, [0])) rfl).mpr (And.intro ((rn_ks466 (M := M) hM)) (k1))
set_option maxRecDepth 4000 in
theorem rb_Lw_law_807 {M : rn_M} {Q : rn_Q} {vl0 : rn_V} {vl1 : rn_V} {vl2 : rn_V} {xl3 : Int} {xs0 : Int} {xs1 : Int}   (hr1 : (xs1 = xs0) → (-2147483648 : Int) ≤ xl3 + 6 ∧ xl3 + 6 ≤ 2147483647) (k1 : (xs1 = xs0) → rn_WP 215 18 [vl0, vl1, vl2, rn_I (xl3 + 6)] [] M Q) (k2 : (¬ (xs1 = xs0)) → Q (some (rn_I 0)) M) : rn_WP 215 807 [vl0, vl1, vl2, rn_I xl3] [rn_I xs0, rn_I xs1] M Q := by
  refine (rn_step (e := (.if_icmp .eq 170, 810, 977, 0, 0, 0, 0, [])) rfl).mpr (And.intro (fun c1 => ?_) (fun c1 => ?_))
  ·
    refine (rn_step (e := (.iinc 3 6, 980, 3, 0, 0, 0, 0, [])) rfl).mpr (rn_ci (hr1 c1).1 (hr1 c1).2 ?_)
    refine (rn_step (e := (.goto (-962), 983, 18, 0, 0, 0, 0, [])) rfl).mpr ?_
    exact (k1 c1)
  ·
    refine (rn_step (e := (.iconst 0, 811, 0, 0, 0, 0, 0, [])) rfl).mpr ?_
    exact (rn_step (e := (.ireturn, 812, 0, 0, 0, 1, 0, [])) rfl).mpr (And.intro ((Or.inl rfl)) ((k2 c1)))
set_option maxRecDepth 4000 in
theorem rb_Lw_law_831 {M : rn_M} {Q : rn_Q} {al0 : Nat} {vl1 : rn_V} {xl3 : Int} {vs0 : rn_V} {n1 : Nat} (hM : rn_sh M)  (h1 : rn_fa M al0 n1) (hr1 : (-2147483648 : Int) ≤ xl3 + 1 ∧ xl3 + 1 ≤ 2147483647 ∧ (0 : Int) ≤ xl3 + 1 ∧ xl3 + 1 < (n1 : Int) ∧ (-2147483648 : Int) ≤ xl3 + 2 ∧ xl3 + 2 ≤ 2147483647 ∧ (0 : Int) ≤ xl3 + 2 ∧ xl3 + 2 < (n1 : Int) ∧ (-2147483648 : Int) ≤ xl3 + 3 ∧ xl3 + 3 ≤ 2147483647 ∧ (0 : Int) ≤ xl3 + 3 ∧ xl3 + 3 < (n1 : Int)) (k1 : rn_ME 184 [rn_R 466, rn_I (rn_gi M al0 (xl3 + 1).toNat), rn_I (rn_gi M al0 (xl3 + 2).toNat), rn_I (rn_gi M al0 (xl3 + 3).toNat)] M (fun r M1 => rn_WP 215 850 [rn_R al0, vl1, rn_R 466, rn_I xl3] (r.toList ++ [vs0]) M1 Q)) : rn_WP 215 831 [rn_R al0, vl1, rn_R 466, rn_I xl3] [vs0] M Q := by
  refine (rn_step (e := (.aload_n 2, 832, 2, 0, 0, 0, 0, [])) rfl).mpr ?_
  refine (rn_step (e := (.aload_n 0, 833, 0, 0, 0, 0, 0, [])) rfl).mpr ?_
  refine (rn_step (e := (.iload_n 3, 834, 3, 0, 0, 0, 0, [])) rfl).mpr ?_
  refine (rn_step (e := (.iconst 1, 835, 0, 0, 0, 0, 0, [])) rfl).mpr ?_
  refine (rn_step (e := (.iadd, 836, 0, 0, 0, 0, 0, [])) rfl).mpr (rn_cw hr1.1 hr1.2.1 ?_)
  refine (rn_step (e := (.iaload, 837, 0, 0, 0, 0, 0, [])) rfl).mpr (And.intro (Or.inr h1.1) (And.intro ((And.intro (hr1.2.2.1) (rn_lt h1.2 hr1.2.2.2.1))) (?_)))
  refine (rn_step (e := (.aload_n 0, 838, 0, 0, 0, 0, 0, [])) rfl).mpr ?_
  refine (rn_step (e := (.iload_n 3, 839, 3, 0, 0, 0, 0, [])) rfl).mpr ?_
  refine (rn_step (e := (.iconst 2, 840, 0, 0, 0, 0, 0, [])) rfl).mpr ?_
  refine (rn_step (e := (.iadd, 841, 0, 0, 0, 0, 0, [])) rfl).mpr (rn_cw hr1.2.2.2.2.1 hr1.2.2.2.2.2.1 ?_)
  refine (rn_step (e := (.iaload, 842, 0, 0, 0, 0, 0, [])) rfl).mpr (And.intro (Or.inr h1.1) (And.intro ((And.intro (hr1.2.2.2.2.2.2.1) (rn_lt h1.2 hr1.2.2.2.2.2.2.2.1))) (?_)))
  refine (rn_step (e := (.aload_n 0, 843, 0, 0, 0, 0, 0, [])) rfl).mpr ?_
  refine (rn_step (e := (.iload_n 3, 844, 3, 0, 0, 0, 0, [])) rfl).mpr ?_
  refine (rn_step (e := (.iconst 3, 845, 0, 0, 0, 0, 0, [])) rfl).mpr ?_
  refine (rn_step (e := (.iadd, 846, 0, 0, 0, 0, 0, [])) rfl).mpr (rn_cw hr1.2.2.2.2.2.2.2.2.1 hr1.2.2.2.2.2.2.2.2.2.1 ?_)
  refine (rn_step (e := (.iaload, 847, 0, 0, 0, 0, 0, [])) rfl).mpr (And.intro (Or.inr h1.1) (And.intro ((And.intro (hr1.2.2.2.2.2.2.2.2.2.2.1) (rn_lt h1.2 hr1.2.2.2.2.2.2.2.2.2.2.2))) (?_)))
  exact (rn_step (e := (.invokevirtual 109, 850, 184, 4, 1178, 0, 11, [0])) rfl).mpr (And.intro ((rn_ks466 (M := M) hM)) (k1))
set_option maxRecDepth 4000 in
theorem rb_Lw_law_850 {M : rn_M} {Q : rn_Q} {vl0 : rn_V} {vl1 : rn_V} {vl2 : rn_V} {xl3 : Int} {xs0 : Int} {xs1 : Int}   (hr1 : (xs1 = xs0) → (-2147483648 : Int) ≤ xl3 + 6 ∧ xl3 + 6 ≤ 2147483647) (k1 : (xs1 = xs0) → rn_WP 215 18 [vl0, vl1, vl2, rn_I (xl3 + 6)] [] M Q) (k2 : (¬ (xs1 = xs0)) → Q (some (rn_I 0)) M) : rn_WP 215 850 [vl0, vl1, vl2, rn_I xl3] [rn_I xs0, rn_I xs1] M Q := by
  refine (rn_step (e := (.if_icmp .eq 127, 853, 977, 0, 0, 0, 0, [])) rfl).mpr (And.intro (fun c1 => ?_) (fun c1 => ?_))
  ·
    refine (rn_step (e := (.iinc 3 6, 980, 3, 0, 0, 0, 0, [])) rfl).mpr (rn_ci (hr1 c1).1 (hr1 c1).2 ?_)
    refine (rn_step (e := (.goto (-962), 983, 18, 0, 0, 0, 0, [])) rfl).mpr ?_
    exact (k1 c1)
  ·
    refine (rn_step (e := (.iconst 0, 854, 0, 0, 0, 0, 0, [])) rfl).mpr ?_
    exact (rn_step (e := (.ireturn, 855, 0, 0, 0, 1, 0, [])) rfl).mpr (And.intro ((Or.inl rfl)) ((k2 c1)))
set_option maxRecDepth 4000 in
theorem rb_Lw_law_869 {M : rn_M} {Q : rn_Q} {al0 : Nat} {vl1 : rn_V} {xl3 : Int} {vs0 : rn_V} {n1 : Nat} (hM : rn_sh M)  (h1 : rn_fa M al0 n1) (hr1 : (-2147483648 : Int) ≤ xl3 + 1 ∧ xl3 + 1 ≤ 2147483647 ∧ (0 : Int) ≤ xl3 + 1 ∧ xl3 + 1 < (n1 : Int) ∧ (-2147483648 : Int) ≤ xl3 + 2 ∧ xl3 + 2 ≤ 2147483647 ∧ (0 : Int) ≤ xl3 + 2 ∧ xl3 + 2 < (n1 : Int)) (k1 : rn_ME 185 [rn_R 466, rn_I (rn_gi M al0 (xl3 + 1).toNat), rn_I (rn_gi M al0 (xl3 + 2).toNat)] M (fun r M1 => rn_WP 215 883 [rn_R al0, vl1, rn_R 466, rn_I xl3] (r.toList ++ [vs0]) M1 Q)) : rn_WP 215 869 [rn_R al0, vl1, rn_R 466, rn_I xl3] [vs0] M Q := by
  refine (rn_step (e := (.aload_n 2, 870, 2, 0, 0, 0, 0, [])) rfl).mpr ?_
  refine (rn_step (e := (.aload_n 0, 871, 0, 0, 0, 0, 0, [])) rfl).mpr ?_
  refine (rn_step (e := (.iload_n 3, 872, 3, 0, 0, 0, 0, [])) rfl).mpr ?_
  refine (rn_step (e := (.iconst 1, 873, 0, 0, 0, 0, 0, [])) rfl).mpr ?_
  refine (rn_step (e := (.iadd, 874, 0, 0, 0, 0, 0, [])) rfl).mpr (rn_cw hr1.1 hr1.2.1 ?_)
  refine (rn_step (e := (.iaload, 875, 0, 0, 0, 0, 0, [])) rfl).mpr (And.intro (Or.inr h1.1) (And.intro ((And.intro (hr1.2.2.1) (rn_lt h1.2 hr1.2.2.2.1))) (?_)))
  refine (rn_step (e := (.aload_n 0, 876, 0, 0, 0, 0, 0, [])) rfl).mpr ?_
  refine (rn_step (e := (.iload_n 3, 877, 3, 0, 0, 0, 0, [])) rfl).mpr ?_
  refine (rn_step (e := (.iconst 2, 878, 0, 0, 0, 0, 0, [])) rfl).mpr ?_
  refine (rn_step (e := (.iadd, 879, 0, 0, 0, 0, 0, [])) rfl).mpr (rn_cw hr1.2.2.2.2.1 hr1.2.2.2.2.2.1 ?_)
  refine (rn_step (e := (.iaload, 880, 0, 0, 0, 0, 0, [])) rfl).mpr (And.intro (Or.inr h1.1) (And.intro ((And.intro (hr1.2.2.2.2.2.2.1) (rn_lt h1.2 hr1.2.2.2.2.2.2.2))) (?_)))
  exact (rn_step (e := (.invokevirtual 113, 883, 185, 3, 1182, 0, 11, [0])) rfl).mpr (And.intro ((rn_ks466 (M := M) hM)) (k1))
set_option maxRecDepth 4000 in
theorem rb_Lw_law_883 {M : rn_M} {Q : rn_Q} {vl0 : rn_V} {vl1 : rn_V} {vl2 : rn_V} {xl3 : Int} {xs0 : Int} {xs1 : Int}   (hr1 : (xs1 = xs0) → (-2147483648 : Int) ≤ xl3 + 6 ∧ xl3 + 6 ≤ 2147483647) (k1 : (xs1 = xs0) → rn_WP 215 18 [vl0, vl1, vl2, rn_I (xl3 + 6)] [] M Q) (k2 : (¬ (xs1 = xs0)) → Q (some (rn_I 0)) M) : rn_WP 215 883 [vl0, vl1, vl2, rn_I xl3] [rn_I xs0, rn_I xs1] M Q := by
  refine (rn_step (e := (.if_icmp .eq 94, 886, 977, 0, 0, 0, 0, [])) rfl).mpr (And.intro (fun c1 => ?_) (fun c1 => ?_))
  ·
    refine (rn_step (e := (.iinc 3 6, 980, 3, 0, 0, 0, 0, [])) rfl).mpr (rn_ci (hr1 c1).1 (hr1 c1).2 ?_)
    refine (rn_step (e := (.goto (-962), 983, 18, 0, 0, 0, 0, [])) rfl).mpr ?_
    exact (k1 c1)
  ·
    refine (rn_step (e := (.iconst 0, 887, 0, 0, 0, 0, 0, [])) rfl).mpr ?_
    exact (rn_step (e := (.ireturn, 888, 0, 0, 0, 1, 0, [])) rfl).mpr (And.intro ((Or.inl rfl)) ((k2 c1)))
set_option maxRecDepth 4000 in
theorem rb_Lw_law_902 {M : rn_M} {Q : rn_Q} {al0 : Nat} {vl1 : rn_V} {xl3 : Int} {vs0 : rn_V} {n1 : Nat} (hM : rn_sh M)  (h1 : rn_fa M al0 n1) (hr1 : (-2147483648 : Int) ≤ xl3 + 1 ∧ xl3 + 1 ≤ 2147483647 ∧ (0 : Int) ≤ xl3 + 1 ∧ xl3 + 1 < (n1 : Int) ∧ (-2147483648 : Int) ≤ xl3 + 2 ∧ xl3 + 2 ≤ 2147483647 ∧ (0 : Int) ≤ xl3 + 2 ∧ xl3 + 2 < (n1 : Int)) (k1 : rn_ME 186 [rn_R 466, rn_I (rn_gi M al0 (xl3 + 1).toNat), rn_I (rn_gi M al0 (xl3 + 2).toNat)] M (fun r M1 => rn_WP 215 916 [rn_R al0, vl1, rn_R 466, rn_I xl3] (r.toList ++ [vs0]) M1 Q)) : rn_WP 215 902 [rn_R al0, vl1, rn_R 466, rn_I xl3] [vs0] M Q := by
  refine (rn_step (e := (.aload_n 2, 903, 2, 0, 0, 0, 0, [])) rfl).mpr ?_
  refine (rn_step (e := (.aload_n 0, 904, 0, 0, 0, 0, 0, [])) rfl).mpr ?_
  refine (rn_step (e := (.iload_n 3, 905, 3, 0, 0, 0, 0, [])) rfl).mpr ?_
  refine (rn_step (e := (.iconst 1, 906, 0, 0, 0, 0, 0, [])) rfl).mpr ?_
  refine (rn_step (e := (.iadd, 907, 0, 0, 0, 0, 0, [])) rfl).mpr (rn_cw hr1.1 hr1.2.1 ?_)
  refine (rn_step (e := (.iaload, 908, 0, 0, 0, 0, 0, [])) rfl).mpr (And.intro (Or.inr h1.1) (And.intro ((And.intro (hr1.2.2.1) (rn_lt h1.2 hr1.2.2.2.1))) (?_)))
  refine (rn_step (e := (.aload_n 0, 909, 0, 0, 0, 0, 0, [])) rfl).mpr ?_
  refine (rn_step (e := (.iload_n 3, 910, 3, 0, 0, 0, 0, [])) rfl).mpr ?_
  refine (rn_step (e := (.iconst 2, 911, 0, 0, 0, 0, 0, [])) rfl).mpr ?_
  refine (rn_step (e := (.iadd, 912, 0, 0, 0, 0, 0, [])) rfl).mpr (rn_cw hr1.2.2.2.2.1 hr1.2.2.2.2.2.1 ?_)
  refine (rn_step (e := (.iaload, 913, 0, 0, 0, 0, 0, [])) rfl).mpr (And.intro (Or.inr h1.1) (And.intro ((And.intro (hr1.2.2.2.2.2.2.1) (rn_lt h1.2 hr1.2.2.2.2.2.2.2))) (?_)))
  exact (rn_step (e := (.invokevirtual 117, 916, 186, 3, 1186, 0, 11, [0])) rfl).mpr (And.intro ((rn_ks466 (M := M) hM)) (k1))
set_option maxRecDepth 4000 in
theorem rb_Lw_law_916 {M : rn_M} {Q : rn_Q} {vl0 : rn_V} {vl1 : rn_V} {vl2 : rn_V} {xl3 : Int} {xs0 : Int} {xs1 : Int}   (hr1 : (xs1 = xs0) → (-2147483648 : Int) ≤ xl3 + 6 ∧ xl3 + 6 ≤ 2147483647) (k1 : (xs1 = xs0) → rn_WP 215 18 [vl0, vl1, vl2, rn_I (xl3 + 6)] [] M Q) (k2 : (¬ (xs1 = xs0)) → Q (some (rn_I 0)) M) : rn_WP 215 916 [vl0, vl1, vl2, rn_I xl3] [rn_I xs0, rn_I xs1] M Q := by
  refine (rn_step (e := (.if_icmp .eq 61, 919, 977, 0, 0, 0, 0, [])) rfl).mpr (And.intro (fun c1 => ?_) (fun c1 => ?_))
  ·
    refine (rn_step (e := (.iinc 3 6, 980, 3, 0, 0, 0, 0, [])) rfl).mpr (rn_ci (hr1 c1).1 (hr1 c1).2 ?_)
    refine (rn_step (e := (.goto (-962), 983, 18, 0, 0, 0, 0, [])) rfl).mpr ?_
    exact (k1 c1)
  ·
    refine (rn_step (e := (.iconst 0, 920, 0, 0, 0, 0, 0, [])) rfl).mpr ?_
    exact (rn_step (e := (.ireturn, 921, 0, 0, 0, 1, 0, [])) rfl).mpr (And.intro ((Or.inl rfl)) ((k2 c1)))
set_option maxRecDepth 4000 in
theorem rb_Lw_law_935 {M : rn_M} {Q : rn_Q} {al0 : Nat} {vl1 : rn_V} {xl3 : Int} {vs0 : rn_V} {n1 : Nat} (hM : rn_sh M)  (h1 : rn_fa M al0 n1) (hr1 : (-2147483648 : Int) ≤ xl3 + 1 ∧ xl3 + 1 ≤ 2147483647 ∧ (0 : Int) ≤ xl3 + 1 ∧ xl3 + 1 < (n1 : Int) ∧ (-2147483648 : Int) ≤ xl3 + 2 ∧ xl3 + 2 ≤ 2147483647 ∧ (0 : Int) ≤ xl3 + 2 ∧ xl3 + 2 < (n1 : Int)) (k1 : rn_ME 187 [rn_R 466, rn_I (rn_gi M al0 (xl3 + 1).toNat), rn_I (rn_gi M al0 (xl3 + 2).toNat)] M (fun r M1 => rn_WP 215 949 [rn_R al0, vl1, rn_R 466, rn_I xl3] (r.toList ++ [vs0]) M1 Q)) : rn_WP 215 935 [rn_R al0, vl1, rn_R 466, rn_I xl3] [vs0] M Q := by
  refine (rn_step (e := (.aload_n 2, 936, 2, 0, 0, 0, 0, [])) rfl).mpr ?_
  refine (rn_step (e := (.aload_n 0, 937, 0, 0, 0, 0, 0, [])) rfl).mpr ?_
  refine (rn_step (e := (.iload_n 3, 938, 3, 0, 0, 0, 0, [])) rfl).mpr ?_
  refine (rn_step (e := (.iconst 1, 939, 0, 0, 0, 0, 0, [])) rfl).mpr ?_
  refine (rn_step (e := (.iadd, 940, 0, 0, 0, 0, 0, [])) rfl).mpr (rn_cw hr1.1 hr1.2.1 ?_)
  refine (rn_step (e := (.iaload, 941, 0, 0, 0, 0, 0, [])) rfl).mpr (And.intro (Or.inr h1.1) (And.intro ((And.intro (hr1.2.2.1) (rn_lt h1.2 hr1.2.2.2.1))) (?_)))
  refine (rn_step (e := (.aload_n 0, 942, 0, 0, 0, 0, 0, [])) rfl).mpr ?_
  refine (rn_step (e := (.iload_n 3, 943, 3, 0, 0, 0, 0, [])) rfl).mpr ?_
  refine (rn_step (e := (.iconst 2, 944, 0, 0, 0, 0, 0, [])) rfl).mpr ?_
  refine (rn_step (e := (.iadd, 945, 0, 0, 0, 0, 0, [])) rfl).mpr (rn_cw hr1.2.2.2.2.1 hr1.2.2.2.2.2.1 ?_)
  refine (rn_step (e := (.iaload, 946, 0, 0, 0, 0, 0, [])) rfl).mpr (And.intro (Or.inr h1.1) (And.intro ((And.intro (hr1.2.2.2.2.2.2.1) (rn_lt h1.2 hr1.2.2.2.2.2.2.2))) (?_)))
  exact (rn_step (e := (.invokevirtual 121, 949, 187, 3, 1190, 0, 11, [0])) rfl).mpr (And.intro ((rn_ks466 (M := M) hM)) (k1))
set_option maxRecDepth 4000 in
theorem rb_Lw_law_949 {M : rn_M} {Q : rn_Q} {vl0 : rn_V} {vl1 : rn_V} {vl2 : rn_V} {xl3 : Int} {xs0 : Int} {xs1 : Int}   (hr1 : (xs1 = xs0) → (-2147483648 : Int) ≤ xl3 + 6 ∧ xl3 + 6 ≤ 2147483647) (k1 : (xs1 = xs0) → rn_WP 215 18 [vl0, vl1, vl2, rn_I (xl3 + 6)] [] M Q) (k2 : (¬ (xs1 = xs0)) → Q (some (rn_I 0)) M) : rn_WP 215 949 [vl0, vl1, vl2, rn_I xl3] [rn_I xs0, rn_I xs1] M Q := by
  refine (rn_step (e := (.if_icmp .eq 28, 952, 977, 0, 0, 0, 0, [])) rfl).mpr (And.intro (fun c1 => ?_) (fun c1 => ?_))
  ·
    refine (rn_step (e := (.iinc 3 6, 980, 3, 0, 0, 0, 0, [])) rfl).mpr (rn_ci (hr1 c1).1 (hr1 c1).2 ?_)
    refine (rn_step (e := (.goto (-962), 983, 18, 0, 0, 0, 0, [])) rfl).mpr ?_
    exact (k1 c1)
  ·
    refine (rn_step (e := (.iconst 0, 953, 0, 0, 0, 0, 0, [])) rfl).mpr ?_
    exact (rn_step (e := (.ireturn, 954, 0, 0, 0, 1, 0, [])) rfl).mpr (And.intro ((Or.inl rfl)) ((k2 c1)))
set_option maxRecDepth 4000 in
theorem rb_Lw_law_963 {M : rn_M} {Q : rn_Q} {al0 : Nat} {vl1 : rn_V} {xl3 : Int} {vs0 : rn_V} {n1 : Nat} (hM : rn_sh M)  (h1 : rn_fa M al0 n1) (hr1 : (-2147483648 : Int) ≤ xl3 + 1 ∧ xl3 + 1 ≤ 2147483647 ∧ (0 : Int) ≤ xl3 + 1 ∧ xl3 + 1 < (n1 : Int)) (k1 : rn_ME 188 [rn_R 466, rn_I (rn_gi M al0 (xl3 + 1).toNat)] M (fun r M1 => rn_WP 215 972 [rn_R al0, vl1, rn_R 466, rn_I xl3] (r.toList ++ [vs0]) M1 Q)) : rn_WP 215 963 [rn_R al0, vl1, rn_R 466, rn_I xl3] [vs0] M Q := by
  refine (rn_step (e := (.aload_n 2, 964, 2, 0, 0, 0, 0, [])) rfl).mpr ?_
  refine (rn_step (e := (.aload_n 0, 965, 0, 0, 0, 0, 0, [])) rfl).mpr ?_
  refine (rn_step (e := (.iload_n 3, 966, 3, 0, 0, 0, 0, [])) rfl).mpr ?_
  refine (rn_step (e := (.iconst 1, 967, 0, 0, 0, 0, 0, [])) rfl).mpr ?_
  refine (rn_step (e := (.iadd, 968, 0, 0, 0, 0, 0, [])) rfl).mpr (rn_cw hr1.1 hr1.2.1 ?_)
  refine (rn_step (e := (.iaload, 969, 0, 0, 0, 0, 0, [])) rfl).mpr (And.intro (Or.inr h1.1) (And.intro ((And.intro (hr1.2.2.1) (rn_lt h1.2 hr1.2.2.2))) (?_)))
  exact (rn_step (e := (.invokevirtual 125, 972, 188, 2, 1194, 0, 11, [0])) rfl).mpr (And.intro ((rn_ks466 (M := M) hM)) (k1))
set_option maxRecDepth 4000 in
theorem rb_Lw_law_972 {M : rn_M} {Q : rn_Q} {vl0 : rn_V} {vl1 : rn_V} {vl2 : rn_V} {xl3 : Int} {xs0 : Int} {xs1 : Int}   (hr1 : (xs1 = xs0) → (-2147483648 : Int) ≤ xl3 + 6 ∧ xl3 + 6 ≤ 2147483647) (k1 : (xs1 = xs0) → rn_WP 215 18 [vl0, vl1, vl2, rn_I (xl3 + 6)] [] M Q) (k2 : (¬ (xs1 = xs0)) → Q (some (rn_I 0)) M) : rn_WP 215 972 [vl0, vl1, vl2, rn_I xl3] [rn_I xs0, rn_I xs1] M Q := by
  refine (rn_step (e := (.if_icmp .eq 5, 975, 977, 0, 0, 0, 0, [])) rfl).mpr (And.intro (fun c1 => ?_) (fun c1 => ?_))
  ·
    refine (rn_step (e := (.iinc 3 6, 980, 3, 0, 0, 0, 0, [])) rfl).mpr (rn_ci (hr1 c1).1 (hr1 c1).2 ?_)
    refine (rn_step (e := (.goto (-962), 983, 18, 0, 0, 0, 0, [])) rfl).mpr ?_
    exact (k1 c1)
  ·
    refine (rn_step (e := (.iconst 0, 976, 0, 0, 0, 0, 0, [])) rfl).mpr ?_
    exact (rn_step (e := (.ireturn, 977, 0, 0, 0, 1, 0, [])) rfl).mpr (And.intro ((Or.inl rfl)) ((k2 c1)))
