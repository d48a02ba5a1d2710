theorem re_Bo_init {M : rn_M} {Q : rn_Q} {v0 : rn_V} (h : rn_WP 0 0 [v0, rn_J] [] M Q) : rn_ME 0 [v0] M Q := h
set_option maxRecDepth 4000 in
theorem rb_Bo_init_0 {M : rn_M} {Q : rn_Q} {al0 : Nat} {vl1 : rn_V}  (h1 : rn_kd M al0 = 1) (h2 : rn_kd (rn_nw (rn_si M al0 3 10) 35 6) al0 = 1) (h3 : rn_kd (rn_nw (rn_sr (rn_nw (rn_si M al0 3 10) 35 6) al0 4 (some ((rn_si M al0 3 10).1.length))) 38 10) al0 = 1) (h4 : rn_kd (rn_nw (rn_sr (rn_nw (rn_sr (rn_nw (rn_si M al0 3 10) 35 6) al0 4 (some ((rn_si M al0 3 10).1.length))) 38 10) al0 5 (some ((rn_sr (rn_nw (rn_si M al0 3 10) 35 6) al0 4 (some ((rn_si M al0 3 10).1.length))).1.length))) 33 20) al0 = 1) (hr1 : 1 ≤ (rn_si M al0 3 10).2.1.1 ∧ 6 ≤ (rn_si M al0 3 10).2.1.2 ∧ 1 ≤ (rn_sr (rn_nw (rn_si M al0 3 10) 35 6) al0 4 (some ((rn_si M al0 3 10).1.length))).2.1.1 ∧ 10 ≤ (rn_sr (rn_nw (rn_si M al0 3 10) 35 6) al0 4 (some ((rn_si M al0 3 10).1.length))).2.1.2 ∧ 1 ≤ (rn_sr (rn_nw (rn_sr (rn_nw (rn_si M al0 3 10) 35 6) al0 4 (some ((rn_si M al0 3 10).1.length))) 38 10) al0 5 (some ((rn_sr (rn_nw (rn_si M al0 3 10) 35 6) al0 4 (some ((rn_si M al0 3 10).1.length))).1.length))).2.1.1 ∧ 20 ≤ (rn_sr (rn_nw (rn_sr (rn_nw (rn_si M al0 3 10) 35 6) al0 4 (some ((rn_si M al0 3 10).1.length))) 38 10) al0 5 (some ((rn_sr (rn_nw (rn_si M al0 3 10) 35 6) al0 4 (some ((rn_si M al0 3 10).1.length))).1.length))).2.1.2) (k1 : rn_WP 0 39 [rn_R al0, rn_I 0] [] (rn_sr (rn_nw (rn_sr (rn_nw (rn_sr (rn_nw (rn_si M al0 3 10) 35 6) al0 4 (some ((rn_si M al0 3 10).1.length))) 38 10) al0 5 (some ((rn_sr (rn_nw (rn_si M al0 3 10) 35 6) al0 4 (some ((rn_si M al0 3 10).1.length))).1.length))) 33 20) al0 6 (some ((rn_sr (rn_nw (rn_sr (rn_nw (rn_si M al0 3 10) 35 6) al0 4 (some ((rn_si M al0 3 10).1.length))) 38 10) al0 5 (some ((rn_sr (rn_nw (rn_si M al0 3 10) 35 6) al0 4 (some ((rn_si M al0 3 10).1.length))).1.length))).1.length))) Q) : rn_WP 0 0 [rn_R al0, vl1] [] M Q := by
  refine (rn_step (e := (.aload_n 0, 1, 0, 0, 0, 0, 0, [])) rfl).mpr ?_
  refine (rn_step (e := (.invokespecial 3, 4, 1000, 1, 83, 2, 0, [0])) rfl).mpr ?_
  refine (rn_step (e := (.aload_n 0, 5, 0, 0, 0, 0, 0, [])) rfl).mpr ?_
  refine (rn_step (e := (.bipush 10, 7, 0, 0, 0, 0, 0, [])) rfl).mpr ?_
  refine (rn_step (e := (.putfield 9, 10, 0, 3, 191, 0, 1, [])) rfl).mpr (And.intro (h1) (?_))
  refine (rn_step (e := (.aload_n 0, 11, 0, 0, 0, 0, 0, [])) rfl).mpr ?_
  refine (rn_step (e := (.bipush 6, 13, 0, 0, 0, 0, 0, [])) rfl).mpr ?_
  refine (rn_step (e := (.anewarray 15, 16, 5, 0, 84, 0, 0, [])) rfl).mpr (And.intro (by decide) (And.intro (by decide) (And.intro (hr1.1) (And.intro (hr1.2.1) (?_)))))
  refine (rn_step (e := (.putfield 17, 19, 0, 4, 194, 2, 1, [])) rfl).mpr (And.intro (h2) (?_))
  refine (rn_step (e := (.aload_n 0, 20, 0, 0, 0, 0, 0, [])) rfl).mpr ?_
  refine (rn_step (e := (.bipush 10, 22, 0, 0, 0, 0, 0, [])) rfl).mpr ?_
  refine (rn_step (e := (.anewarray 21, 25, 8, 0, 86, 0, 0, [])) rfl).mpr (And.intro (by decide) (And.intro (by decide) (And.intro (hr1.2.2.1) (And.intro (hr1.2.2.2.1) (?_)))))
  refine (rn_step (e := (.putfield 23, 28, 0, 5, 195, 2, 1, [])) rfl).mpr (And.intro (h3) (?_))
  refine (rn_step (e := (.aload_n 0, 29, 0, 0, 0, 0, 0, [])) rfl).mpr ?_
  refine (rn_step (e := (.bipush 20, 31, 0, 0, 0, 0, 0, [])) rfl).mpr ?_
  refine (rn_step (e := (.anewarray 27, 34, 3, 0, 88, 0, 0, [])) rfl).mpr (And.intro (by decide) (And.intro (by decide) (And.intro (hr1.2.2.2.2.1) (And.intro (hr1.2.2.2.2.2) (?_)))))
  refine (rn_step (e := (.putfield 29, 37, 0, 6, 196, 2, 1, [])) rfl).mpr (And.intro (h4) (?_))
  refine (rn_step (e := (.iconst 0, 38, 0, 0, 0, 0, 0, [])) rfl).mpr ?_
  refine (rn_step (e := (.istore_n 1, 39, 1, 0, 0, 0, 0, [])) rfl).mpr ?_
  exact k1
set_option maxRecDepth 4000 in
theorem rb_Bo_init_39 {M : rn_M} {Q : rn_Q} {al0 : Nat} {xl1 : Int} {g1 : Nat}  (h1 : rn_kd M al0 = 1) (h2 : rn_gr M al0 4 = some g1) (h3 : rn_kd (rn_nw M 6 9) M.1.length = 6) (hr1 : (xl1 < 6) → 1 ≤ M.2.1.1 ∧ 9 ≤ M.2.1.2) (k1 : (xl1 < 6) → 4 ≤ (rn_nw M 6 9).2.1.1 ∧ 400 ≤ (rn_nw M 6 9).2.1.2 ∧ rn_ME 57 [rn_R M.1.length, rn_I xl1] (rn_sb (rn_nw M 6 9) 4 400) (fun r M1 => rn_WP 0 58 [rn_R al0, rn_I xl1] (r.toList ++ [rn_R M.1.length, rn_I xl1, rn_R g1]) (rn_sb M1 ((rn_nw M 6 9).2.1.1 - 4) ((rn_nw M 6 9).2.1.2 - 400)) Q)) (k2 : (¬ (xl1 < 6)) → rn_WP 0 67 [rn_R al0, rn_I 0] [] M Q) : rn_WP 0 39 [rn_R al0, rn_I xl1] [] M Q := by
  refine (rn_step (e := (.iload_n 1, 40, 1, 0, 0, 0, 0, [])) rfl).mpr ?_
  refine (rn_step (e := (.bipush 6, 42, 0, 0, 0, 0, 0, [])) rfl).mpr ?_
  refine (rn_step (e := (.if_icmp .ge 23, 45, 65, 0, 0, 0, 0, [])) rfl).mpr (And.intro (fun c1 => ?_) (fun c1 => ?_))
  ·
    refine (rn_step (e := (.aload_n 0, 46, 0, 0, 0, 0, 0, [])) rfl).mpr ?_
    refine (rn_step (e := (.getfield 17, 49, 0, 4, 194, 2, 1, [])) rfl).mpr (And.intro (h1) (rn_cg h2 ?_))
    refine (rn_step (e := (.iload_n 1, 50, 1, 0, 0, 0, 0, [])) rfl).mpr ?_
    refine (rn_step (e := (.new 15, 53, 5, 0, 84, 0, 0, [])) rfl).mpr (And.intro ((hr1 c1).1) (And.intro ((hr1 c1).2) (?_)))
    refine (rn_step (e := (.dup, 54, 0, 0, 0, 0, 0, [])) rfl).mpr ?_
    refine (rn_step (e := (.iload_n 1, 55, 1, 0, 0, 0, 0, [])) rfl).mpr ?_
    exact (rn_step (e := (.invokespecial 33, 58, 57, 2, 91, 4, 6, [0])) rfl).mpr (And.intro (h3) ((k1 c1)))
  ·
    refine (rn_step (e := (.iconst 0, 66, 0, 0, 0, 0, 0, [])) rfl).mpr ?_
    refine (rn_step (e := (.istore_n 1, 67, 1, 0, 0, 0, 0, [])) rfl).mpr ?_
    exact (k2 c1)
set_option maxRecDepth 4000 in
theorem rb_Bo_init_58 {M : rn_M} {Q : rn_Q} {vl0 : rn_V} {xl1 : Int} {as0 : Nat} {xs1 : Int} {as2 : Nat} {n1 : Nat} {c2 : Nat}  (h1 : rn_qa M as2 c2 n1) (h2 : rn_kd M as0 = c2 + 1) (hr1 : (0 : Int) ≤ xs1 ∧ xs1 < (n1 : Int) ∧ (-2147483648 : Int) ≤ xl1 + 1 ∧ xl1 + 1 ≤ 2147483647) (k1 : rn_WP 0 39 [vl0, rn_I (xl1 + 1)] [] (rn_sr M as2 (xs1).toNat (some as0)) Q) : rn_WP 0 58 [vl0, rn_I xl1] [rn_R as0, rn_I xs1, rn_R as2] M Q := by
  refine (rn_step (e := (.aastore, 59, 0, 0, 0, 0, 0, [])) rfl).mpr (And.intro (rn_q30 h1.1) (And.intro (rn_q29 h1.1 h2) (And.intro ((And.intro (hr1.1) (rn_lt h1.2 hr1.2.1))) (?_))))
  refine (rn_step (e := (.iinc 1 1, 62, 1, 0, 0, 0, 0, [])) rfl).mpr (rn_ci hr1.2.2.1 hr1.2.2.2 ?_)
  refine (rn_step (e := (.goto (-23), 65, 39, 0, 0, 0, 0, [])) rfl).mpr ?_
  exact k1
set_option maxRecDepth 4000 in
theorem rb_Bo_init_67 {M : rn_M} {Q : rn_Q} {al0 : Nat} {xl1 : Int} {g1 : Nat}  (h1 : rn_kd M al0 = 1) (h2 : rn_gr M al0 5 = some g1) (h3 : rn_kd (rn_nw M 9 5) M.1.length = 9) (hr1 : (xl1 < 10) → 1 ≤ M.2.1.1 ∧ 5 ≤ M.2.1.2) (k1 : (xl1 < 10) → rn_ME 86 [rn_R M.1.length] (rn_nw M 9 5) (fun r M1 => rn_WP 0 85 [rn_R al0, rn_I xl1] (r.toList ++ [rn_R M.1.length, rn_I xl1, rn_R g1]) M1 Q)) (k2 : (¬ (xl1 < 10)) → rn_WP 0 94 [rn_R al0, rn_I 0] [] M Q) : rn_WP 0 67 [rn_R al0, rn_I xl1] [] M Q := by
  refine (rn_step (e := (.iload_n 1, 68, 1, 0, 0, 0, 0, [])) rfl).mpr ?_
  refine (rn_step (e := (.bipush 10, 70, 0, 0, 0, 0, 0, [])) rfl).mpr ?_
  refine (rn_step (e := (.if_icmp .ge 22, 73, 92, 0, 0, 0, 0, [])) rfl).mpr (And.intro (fun c1 => ?_) (fun c1 => ?_))
  ·
    refine (rn_step (e := (.aload_n 0, 74, 0, 0, 0, 0, 0, [])) rfl).mpr ?_
    refine (rn_step (e := (.getfield 23, 77, 0, 5, 195, 2, 1, [])) rfl).mpr (And.intro (h1) (rn_cg h2 ?_))
    refine (rn_step (e := (.iload_n 1, 78, 1, 0, 0, 0, 0, [])) rfl).mpr ?_
    refine (rn_step (e := (.new 21, 81, 8, 0, 86, 0, 0, [])) rfl).mpr (And.intro ((hr1 c1).1) (And.intro ((hr1 c1).2) (?_)))
    refine (rn_step (e := (.dup, 82, 0, 0, 0, 0, 0, [])) rfl).mpr ?_
    exact (rn_step (e := (.invokespecial 36, 85, 86, 1, 2, 0, 9, [1])) rfl).mpr (And.intro (h3) ((k1 c1)))
  ·
    refine (rn_step (e := (.iconst 0, 93, 0, 0, 0, 0, 0, [])) rfl).mpr ?_
    refine (rn_step (e := (.istore_n 1, 94, 1, 0, 0, 0, 0, [])) rfl).mpr ?_
    exact (k2 c1)
set_option maxRecDepth 4000 in
theorem rb_Bo_init_85 {M : rn_M} {Q : rn_Q} {vl0 : rn_V} {xl1 : Int} {as0 : Nat} {xs1 : Int} {as2 : Nat} {n1 : Nat} {c2 : Nat}  (h1 : rn_qa M as2 c2 n1) (h2 : rn_kd M as0 = c2 + 1) (hr1 : (0 : Int) ≤ xs1 ∧ xs1 < (n1 : Int) ∧ (-2147483648 : Int) ≤ xl1 + 1 ∧ xl1 + 1 ≤ 2147483647) (k1 : rn_WP 0 67 [vl0, rn_I (xl1 + 1)] [] (rn_sr M as2 (xs1).toNat (some as0)) Q) : rn_WP 0 85 [vl0, rn_I xl1] [rn_R as0, rn_I xs1, rn_R as2] M Q := by
  refine (rn_step (e := (.aastore, 86, 0, 0, 0, 0, 0, [])) rfl).mpr (And.intro (rn_q30 h1.1) (And.intro (rn_q29 h1.1 h2) (And.intro ((And.intro (hr1.1) (rn_lt h1.2 hr1.2.1))) (?_))))
  refine (rn_step (e := (.iinc 1 1, 89, 1, 0, 0, 0, 0, [])) rfl).mpr (rn_ci hr1.2.2.1 hr1.2.2.2 ?_)
  refine (rn_step (e := (.goto (-22), 92, 67, 0, 0, 0, 0, [])) rfl).mpr ?_
  exact k1
set_option maxRecDepth 4000 in
theorem rb_Bo_init_94 {M : rn_M} {Q : rn_Q} {al0 : Nat} {xl1 : Int} {g1 : Nat} {g2 : Nat} {n3 : Nat} {c4 : Nat} {g5 : Nat}  (h1 : rn_kd M al0 = 1) (h2 : rn_gr M al0 6 = some g1) (h3 : rn_kd (rn_nw M 4 2) al0 = 1) (h4 : rn_gr (rn_nw M 4 2) al0 4 = some g2) (h5 : rn_qa (rn_nw M 4 2) g2 c4 n3) (h6 : rn_gr (rn_nw M 4 2) g2 0 = some g5) (h7 : rn_kd (rn_nw M 4 2) M.1.length = 4) (hr1 : (xl1 < 20) → 1 ≤ M.2.1.1 ∧ 2 ≤ M.2.1.2 ∧ 0 < (n3 : Int)) (k1 : (xl1 < 20) → rn_ME 40 [rn_R M.1.length, rn_R g5] (rn_nw M 4 2) (fun r M1 => rn_WP 0 118 [rn_R al0, rn_I xl1] (r.toList ++ [rn_R M.1.length, rn_I xl1, rn_R g1]) M1 Q)) (k2 : (¬ (xl1 < 20)) → Q none M) : rn_WP 0 94 [rn_R al0, rn_I xl1] [] M Q := by
  refine (rn_step (e := (.iload_n 1, 95, 1, 0, 0, 0, 0, [])) rfl).mpr ?_
  refine (rn_step (e := (.bipush 20, 97, 0, 0, 0, 0, 0, [])) rfl).mpr ?_
  refine (rn_step (e := (.if_icmp .ge 28, 100, 125, 0, 0, 0, 0, [])) rfl).mpr (And.intro (fun c1 => ?_) (fun c1 => ?_))
  ·
    refine (rn_step (e := (.aload_n 0, 101, 0, 0, 0, 0, 0, [])) rfl).mpr ?_
    refine (rn_step (e := (.getfield 29, 104, 0, 6, 196, 2, 1, [])) rfl).mpr (And.intro (h1) (rn_cg h2 ?_))
    refine (rn_step (e := (.iload_n 1, 105, 1, 0, 0, 0, 0, [])) rfl).mpr ?_
    refine (rn_step (e := (.new 27, 108, 3, 0, 88, 0, 0, [])) rfl).mpr (And.intro ((hr1 c1).1) (And.intro ((hr1 c1).2.1) (?_)))
    refine (rn_step (e := (.dup, 109, 0, 0, 0, 0, 0, [])) rfl).mpr ?_
    refine (rn_step (e := (.aload_n 0, 110, 0, 0, 0, 0, 0, [])) rfl).mpr ?_
    refine (rn_step (e := (.getfield 17, 113, 0, 4, 194, 2, 1, [])) rfl).mpr (And.intro (h3) (rn_cg h4 ?_))
    refine (rn_step (e := (.iconst 0, 114, 0, 0, 0, 0, 0, [])) rfl).mpr ?_
    refine (rn_step (e := (.aaload, 115, 0, 0, 0, 0, 0, [])) rfl).mpr (And.intro (rn_q30 h5.1) (And.intro ((And.intro ((by decide)) (rn_lt h5.2 (hr1 c1).2.2))) (rn_cg h6 ?_)))
    exact (rn_step (e := (.invokespecial 37, 118, 40, 2, 165, 0, 4, [0])) rfl).mpr (And.intro (h7) ((k1 c1)))
  ·
    exact (rn_step (e := (.return_, 126, 0, 0, 0, 0, 0, [])) rfl).mpr (k2 c1)
set_option maxRecDepth 4000 in
theorem rb_Bo_init_118 {M : rn_M} {Q : rn_Q} {vl0 : rn_V} {xl1 : Int} {as0 : Nat} {xs1 : Int} {as2 : Nat} {n1 : Nat} {c2 : Nat}  (h1 : rn_qa M as2 c2 n1) (h2 : rn_kd M as0 = c2 + 1) (hr1 : (0 : Int) ≤ xs1 ∧ xs1 < (n1 : Int) ∧ (-2147483648 : Int) ≤ xl1 + 1 ∧ xl1 + 1 ≤ 2147483647) (k1 : rn_WP 0 94 [vl0, rn_I (xl1 + 1)] [] (rn_sr M as2 (xs1).toNat (some as0)) Q) : rn_WP 0 118 [vl0, rn_I xl1] [rn_R as0, rn_I xs1, rn_R as2] M Q := by
  refine (rn_step (e := (.aastore, 119, 0, 0, 0, 0, 0, [])) rfl).mpr (And.intro (rn_q30 h1.1) (And.intro (rn_q29 h1.1 h2) (And.intro ((And.intro (hr1.1) (rn_lt h1.2 hr1.2.1))) (?_))))
  refine (rn_step (e := (.iinc 1 1, 122, 1, 0, 0, 0, 0, [])) rfl).mpr (rn_ci hr1.2.2.1 hr1.2.2.2 ?_)
  refine (rn_step (e := (.goto (-28), 125, 94, 0, 0, 0, 0, [])) rfl).mpr ?_
  exact k1
theorem re_Hi_init {M : rn_M} {Q : rn_Q} {v0 : rn_V} (h : rn_WP 19 0 [v0, rn_J] [] M Q) : rn_ME 19 [v0] M Q := h
set_option maxRecDepth 4000 in
theorem rb_Hi_init_0 {M : rn_M} {Q : rn_Q} {al0 : Nat} {vl1 : rn_V}  (h1 : rn_kd (rn_nw M 30 5) al0 = 2) (h2 : rn_kd (rn_nw (rn_sr (rn_nw M 30 5) al0 1 (some M.1.length)) 1 7) ((rn_sr (rn_nw M 30 5) al0 1 (some M.1.length)).1.length) = 1) (hr1 : 1 ≤ M.2.1.1 ∧ 5 ≤ M.2.1.2 ∧ 1 ≤ (rn_sr (rn_nw M 30 5) al0 1 (some M.1.length)).2.1.1 ∧ 7 ≤ (rn_sr (rn_nw M 30 5) al0 1 (some M.1.length)).2.1.2) (k1 : 63 ≤ (rn_nw (rn_sr (rn_nw M 30 5) al0 1 (some M.1.length)) 1 7).2.1.1 ∧ 3000 ≤ (rn_nw (rn_sr (rn_nw M 30 5) al0 1 (some M.1.length)) 1 7).2.1.2 ∧ rn_ME 0 [rn_R ((rn_sr (rn_nw M 30 5) al0 1 (some M.1.length)).1.length)] (rn_sb (rn_nw (rn_sr (rn_nw M 30 5) al0 1 (some M.1.length)) 1 7) 63 3000) (fun r M1 => rn_WP 19 20 [rn_R al0, vl1] (r.toList ++ [rn_R ((rn_sr (rn_nw M 30 5) al0 1 (some M.1.length)).1.length), rn_R al0]) (rn_sb M1 ((rn_nw (rn_sr (rn_nw M 30 5) al0 1 (some M.1.length)) 1 7).2.1.1 - 63) ((rn_nw (rn_sr (rn_nw M 30 5) al0 1 (some M.1.length)) 1 7).2.1.2 - 3000)) Q)) : rn_WP 19 0 [rn_R al0, vl1] [] M Q := by
  refine (rn_step (e := (.aload_n 0, 1, 0, 0, 0, 0, 0, [])) rfl).mpr ?_
  refine (rn_step (e := (.invokespecial 3, 4, 1000, 1, 76, 2, 0, [0])) rfl).mpr ?_
  refine (rn_step (e := (.aload_n 0, 5, 0, 0, 0, 0, 0, [])) rfl).mpr ?_
  refine (rn_step (e := (.iconst 5, 6, 0, 0, 0, 0, 0, [])) rfl).mpr ?_
  refine (rn_step (e := (.anewarray 9, 9, 0, 0, 77, 0, 0, [])) rfl).mpr (And.intro (by decide) (And.intro (by decide) (And.intro (hr1.1) (And.intro (hr1.2.1) (?_)))))
  refine (rn_step (e := (.putfield 11, 12, 1, 1, 214, 2, 2, [])) rfl).mpr (And.intro (h1) (?_))
  refine (rn_step (e := (.aload_n 0, 13, 0, 0, 0, 0, 0, [])) rfl).mpr ?_
  refine (rn_step (e := (.new 9, 16, 0, 0, 77, 0, 0, [])) rfl).mpr (And.intro (hr1.2.2.1) (And.intro (hr1.2.2.2) (?_)))
  refine (rn_step (e := (.dup, 17, 0, 0, 0, 0, 0, [])) rfl).mpr ?_
  exact (rn_step (e := (.invokespecial 17, 20, 0, 1, 80, 4, 1, [0])) rfl).mpr (And.intro (h2) (k1))
set_option maxRecDepth 4000 in
theorem rb_Hi_init_20 {M : rn_M} {Q : rn_Q} {rl0 : Option Nat} {vl1 : rn_V} {rs0 : Option Nat} {as1 : Nat}  (h1 : rn_kd M as1 = 2) (h2 : rn_kd (rn_nw (rn_sr M as1 2 rs0) 1 7) ((rn_sr M as1 2 rs0).1.length) = 1) (hr1 : 1 ≤ (rn_sr M as1 2 rs0).2.1.1 ∧ 7 ≤ (rn_sr M as1 2 rs0).2.1.2) (k1 : 63 ≤ (rn_nw (rn_sr M as1 2 rs0) 1 7).2.1.1 ∧ 3000 ≤ (rn_nw (rn_sr M as1 2 rs0) 1 7).2.1.2 ∧ rn_ME 0 [rn_R ((rn_sr M as1 2 rs0).1.length)] (rn_sb (rn_nw (rn_sr M as1 2 rs0) 1 7) 63 3000) (fun r M1 => rn_WP 19 31 [.inr (.inl (some rl0)), vl1] (r.toList ++ [rn_R ((rn_sr M as1 2 rs0).1.length), .inr (.inl (some rl0))]) (rn_sb M1 ((rn_nw (rn_sr M as1 2 rs0) 1 7).2.1.1 - 63) ((rn_nw (rn_sr M as1 2 rs0) 1 7).2.1.2 - 3000)) Q)) : rn_WP 19 20 [.inr (.inl (some rl0)), vl1] [.inr (.inl (some rs0)), rn_R as1] M Q := by
  refine (rn_step (e := (.putfield 18, 23, 1, 2, 215, 2, 2, [])) rfl).mpr (And.intro (h1) (?_))
  refine (rn_step (e := (.aload_n 0, 24, 0, 0, 0, 0, 0, [])) rfl).mpr ?_
  refine (rn_step (e := (.new 9, 27, 0, 0, 77, 0, 0, [])) rfl).mpr (And.intro (hr1.1) (And.intro (hr1.2) (?_)))
  refine (rn_step (e := (.dup, 28, 0, 0, 0, 0, 0, [])) rfl).mpr ?_
  exact (rn_step (e := (.invokespecial 17, 31, 0, 1, 80, 4, 1, [0])) rfl).mpr (And.intro (h2) (k1))
set_option maxRecDepth 4000 in
theorem rb_Hi_init_31 {M : rn_M} {Q : rn_Q} {vl0 : rn_V} {vl1 : rn_V} {rs0 : Option Nat} {as1 : Nat}  (h1 : rn_kd M as1 = 2) (k1 : rn_WP 19 36 [vl0, rn_I 0] [] (rn_sr M as1 3 rs0) Q) : rn_WP 19 31 [vl0, vl1] [.inr (.inl (some rs0)), rn_R as1] M Q := by
  refine (rn_step (e := (.putfield 22, 34, 1, 3, 216, 2, 2, [])) rfl).mpr (And.intro (h1) (?_))
  refine (rn_step (e := (.iconst 0, 35, 0, 0, 0, 0, 0, [])) rfl).mpr ?_
  refine (rn_step (e := (.istore_n 1, 36, 1, 0, 0, 0, 0, [])) rfl).mpr ?_
  exact k1
set_option maxRecDepth 4000 in
theorem rb_Hi_init_36 {M : rn_M} {Q : rn_Q} {al0 : Nat} {xl1 : Int} {g1 : Nat}  (h1 : rn_kd M al0 = 2) (h2 : rn_gr M al0 1 = some g1) (h3 : rn_kd (rn_nw M 1 7) M.1.length = 1) (hr1 : (xl1 < 5) → 1 ≤ M.2.1.1 ∧ 7 ≤ M.2.1.2) (k1 : (xl1 < 5) → 63 ≤ (rn_nw M 1 7).2.1.1 ∧ 3000 ≤ (rn_nw M 1 7).2.1.2 ∧ rn_ME 0 [rn_R M.1.length] (rn_sb (rn_nw M 1 7) 63 3000) (fun r M1 => rn_WP 19 53 [rn_R al0, rn_I xl1] (r.toList ++ [rn_R M.1.length, rn_I xl1, rn_R g1]) (rn_sb M1 ((rn_nw M 1 7).2.1.1 - 63) ((rn_nw M 1 7).2.1.2 - 3000)) Q)) (k2 : (¬ (xl1 < 5)) → Q none M) : rn_WP 19 36 [rn_R al0, rn_I xl1] [] M Q := by
  refine (rn_step (e := (.iload_n 1, 37, 1, 0, 0, 0, 0, [])) rfl).mpr ?_
  refine (rn_step (e := (.iconst 5, 38, 0, 0, 0, 0, 0, [])) rfl).mpr ?_
  refine (rn_step (e := (.if_icmp .ge 22, 41, 60, 0, 0, 0, 0, [])) rfl).mpr (And.intro (fun c1 => ?_) (fun c1 => ?_))
  ·
    refine (rn_step (e := (.aload_n 0, 42, 0, 0, 0, 0, 0, [])) rfl).mpr ?_
    refine (rn_step (e := (.getfield 11, 45, 1, 1, 214, 2, 2, [])) rfl).mpr (And.intro (h1) (rn_cg h2 ?_))
    refine (rn_step (e := (.iload_n 1, 46, 1, 0, 0, 0, 0, [])) rfl).mpr ?_
    refine (rn_step (e := (.new 9, 49, 0, 0, 77, 0, 0, [])) rfl).mpr (And.intro ((hr1 c1).1) (And.intro ((hr1 c1).2) (?_)))
    refine (rn_step (e := (.dup, 50, 0, 0, 0, 0, 0, [])) rfl).mpr ?_
    exact (rn_step (e := (.invokespecial 17, 53, 0, 1, 80, 4, 1, [0])) rfl).mpr (And.intro (h3) ((k1 c1)))
  ·
    exact (rn_step (e := (.return_, 61, 0, 0, 0, 0, 0, [])) rfl).mpr (k2 c1)
set_option maxRecDepth 4000 in
theorem rb_Hi_init_53 {M : rn_M} {Q : rn_Q} {vl0 : rn_V} {xl1 : Int} {as0 : Nat} {xs1 : Int} {as2 : Nat} {n1 : Nat} {c2 : Nat}  (h1 : rn_qa M as2 c2 n1) (h2 : rn_kd M as0 = c2 + 1) (hr1 : (0 : Int) ≤ xs1 ∧ xs1 < (n1 : Int) ∧ (-2147483648 : Int) ≤ xl1 + 1 ∧ xl1 + 1 ≤ 2147483647) (k1 : rn_WP 19 36 [vl0, rn_I (xl1 + 1)] [] (rn_sr M as2 (xs1).toNat (some as0)) Q) : rn_WP 19 53 [vl0, rn_I xl1] [rn_R as0, rn_I xs1, rn_R as2] M Q := by
  refine (rn_step (e := (.aastore, 54, 0, 0, 0, 0, 0, [])) rfl).mpr (And.intro (rn_q30 h1.1) (And.intro (rn_q29 h1.1 h2) (And.intro ((And.intro (hr1.1) (rn_lt h1.2 hr1.2.1))) (?_))))
  refine (rn_step (e := (.iinc 1 1, 57, 1, 0, 0, 0, 0, [])) rfl).mpr (rn_ci hr1.2.2.1 hr1.2.2.2 ?_)
  refine (rn_step (e := (.goto (-21), 60, 36, 0, 0, 0, 0, [])) rfl).mpr ?_
  exact k1
theorem re_Ju_init {M : rn_M} {Q : rn_Q} {v0 : rn_V} (h : rn_WP 25 0 [v0] [] M Q) : rn_ME 25 [v0] M Q := h
set_option maxRecDepth 4000 in
theorem rb_Ju_init_0 {M : rn_M} {Q : rn_Q} {al0 : Nat}  (h1 : rn_kd (rn_nw M 20 61) al0 = 3) (hr1 : 1 ≤ M.2.1.1 ∧ 61 ≤ M.2.1.2) (k1 : Q none (rn_sr (rn_nw M 20 61) al0 0 (some M.1.length))) : rn_WP 25 0 [rn_R al0] [] M Q := by
  refine (rn_step (e := (.aload_n 0, 1, 0, 0, 0, 0, 0, [])) rfl).mpr ?_
  refine (rn_step (e := (.invokespecial 3, 4, 1000, 1, 231, 2, 0, [0])) rfl).mpr ?_
  refine (rn_step (e := (.aload_n 0, 5, 0, 0, 0, 0, 0, [])) rfl).mpr ?_
  refine (rn_step (e := (.bipush 61, 7, 0, 0, 0, 0, 0, [])) rfl).mpr ?_
  refine (rn_step (e := (.newarray .int, 9, 0, 0, 0, 0, 0, [])) rfl).mpr (And.intro (by decide) (And.intro (by decide) (And.intro (hr1.1) (And.intro (hr1.2) (?_)))))
  refine (rn_step (e := (.putfield 9, 12, 2, 0, 232, 2, 3, [])) rfl).mpr (And.intro (h1) (?_))
  exact (rn_step (e := (.return_, 13, 0, 0, 0, 0, 0, [])) rfl).mpr k1
theorem re_Re_init {M : rn_M} {Q : rn_Q} {v0 : rn_V} (h : rn_WP 45 0 [v0] [] M Q) : rn_ME 45 [v0] M Q := h
set_option maxRecDepth 4000 in
theorem rb_Re_init_0 {M : rn_M} {Q : rn_Q} {al0 : Nat}  (h1 : rn_kd (rn_nw M 8 2) M.1.length = 8) (hr1 : 1 ≤ M.2.1.1 ∧ 2 ≤ M.2.1.2) (k1 : 1 ≤ (rn_nw M 8 2).2.1.1 ∧ 150 ≤ (rn_nw M 8 2).2.1.2 ∧ rn_ME 82 [rn_R M.1.length] (rn_sb (rn_nw M 8 2) 1 150) (fun r M1 => rn_WP 45 12 [rn_R al0] (r.toList ++ [rn_R M.1.length, rn_R al0]) (rn_sb M1 ((rn_nw M 8 2).2.1.1 - 1) ((rn_nw M 8 2).2.1.2 - 150)) Q)) : rn_WP 45 0 [rn_R al0] [] M Q := by
  refine (rn_step (e := (.aload_n 0, 1, 0, 0, 0, 0, 0, [])) rfl).mpr ?_
  refine (rn_step (e := (.invokespecial 3, 4, 1000, 1, 42, 2, 0, [0])) rfl).mpr ?_
  refine (rn_step (e := (.aload_n 0, 5, 0, 0, 0, 0, 0, [])) rfl).mpr ?_
  refine (rn_step (e := (.new 9, 8, 7, 0, 43, 0, 0, [])) rfl).mpr (And.intro (hr1.1) (And.intro (hr1.2) (?_)))
  refine (rn_step (e := (.dup, 9, 0, 0, 0, 0, 0, [])) rfl).mpr ?_
  exact (rn_step (e := (.invokespecial 11, 12, 82, 1, 1, 4, 8, [1])) rfl).mpr (And.intro (h1) (k1))
set_option maxRecDepth 4000 in
theorem rb_Re_init_12 {M : rn_M} {Q : rn_Q} {vl0 : rn_V} {rs0 : Option Nat} {as1 : Nat}  (h1 : rn_kd M as1 = 5) (k1 : Q none (rn_sr M as1 0 rs0)) : rn_WP 45 12 [vl0] [.inr (.inl (some rs0)), rn_R as1] M Q := by
  refine (rn_step (e := (.putfield 12, 15, 4, 0, 58, 2, 5, [])) rfl).mpr (And.intro (h1) (?_))
  exact (rn_step (e := (.return_, 16, 0, 0, 0, 0, 0, [])) rfl).mpr k1
theorem re_Ri_init {M : rn_M} {Q : rn_Q} {v0 v1 : rn_V} (h : rn_WP 57 0 [v0, v1] [] M Q) : rn_ME 57 [v0, v1] M Q := h
set_option maxRecDepth 4000 in
theorem rb_Ri_init_0 {M : rn_M} {Q : rn_Q} {al0 : Nat} {xl1 : Int}  (h1 : rn_kd (rn_nw M 20 12) al0 = 6) (h2 : rn_kd (rn_nw (rn_sr (rn_nw M 20 12) al0 5 (some M.1.length)) 20 60) al0 = 6) (h3 : rn_kd (rn_nw (rn_sr (rn_nw (rn_sr (rn_nw M 20 12) al0 5 (some M.1.length)) 20 60) al0 6 (some ((rn_sr (rn_nw M 20 12) al0 5 (some M.1.length)).1.length))) 20 61) al0 = 6) (h4 : rn_kd (rn_nw (rn_sr (rn_nw (rn_sr (rn_nw (rn_sr (rn_nw M 20 12) al0 5 (some M.1.length)) 20 60) al0 6 (some ((rn_sr (rn_nw M 20 12) al0 5 (some M.1.length)).1.length))) 20 61) al0 7 (some ((rn_sr (rn_nw (rn_sr (rn_nw M 20 12) al0 5 (some M.1.length)) 20 60) al0 6 (some ((rn_sr (rn_nw M 20 12) al0 5 (some M.1.length)).1.length))).1.length))) 20 61) al0 = 6) (hr1 : 1 ≤ M.2.1.1 ∧ 12 ≤ M.2.1.2 ∧ 1 ≤ (rn_sr (rn_nw M 20 12) al0 5 (some M.1.length)).2.1.1 ∧ 60 ≤ (rn_sr (rn_nw M 20 12) al0 5 (some M.1.length)).2.1.2 ∧ 1 ≤ (rn_sr (rn_nw (rn_sr (rn_nw M 20 12) al0 5 (some M.1.length)) 20 60) al0 6 (some ((rn_sr (rn_nw M 20 12) al0 5 (some M.1.length)).1.length))).2.1.1 ∧ 61 ≤ (rn_sr (rn_nw (rn_sr (rn_nw M 20 12) al0 5 (some M.1.length)) 20 60) al0 6 (some ((rn_sr (rn_nw M 20 12) al0 5 (some M.1.length)).1.length))).2.1.2 ∧ 1 ≤ (rn_sr (rn_nw (rn_sr (rn_nw (rn_sr (rn_nw M 20 12) al0 5 (some M.1.length)) 20 60) al0 6 (some ((rn_sr (rn_nw M 20 12) al0 5 (some M.1.length)).1.length))) 20 61) al0 7 (some ((rn_sr (rn_nw (rn_sr (rn_nw M 20 12) al0 5 (some M.1.length)) 20 60) al0 6 (some ((rn_sr (rn_nw M 20 12) al0 5 (some M.1.length)).1.length))).1.length))).2.1.1 ∧ 61 ≤ (rn_sr (rn_nw (rn_sr (rn_nw (rn_sr (rn_nw M 20 12) al0 5 (some M.1.length)) 20 60) al0 6 (some ((rn_sr (rn_nw M 20 12) al0 5 (some M.1.length)).1.length))) 20 61) al0 7 (some ((rn_sr (rn_nw (rn_sr (rn_nw M 20 12) al0 5 (some M.1.length)) 20 60) al0 6 (some ((rn_sr (rn_nw M 20 12) al0 5 (some M.1.length)).1.length))).1.length))).2.1.2) (k1 : Q none (rn_si (rn_sr (rn_nw (rn_sr (rn_nw (rn_sr (rn_nw (rn_sr (rn_nw M 20 12) al0 5 (some M.1.length)) 20 60) al0 6 (some ((rn_sr (rn_nw M 20 12) al0 5 (some M.1.length)).1.length))) 20 61) al0 7 (some ((rn_sr (rn_nw (rn_sr (rn_nw M 20 12) al0 5 (some M.1.length)) 20 60) al0 6 (some ((rn_sr (rn_nw M 20 12) al0 5 (some M.1.length)).1.length))).1.length))) 20 61) al0 8 (some ((rn_sr (rn_nw (rn_sr (rn_nw (rn_sr (rn_nw M 20 12) al0 5 (some M.1.length)) 20 60) al0 6 (some ((rn_sr (rn_nw M 20 12) al0 5 (some M.1.length)).1.length))) 20 61) al0 7 (some ((rn_sr (rn_nw (rn_sr (rn_nw M 20 12) al0 5 (some M.1.length)) 20 60) al0 6 (some ((rn_sr (rn_nw M 20 12) al0 5 (some M.1.length)).1.length))).1.length))).1.length))) al0 0 xl1)) : rn_WP 57 0 [rn_R al0, rn_I xl1] [] M Q := by
  refine (rn_step (e := (.aload_n 0, 1, 0, 0, 0, 0, 0, [])) rfl).mpr ?_
  refine (rn_step (e := (.invokespecial 3, 4, 1000, 1, 94, 2, 0, [0])) rfl).mpr ?_
  refine (rn_step (e := (.aload_n 0, 5, 0, 0, 0, 0, 0, [])) rfl).mpr ?_
  refine (rn_step (e := (.bipush 12, 7, 0, 0, 0, 0, 0, [])) rfl).mpr ?_
  refine (rn_step (e := (.newarray .int, 9, 0, 0, 0, 0, 0, [])) rfl).mpr (And.intro (by decide) (And.intro (by decide) (And.intro (hr1.1) (And.intro (hr1.2.1) (?_)))))
  refine (rn_step (e := (.putfield 9, 12, 5, 5, 114, 2, 6, [])) rfl).mpr (And.intro (h1) (?_))
  refine (rn_step (e := (.aload_n 0, 13, 0, 0, 0, 0, 0, [])) rfl).mpr ?_
  refine (rn_step (e := (.bipush 60, 15, 0, 0, 0, 0, 0, [])) rfl).mpr ?_
  refine (rn_step (e := (.newarray .int, 17, 0, 0, 0, 0, 0, [])) rfl).mpr (And.intro (by decide) (And.intro (by decide) (And.intro (hr1.2.2.1) (And.intro (hr1.2.2.2.1) (?_)))))
  refine (rn_step (e := (.putfield 15, 20, 5, 6, 115, 2, 6, [])) rfl).mpr (And.intro (h2) (?_))
  refine (rn_step (e := (.aload_n 0, 21, 0, 0, 0, 0, 0, [])) rfl).mpr ?_
  refine (rn_step (e := (.bipush 61, 23, 0, 0, 0, 0, 0, [])) rfl).mpr ?_
  refine (rn_step (e := (.newarray .int, 25, 0, 0, 0, 0, 0, [])) rfl).mpr (And.intro (by decide) (And.intro (by decide) (And.intro (hr1.2.2.2.2.1) (And.intro (hr1.2.2.2.2.2.1) (?_)))))
  refine (rn_step (e := (.putfield 18, 28, 5, 7, 116, 2, 6, [])) rfl).mpr (And.intro (h3) (?_))
  refine (rn_step (e := (.aload_n 0, 29, 0, 0, 0, 0, 0, [])) rfl).mpr ?_
  refine (rn_step (e := (.bipush 61, 31, 0, 0, 0, 0, 0, [])) rfl).mpr ?_
  refine (rn_step (e := (.newarray .int, 33, 0, 0, 0, 0, 0, [])) rfl).mpr (And.intro (by decide) (And.intro (by decide) (And.intro (hr1.2.2.2.2.2.2.1) (And.intro (hr1.2.2.2.2.2.2.2) (?_)))))
  refine (rn_step (e := (.putfield 21, 36, 5, 8, 117, 2, 6, [])) rfl).mpr (And.intro (h4) (?_))
  refine (rn_step (e := (.aload_n 0, 37, 0, 0, 0, 0, 0, [])) rfl).mpr ?_
  refine (rn_step (e := (.iload_n 1, 38, 1, 0, 0, 0, 0, [])) rfl).mpr ?_
  refine (rn_step (e := (.putfield 24, 41, 5, 0, 95, 0, 6, [])) rfl).mpr (And.intro (h4) (?_))
  exact (rn_step (e := (.return_, 42, 0, 0, 0, 0, 0, [])) rfl).mpr k1
theorem re_Sh_init {M : rn_M} {Q : rn_Q} {v0 : rn_V} (h : rn_WP 78 0 [v0] [] M Q) : rn_ME 78 [v0] M Q := h
set_option maxRecDepth 4000 in
theorem rb_Sh_init_0 {M : rn_M} {Q : rn_Q} {al0 : Nat}  (h1 : rn_kd (rn_nw M 20 2400) al0 = 7) (hr1 : 1 ≤ M.2.1.1 ∧ 2400 ≤ M.2.1.2) (k1 : Q none (rn_sr (rn_nw M 20 2400) al0 1 (some M.1.length))) : rn_WP 78 0 [rn_R al0] [] M Q := by
  refine (rn_step (e := (.aload_n 0, 1, 0, 0, 0, 0, 0, [])) rfl).mpr ?_
  refine (rn_step (e := (.invokespecial 3, 4, 1000, 1, 241, 2, 0, [0])) rfl).mpr ?_
  refine (rn_step (e := (.aload_n 0, 5, 0, 0, 0, 0, 0, [])) rfl).mpr ?_
  refine (rn_step (e := (.sipush 2400, 8, 0, 0, 0, 0, 0, [])) rfl).mpr ?_
  refine (rn_step (e := (.newarray .int, 10, 0, 0, 0, 0, 0, [])) rfl).mpr (And.intro (by decide) (And.intro (by decide) (And.intro (hr1.1) (And.intro (hr1.2) (?_)))))
  refine (rn_step (e := (.putfield 9, 13, 6, 1, 246, 2, 7, [])) rfl).mpr (And.intro (h1) (?_))
  exact (rn_step (e := (.return_, 14, 0, 0, 0, 0, 0, [])) rfl).mpr k1
theorem re_Te_init {M : rn_M} {Q : rn_Q} {v0 : rn_V} (h : rn_WP 82 0 [v0] [] M Q) : rn_ME 82 [v0] M Q := h
set_option maxRecDepth 4000 in
theorem rb_Te_init_0 {M : rn_M} {Q : rn_Q} {al0 : Nat}  (h1 : rn_kd (rn_nw M 20 150) al0 = 8) (hr1 : 1 ≤ M.2.1.1 ∧ 150 ≤ M.2.1.2) (k1 : Q none (rn_sr (rn_nw M 20 150) al0 1 (some M.1.length))) : rn_WP 82 0 [rn_R al0] [] M Q := by
  refine (rn_step (e := (.aload_n 0, 1, 0, 0, 0, 0, 0, [])) rfl).mpr ?_
  refine (rn_step (e := (.invokespecial 3, 4, 1000, 1, 48, 2, 0, [0])) rfl).mpr ?_
  refine (rn_step (e := (.aload_n 0, 5, 0, 0, 0, 0, 0, [])) rfl).mpr ?_
  refine (rn_step (e := (.sipush 150, 8, 0, 0, 0, 0, 0, [])) rfl).mpr ?_
  refine (rn_step (e := (.newarray .int, 10, 0, 0, 0, 0, 0, [])) rfl).mpr (And.intro (by decide) (And.intro (by decide) (And.intro (hr1.1) (And.intro (hr1.2) (?_)))))
  refine (rn_step (e := (.putfield 9, 13, 7, 1, 51, 2, 8, [])) rfl).mpr (And.intro (h1) (?_))
  exact (rn_step (e := (.return_, 14, 0, 0, 0, 0, 0, [])) rfl).mpr k1
theorem re_RN_init {M : rn_M} {Q : rn_Q} {v0 : rn_V} (h : rn_WP 90 0 [v0] [] M Q) : rn_ME 90 [v0] M Q := h
set_option maxRecDepth 4000 in
theorem rb_RN_init_0 {M : rn_M} {Q : rn_Q} {al0 : Nat}  (h1 : rn_kd (rn_nw M 5 5) M.1.length = 5) (hr1 : 1 ≤ M.2.1.1 ∧ 5 ≤ M.2.1.2) (k1 : 2 ≤ (rn_nw M 5 5).2.1.1 ∧ 200 ≤ (rn_nw M 5 5).2.1.2 ∧ rn_ME 45 [rn_R M.1.length] (rn_sb (rn_nw M 5 5) 2 200) (fun r M1 => rn_WP 90 12 [rn_R al0] (r.toList ++ [rn_R M.1.length, rn_R al0]) (rn_sb M1 ((rn_nw M 5 5).2.1.1 - 2) ((rn_nw M 5 5).2.1.2 - 200)) Q)) : rn_WP 90 0 [rn_R al0] [] M Q := by
  refine (rn_step (e := (.aload_n 0, 1, 0, 0, 0, 0, 0, [])) rfl).mpr ?_
  refine (rn_step (e := (.invokespecial 3, 4, 1000, 1, 34, 2, 0, [0])) rfl).mpr ?_
  refine (rn_step (e := (.aload_n 0, 5, 0, 0, 0, 0, 0, [])) rfl).mpr ?_
  refine (rn_step (e := (.new 9, 8, 4, 0, 37, 0, 0, [])) rfl).mpr (And.intro (hr1.1) (And.intro (hr1.2) (?_)))
  refine (rn_step (e := (.dup, 9, 0, 0, 0, 0, 0, [])) rfl).mpr ?_
  exact (rn_step (e := (.invokespecial 11, 12, 45, 1, 0, 4, 5, [1])) rfl).mpr (And.intro (h1) (k1))
set_option maxRecDepth 4000 in
theorem rb_RN_init_12 {M : rn_M} {Q : rn_Q} {rl0 : Option Nat} {rs0 : Option Nat} {as1 : Nat}  (h1 : rn_kd M as1 = 10) (h2 : rn_kd (rn_nw (rn_sr M as1 0 rs0) 2 4) ((rn_sr M as1 0 rs0).1.length) = 2) (hr1 : 1 ≤ (rn_sr M as1 0 rs0).2.1.1 ∧ 4 ≤ (rn_sr M as1 0 rs0).2.1.2) (k1 : 500 ≤ (rn_nw (rn_sr M as1 0 rs0) 2 4).2.1.1 ∧ 30000 ≤ (rn_nw (rn_sr M as1 0 rs0) 2 4).2.1.2 ∧ rn_ME 19 [rn_R ((rn_sr M as1 0 rs0).1.length)] (rn_sb (rn_nw (rn_sr M as1 0 rs0) 2 4) 500 30000) (fun r M1 => rn_WP 90 23 [.inr (.inl (some rl0))] (r.toList ++ [rn_R ((rn_sr M as1 0 rs0).1.length), .inr (.inl (some rl0))]) (rn_sb M1 ((rn_nw (rn_sr M as1 0 rs0) 2 4).2.1.1 - 500) ((rn_nw (rn_sr M as1 0 rs0) 2 4).2.1.2 - 30000)) Q)) : rn_WP 90 12 [.inr (.inl (some rl0))] [.inr (.inl (some rs0)), rn_R as1] M Q := by
  refine (rn_step (e := (.putfield 12, 15, 9, 0, 252, 2, 10, [])) rfl).mpr (And.intro (h1) (?_))
  refine (rn_step (e := (.aload_n 0, 16, 0, 0, 0, 0, 0, [])) rfl).mpr ?_
  refine (rn_step (e := (.new 16, 19, 1, 0, 71, 0, 0, [])) rfl).mpr (And.intro (hr1.1) (And.intro (hr1.2) (?_)))
  refine (rn_step (e := (.dup, 20, 0, 0, 0, 0, 0, [])) rfl).mpr ?_
  exact (rn_step (e := (.invokespecial 18, 23, 19, 1, 73, 4, 2, [0])) rfl).mpr (And.intro (h2) (k1))
set_option maxRecDepth 4000 in
theorem rb_RN_init_23 {M : rn_M} {Q : rn_Q} {rl0 : Option Nat} {rs0 : Option Nat} {as1 : Nat}  (h1 : rn_kd M as1 = 10) (h2 : rn_kd (rn_nw (rn_sr M as1 1 rs0) 3 1) ((rn_sr M as1 1 rs0).1.length) = 3) (hr1 : 1 ≤ (rn_sr M as1 1 rs0).2.1.1 ∧ 1 ≤ (rn_sr M as1 1 rs0).2.1.2) (k1 : 1 ≤ (rn_nw (rn_sr M as1 1 rs0) 3 1).2.1.1 ∧ 70 ≤ (rn_nw (rn_sr M as1 1 rs0) 3 1).2.1.2 ∧ rn_ME 25 [rn_R ((rn_sr M as1 1 rs0).1.length)] (rn_sb (rn_nw (rn_sr M as1 1 rs0) 3 1) 1 70) (fun r M1 => rn_WP 90 34 [.inr (.inl (some rl0))] (r.toList ++ [rn_R ((rn_sr M as1 1 rs0).1.length), .inr (.inl (some rl0))]) (rn_sb M1 ((rn_nw (rn_sr M as1 1 rs0) 3 1).2.1.1 - 1) ((rn_nw (rn_sr M as1 1 rs0) 3 1).2.1.2 - 70)) Q)) : rn_WP 90 23 [.inr (.inl (some rl0))] [.inr (.inl (some rs0)), rn_R as1] M Q := by
  refine (rn_step (e := (.putfield 19, 26, 9, 1, 253, 2, 10, [])) rfl).mpr (And.intro (h1) (?_))
  refine (rn_step (e := (.aload_n 0, 27, 0, 0, 0, 0, 0, [])) rfl).mpr ?_
  refine (rn_step (e := (.new 23, 30, 2, 0, 226, 0, 0, [])) rfl).mpr (And.intro (hr1.1) (And.intro (hr1.2) (?_)))
  refine (rn_step (e := (.dup, 31, 0, 0, 0, 0, 0, [])) rfl).mpr ?_
  exact (rn_step (e := (.invokespecial 25, 34, 25, 1, 3, 4, 3, [1])) rfl).mpr (And.intro (h2) (k1))
set_option maxRecDepth 4000 in
theorem rb_RN_init_34 {M : rn_M} {Q : rn_Q} {rl0 : Option Nat} {rs0 : Option Nat} {as1 : Nat}  (h1 : rn_kd M as1 = 10) (h2 : rn_kd (rn_nw (rn_sr M as1 2 rs0) 7 2) ((rn_sr M as1 2 rs0).1.length) = 7) (hr1 : 1 ≤ (rn_sr M as1 2 rs0).2.1.1 ∧ 2 ≤ (rn_sr M as1 2 rs0).2.1.2) (k1 : 1 ≤ (rn_nw (rn_sr M as1 2 rs0) 7 2).2.1.1 ∧ 2400 ≤ (rn_nw (rn_sr M as1 2 rs0) 7 2).2.1.2 ∧ rn_ME 78 [rn_R ((rn_sr M as1 2 rs0).1.length)] (rn_sb (rn_nw (rn_sr M as1 2 rs0) 7 2) 1 2400) (fun r M1 => rn_WP 90 45 [.inr (.inl (some rl0))] (r.toList ++ [rn_R ((rn_sr M as1 2 rs0).1.length), .inr (.inl (some rl0))]) (rn_sb M1 ((rn_nw (rn_sr M as1 2 rs0) 7 2).2.1.1 - 1) ((rn_nw (rn_sr M as1 2 rs0) 7 2).2.1.2 - 2400)) Q)) : rn_WP 90 34 [.inr (.inl (some rl0))] [.inr (.inl (some rs0)), rn_R as1] M Q := by
  refine (rn_step (e := (.putfield 26, 37, 9, 2, 254, 2, 10, [])) rfl).mpr (And.intro (h1) (?_))
  refine (rn_step (e := (.aload_n 0, 38, 0, 0, 0, 0, 0, [])) rfl).mpr ?_
  refine (rn_step (e := (.new 30, 41, 6, 0, 236, 0, 0, [])) rfl).mpr (And.intro (hr1.1) (And.intro (hr1.2) (?_)))
  refine (rn_step (e := (.dup, 42, 0, 0, 0, 0, 0, [])) rfl).mpr ?_
  exact (rn_step (e := (.invokespecial 32, 45, 78, 1, 4, 4, 7, [1])) rfl).mpr (And.intro (h2) (k1))
set_option maxRecDepth 4000 in
theorem rb_RN_init_45 {M : rn_M} {Q : rn_Q} {vl0 : rn_V} {rs0 : Option Nat} {as1 : Nat}  (h1 : rn_kd M as1 = 10) (k1 : Q none (rn_sr M as1 3 rs0)) : rn_WP 90 45 [vl0] [.inr (.inl (some rs0)), rn_R as1] M Q := by
  refine (rn_step (e := (.putfield 33, 48, 9, 3, 255, 2, 10, [])) rfl).mpr (And.intro (h1) (?_))
  exact (rn_step (e := (.return_, 49, 0, 0, 0, 0, 0, [])) rfl).mpr k1
