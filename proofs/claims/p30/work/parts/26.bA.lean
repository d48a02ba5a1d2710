theorem re_La_init {M : rn_M} {Q : rn_Q} {v0 v1 : rn_V} (h : rn_WP 40 0 [v0, v1] [] M Q) : rn_ME 40 [v0, v1] M Q := h
set_option maxRecDepth 4000 in
theorem rb_La_init_0 {M : rn_M} {Q : rn_Q} {al0 : Nat} {rl1 : Option Nat} (hM : rn_sh M) (p_al0 : rn_isL al0)  (k1 : Q none (rn_sr M al0 0 rl1)) : rn_WP 40 0 [rn_R al0, .inr (.inl (some rl1))] [] M Q := by
  refine (rn_step (e := (.aload_n 0, 1, 0, 0, 0, 0, 0, [])) rfl).mpr ?_
  refine (rn_step (e := (.invokespecial 1, 4, 1000, 1, 168, 2, 0, [0])) rfl).mpr ?_
  refine (rn_step (e := (.aload_n 0, 5, 0, 0, 0, 0, 0, [])) rfl).mpr ?_
  refine (rn_step (e := (.aload_n 1, 6, 1, 0, 0, 0, 0, [])) rfl).mpr ?_
  refine (rn_step (e := (.putfield 7, 9, 3, 0, 169, 2, 4, [])) rfl).mpr (And.intro ((rn_kL (M := M) hM p_al0)) (?_))
  exact (rn_step (e := (.return_, 10, 0, 0, 0, 0, 0, [])) rfl).mpr k1
theorem re_La_put {M : rn_M} {Q : rn_Q} {v0 v1 v2 : rn_V} (h : rn_WP 41 0 [v0, v1, v2] [] M Q) : rn_ME 41 [v0, v1, v2] M Q := h
set_option maxRecDepth 4000 in
theorem rb_La_put_0 {M : rn_M} {Q : rn_Q} {al0 : Nat} {rl1 : Option Nat} {xl2 : Int} (hM : rn_sh M) (p_al0 : rn_isL al0)  (k1 : Q none (rn_si (rn_sr M al0 0 rl1) al0 1 xl2)) : rn_WP 41 0 [rn_R al0, .inr (.inl (some rl1)), rn_I xl2] [] M Q := by
  refine (rn_step (e := (.aload_n 0, 1, 0, 0, 0, 0, 0, [])) rfl).mpr ?_
  refine (rn_step (e := (.aload_n 1, 2, 1, 0, 0, 0, 0, [])) rfl).mpr ?_
  refine (rn_step (e := (.putfield 7, 5, 3, 0, 169, 2, 4, [])) rfl).mpr (And.intro ((rn_kL (M := M) hM p_al0)) (?_))
  refine (rn_step (e := (.aload_n 0, 6, 0, 0, 0, 0, 0, [])) rfl).mpr ?_
  refine (rn_step (e := (.iload_n 2, 7, 2, 0, 0, 0, 0, [])) rfl).mpr ?_
  refine (rn_step (e := (.putfield 13, 10, 3, 1, 173, 0, 4, [])) rfl).mpr (And.intro ((rn_kL (M := M) hM p_al0)) (?_))
  exact (rn_step (e := (.return_, 11, 0, 0, 0, 0, 0, [])) rfl).mpr k1
theorem re_La_lapsOver {M : rn_M} {Q : rn_Q} {v0 v1 : rn_V} (h : rn_WP 42 0 [v0, v1, rn_J] [] M Q) : rn_ME 42 [v0, v1] M Q := h
set_option maxRecDepth 4000 in
theorem rb_La_lapsOver_0 {M : rn_M} {Q : rn_Q} {al0 : Nat} {vl1 : rn_V} {vl2 : rn_V} (hM : rn_sh M) (p_al0 : rn_isL al0)  (k1 : rn_WP 42 5 [rn_R al0, vl1, rn_I (rn_gi M al0 1)] [] M Q) : rn_WP 42 0 [rn_R al0, vl1, vl2] [] M Q := by
  refine (rn_step (e := (.aload_n 0, 1, 0, 0, 0, 0, 0, [])) rfl).mpr ?_
  refine (rn_step (e := (.getfield 13, 4, 3, 1, 173, 0, 4, [])) rfl).mpr (And.intro ((rn_kL (M := M) hM p_al0)) (?_))
  refine (rn_step (e := (.istore_n 2, 5, 2, 0, 0, 0, 0, [])) rfl).mpr ?_
  exact k1
set_option maxRecDepth 4000 in
theorem rb_La_lapsOver_5 {M : rn_M} {Q : rn_Q} {al0 : Nat} {al1 : Nat} {xl2 : Int} (hM : rn_sh M) (p_al0 : rn_isL al0) (p_al1 : rn_isT al1)  (hr1 : rn_gr M al0 0 = some (rn_go M al0 0) ∧ rn_isR (rn_go M al0 0) ∧ (-2147483648 : Int) ≤ rn_gi M al0 1 + (rn_gi M (rn_go M al0 0) 3) ∧ rn_gi M al0 1 + (rn_gi M (rn_go M al0 0) 3) ≤ 2147483647) (hr2 : (xl2 < rn_gi M al0 1 + (rn_gi M (rn_go M al0 0) 3)) → rn_gr M al0 0 = some (rn_go M al0 0) ∧ rn_isR (rn_go M al0 0) ∧ ((0 : Int) ≤ xl2 ∧ xl2 ≤ rn_gi M (rn_go M al0 0) 4) ∧ rn_gi M (rn_go M al0 0) 4 ≤ 60 ∧ rn_tk M al1 ∧ ((-1000 : Int) ≤ rn_gi M (rn_go M al0 0) 2 ∧ (rn_gi M (rn_go M al0 0) 2 : Int) ≤ 1000)) (hr3 : (xl2 < rn_gi M al0 1 + (rn_gi M (rn_go M al0 0) 3)) → (¬ (rn_tn2 M al1 (rn_gi M ((rn_go M al0 0) + 3) (xl2).toNat) (rn_gi M ((rn_go M al0 0) + 4) (xl2).toNat) (rn_gi M (rn_go M al0 0) 2))) → (-2147483648 : Int) ≤ xl2 + 1 ∧ xl2 + 1 ≤ 2147483647) (k1 : (xl2 < rn_gi M al0 1 + (rn_gi M (rn_go M al0 0) 3)) → (¬ (rn_tn2 M al1 (rn_gi M ((rn_go M al0 0) + 3) (xl2).toNat) (rn_gi M ((rn_go M al0 0) + 4) (xl2).toNat) (rn_gi M (rn_go M al0 0) 2))) → rn_WP 42 5 [rn_R al0, rn_R al1, rn_I (xl2 + 1)] [] M Q) (k2 : (xl2 < rn_gi M al0 1 + (rn_gi M (rn_go M al0 0) 3)) → (rn_tn2 M al1 (rn_gi M ((rn_go M al0 0) + 3) (xl2).toNat) (rn_gi M ((rn_go M al0 0) + 4) (xl2).toNat) (rn_gi M (rn_go M al0 0) 2)) → Q (some (rn_I 1)) M) (k3 : (¬ (xl2 < rn_gi M al0 1 + (rn_gi M (rn_go M al0 0) 3))) → Q (some (rn_I 0)) M) : rn_WP 42 5 [rn_R al0, rn_R al1, rn_I xl2] [] M Q := by
  refine (rn_step (e := (.iload_n 2, 6, 2, 0, 0, 0, 0, [])) rfl).mpr ?_
  refine (rn_step (e := (.aload_n 0, 7, 0, 0, 0, 0, 0, [])) rfl).mpr ?_
  refine (rn_step (e := (.getfield 13, 10, 3, 1, 173, 0, 4, [])) rfl).mpr (And.intro ((rn_kL (M := M) hM p_al0)) (?_))
  refine (rn_step (e := (.aload_n 0, 11, 0, 0, 0, 0, 0, [])) rfl).mpr ?_
  refine (rn_step (e := (.getfield 7, 14, 3, 0, 169, 2, 4, [])) rfl).mpr (And.intro ((rn_kL (M := M) hM p_al0)) (rn_cg hr1.1 ?_))
  refine (rn_step (e := (.getfield 17, 17, 5, 3, 109, 0, 6, [])) rfl).mpr (And.intro ((rn_kR (M := M) hM hr1.2.1)) (?_))
  refine (rn_step (e := (.iadd, 18, 0, 0, 0, 0, 0, [])) rfl).mpr (rn_cw hr1.2.2.1 hr1.2.2.2 ?_)
  refine (rn_step (e := (.if_icmp .ge 41, 21, 59, 0, 0, 0, 0, [])) rfl).mpr (And.intro (fun c1 => ?_) (fun c1 => ?_))
  ·
    refine (rn_step (e := (.aload_n 1, 22, 1, 0, 0, 0, 0, [])) rfl).mpr ?_
    refine (rn_step (e := (.aload_n 0, 23, 0, 0, 0, 0, 0, [])) rfl).mpr ?_
    refine (rn_step (e := (.getfield 7, 26, 3, 0, 169, 2, 4, [])) rfl).mpr (And.intro ((rn_kL (M := M) hM p_al0)) (rn_cg (hr2 c1).1 ?_))
    refine (rn_step (e := (.iload_n 2, 27, 2, 0, 0, 0, 0, [])) rfl).mpr ?_
    refine (rn_step (e := (.invokevirtual 22, 30, 65, 2, 400, 0, 6, [0])) rfl).mpr (And.intro ((rn_kR (M := M) hM (hr2 c1).2.1)) ((rc_Ri_columnAt hM (hr2 c1).2.1 ((hr2 c1).2.2.1) ((hr2 c1).2.2.2.1) ?_)))
    refine (rn_step (e := (.aload_n 0, 31, 0, 0, 0, 0, 0, [])) rfl).mpr ?_
    refine (rn_step (e := (.getfield 7, 34, 3, 0, 169, 2, 4, [])) rfl).mpr (And.intro ((rn_kL (M := M) hM p_al0)) (rn_cg (hr2 c1).1 ?_))
    refine (rn_step (e := (.iload_n 2, 35, 2, 0, 0, 0, 0, [])) rfl).mpr ?_
    refine (rn_step (e := (.invokevirtual 26, 38, 66, 2, 401, 0, 6, [0])) rfl).mpr (And.intro ((rn_kR (M := M) hM (hr2 c1).2.1)) ((rc_Ri_rowAt hM (hr2 c1).2.1 ((hr2 c1).2.2.1) ((hr2 c1).2.2.2.1) ?_)))
    refine (rn_step (e := (.aload_n 0, 39, 0, 0, 0, 0, 0, [])) rfl).mpr ?_
    refine (rn_step (e := (.getfield 7, 42, 3, 0, 169, 2, 4, [])) rfl).mpr (And.intro ((rn_kL (M := M) hM p_al0)) (rn_cg (hr2 c1).1 ?_))
    refine (rn_step (e := (.getfield 29, 45, 5, 2, 104, 0, 6, [])) rfl).mpr (And.intro ((rn_kR (M := M) hM (hr2 c1).2.1)) (?_))
    refine (rn_step (e := (.invokevirtual 32, 48, 89, 4, 487, 0, 9, [0])) rfl).mpr (And.intro ((rn_kT (M := M) hM p_al1)) ((rc_To_isNear hM p_al1 ((hr2 c1).2.2.2.2.1) ((hr2 c1).2.2.2.2.2) ?_)))
    refine (rn_step (e := (.ifCond .eq 5, 51, 53, 0, 0, 0, 0, [])) rfl).mpr (And.intro (fun q => ?_) (fun q => ?_))
    · have c2 := rn_b0 q
      refine (rn_step (e := (.iinc 2 1, 56, 2, 0, 0, 0, 0, [])) rfl).mpr (rn_ci (hr3 c1 c2).1 (hr3 c1 c2).2 ?_)
      refine (rn_step (e := (.goto (-51), 59, 5, 0, 0, 0, 0, [])) rfl).mpr ?_
      exact (k1 c1 c2)
    · have c2 := rn_b1 q
      refine (rn_step (e := (.iconst 1, 52, 0, 0, 0, 0, 0, [])) rfl).mpr ?_
      exact (rn_step (e := (.ireturn, 53, 0, 0, 0, 1, 0, [])) rfl).mpr (And.intro ((Or.inr rfl)) ((k2 c1 c2)))
  ·
    refine (rn_step (e := (.iconst 0, 60, 0, 0, 0, 0, 0, [])) rfl).mpr ?_
    exact (rn_step (e := (.ireturn, 61, 0, 0, 0, 1, 0, [])) rfl).mpr (And.intro ((Or.inl rfl)) ((k3 c1)))
theorem re_La_markArea {M : rn_M} {Q : rn_Q} {v0 v1 : rn_V} (h : rn_WP 43 0 [v0, v1, rn_J] [] M Q) : rn_ME 43 [v0, v1] M Q := h
set_option maxRecDepth 4000 in
theorem rb_La_markArea_0 {M : rn_M} {Q : rn_Q} {al0 : Nat} {vl1 : rn_V} {vl2 : rn_V} (hM : rn_sh M) (p_al0 : rn_isL al0)  (k1 : rn_WP 43 5 [rn_R al0, vl1, rn_I (rn_gi M al0 1)] [] M Q) : rn_WP 43 0 [rn_R al0, vl1, vl2] [] M Q := by
  refine (rn_step (e := (.aload_n 0, 1, 0, 0, 0, 0, 0, [])) rfl).mpr ?_
  refine (rn_step (e := (.getfield 13, 4, 3, 1, 173, 0, 4, [])) rfl).mpr (And.intro ((rn_kL (M := M) hM p_al0)) (?_))
  refine (rn_step (e := (.istore_n 2, 5, 2, 0, 0, 0, 0, [])) rfl).mpr ?_
  exact k1
set_option maxRecDepth 4000 in
theorem rb_La_markArea_5 {M : rn_M} {Q : rn_Q} {al0 : Nat} {xl2 : Int} (hM : rn_sh M) (p_al0 : rn_isL al0)  (hr1 : rn_gr M al0 0 = some (rn_go M al0 0) ∧ rn_isR (rn_go M al0 0) ∧ (-2147483648 : Int) ≤ rn_gi M al0 1 + (rn_gi M (rn_go M al0 0) 3) ∧ rn_gi M al0 1 + (rn_gi M (rn_go M al0 0) 3) ≤ 2147483647) (hr2 : (xl2 < rn_gi M al0 1 + (rn_gi M (rn_go M al0 0) 3)) → rn_gr M al0 0 = some (rn_go M al0 0) ∧ rn_isR (rn_go M al0 0) ∧ ((0 : Int) ≤ xl2 ∧ xl2 ≤ rn_gi M (rn_go M al0 0) 4) ∧ rn_gi M (rn_go M al0 0) 4 ≤ 60) (k1 : (xl2 < rn_gi M al0 1 + (rn_gi M (rn_go M al0 0) 3)) → rn_ME 80 [rn_R 464, rn_I (rn_gi M ((rn_go M al0 0) + 3) (xl2).toNat), rn_I (rn_gi M ((rn_go M al0 0) + 4) (xl2).toNat), rn_I (rn_gi M (rn_go M al0 0) 2)] M (fun r M1 => rn_WP 43 48 [rn_R al0, rn_R 464, rn_I xl2] (r.toList ++ []) M1 Q)) (k2 : (¬ (xl2 < rn_gi M al0 1 + (rn_gi M (rn_go M al0 0) 3))) → Q none M) : rn_WP 43 5 [rn_R al0, rn_R 464, rn_I xl2] [] M Q := by
  refine (rn_step (e := (.iload_n 2, 6, 2, 0, 0, 0, 0, [])) rfl).mpr ?_
  refine (rn_step (e := (.aload_n 0, 7, 0, 0, 0, 0, 0, [])) rfl).mpr ?_
  refine (rn_step (e := (.getfield 13, 10, 3, 1, 173, 0, 4, [])) rfl).mpr (And.intro ((rn_kL (M := M) hM p_al0)) (?_))
  refine (rn_step (e := (.aload_n 0, 11, 0, 0, 0, 0, 0, [])) rfl).mpr ?_
  refine (rn_step (e := (.getfield 7, 14, 3, 0, 169, 2, 4, [])) rfl).mpr (And.intro ((rn_kL (M := M) hM p_al0)) (rn_cg hr1.1 ?_))
  refine (rn_step (e := (.getfield 17, 17, 5, 3, 109, 0, 6, [])) rfl).mpr (And.intro ((rn_kR (M := M) hM hr1.2.1)) (?_))
  refine (rn_step (e := (.iadd, 18, 0, 0, 0, 0, 0, [])) rfl).mpr (rn_cw hr1.2.2.1 hr1.2.2.2 ?_)
  refine (rn_step (e := (.if_icmp .ge 36, 21, 54, 0, 0, 0, 0, [])) rfl).mpr (And.intro (fun c1 => ?_) (fun c1 => ?_))
  ·
    refine (rn_step (e := (.aload_n 1, 22, 1, 0, 0, 0, 0, [])) rfl).mpr ?_
    refine (rn_step (e := (.aload_n 0, 23, 0, 0, 0, 0, 0, [])) rfl).mpr ?_
    refine (rn_step (e := (.getfield 7, 26, 3, 0, 169, 2, 4, [])) rfl).mpr (And.intro ((rn_kL (M := M) hM p_al0)) (rn_cg (hr2 c1).1 ?_))
    refine (rn_step (e := (.iload_n 2, 27, 2, 0, 0, 0, 0, [])) rfl).mpr ?_
    refine (rn_step (e := (.invokevirtual 22, 30, 65, 2, 400, 0, 6, [0])) rfl).mpr (And.intro ((rn_kR (M := M) hM (hr2 c1).2.1)) ((rc_Ri_columnAt hM (hr2 c1).2.1 ((hr2 c1).2.2.1) ((hr2 c1).2.2.2) ?_)))
    refine (rn_step (e := (.aload_n 0, 31, 0, 0, 0, 0, 0, [])) rfl).mpr ?_
    refine (rn_step (e := (.getfield 7, 34, 3, 0, 169, 2, 4, [])) rfl).mpr (And.intro ((rn_kL (M := M) hM p_al0)) (rn_cg (hr2 c1).1 ?_))
    refine (rn_step (e := (.iload_n 2, 35, 2, 0, 0, 0, 0, [])) rfl).mpr ?_
    refine (rn_step (e := (.invokevirtual 26, 38, 66, 2, 401, 0, 6, [0])) rfl).mpr (And.intro ((rn_kR (M := M) hM (hr2 c1).2.1)) ((rc_Ri_rowAt hM (hr2 c1).2.1 ((hr2 c1).2.2.1) ((hr2 c1).2.2.2) ?_)))
    refine (rn_step (e := (.aload_n 0, 39, 0, 0, 0, 0, 0, [])) rfl).mpr ?_
    refine (rn_step (e := (.getfield 7, 42, 3, 0, 169, 2, 4, [])) rfl).mpr (And.intro ((rn_kL (M := M) hM p_al0)) (rn_cg (hr2 c1).1 ?_))
    refine (rn_step (e := (.getfield 29, 45, 5, 2, 104, 0, 6, [])) rfl).mpr (And.intro ((rn_kR (M := M) hM (hr2 c1).2.1)) (?_))
    exact (rn_step (e := (.invokevirtual 38, 48, 80, 4, 402, 0, 7, [0])) rfl).mpr (And.intro ((rn_ks464 (M := M) hM)) ((k1 c1)))
  ·
    exact (rn_step (e := (.return_, 55, 0, 0, 0, 0, 0, [])) rfl).mpr (k2 c1)
set_option maxRecDepth 4000 in
theorem rb_La_markArea_48 {M : rn_M} {Q : rn_Q} {vl0 : rn_V} {vl1 : rn_V} {xl2 : Int}   (hr1 : (-2147483648 : Int) ≤ xl2 + 1 ∧ xl2 + 1 ≤ 2147483647) (k1 : rn_WP 43 5 [vl0, vl1, rn_I (xl2 + 1)] [] M Q) : rn_WP 43 48 [vl0, vl1, rn_I xl2] [] M Q := by
  refine (rn_step (e := (.iinc 2 1, 51, 2, 0, 0, 0, 0, [])) rfl).mpr (rn_ci hr1.1 hr1.2 ?_)
  refine (rn_step (e := (.goto (-46), 54, 5, 0, 0, 0, 0, [])) rfl).mpr ?_
  exact k1
theorem re_La_cells {M : rn_M} {Q : rn_Q} {v0 v1 : rn_V} (h : rn_WP 44 0 [v0, v1] [] M Q) : rn_ME 44 [v0, v1] M Q := h
set_option maxRecDepth 4000 in
theorem rb_La_cells_0 {M : rn_M} {Q : rn_Q} {vl0 : rn_V} (hM : rn_sh M)   (k1 : rn_ME 79 [rn_R 464] M (fun r M1 => rn_WP 44 4 [vl0, rn_R 464] (r.toList ++ []) M1 Q)) : rn_WP 44 0 [vl0, rn_R 464] [] M Q := by
  refine (rn_step (e := (.aload_n 1, 1, 1, 0, 0, 0, 0, [])) rfl).mpr ?_
  exact (rn_step (e := (.invokevirtual 44, 4, 79, 1, 475, 0, 7, [0])) rfl).mpr (And.intro ((rn_ks464 (M := M) hM)) (k1))
set_option maxRecDepth 4000 in
theorem rb_La_cells_4 {M : rn_M} {Q : rn_Q} {al0 : Nat} {rl1 : Option Nat} (hM : rn_sh M) (p_al0 : rn_isL al0)  (k1 : rn_ME 43 [rn_R al0, .inr (.inl (some rl1))] M (fun r M1 => rn_WP 44 9 [rn_R al0, .inr (.inl (some rl1))] (r.toList ++ []) M1 Q)) : rn_WP 44 4 [rn_R al0, .inr (.inl (some rl1))] [] M Q := by
  refine (rn_step (e := (.aload_n 0, 5, 0, 0, 0, 0, 0, [])) rfl).mpr ?_
  refine (rn_step (e := (.aload_n 1, 6, 1, 0, 0, 0, 0, [])) rfl).mpr ?_
  exact (rn_step (e := (.invokevirtual 47, 9, 43, 2, 476, 0, 4, [0])) rfl).mpr (And.intro ((rn_kL (M := M) hM p_al0)) (k1))
set_option maxRecDepth 4000 in
theorem rb_La_cells_9 {M : rn_M} {Q : rn_Q} {vl0 : rn_V} (hM : rn_sh M)   (k1 : Q (some (rn_I (rn_gi M 464 0))) M) : rn_WP 44 9 [vl0, rn_R 464] [] M Q := by
  refine (rn_step (e := (.aload_n 1, 10, 1, 0, 0, 0, 0, [])) rfl).mpr ?_
  refine (rn_step (e := (.getfield 51, 13, 6, 0, 243, 0, 7, [])) rfl).mpr (And.intro ((rn_ks464 (M := M) hM)) (?_))
  exact (rn_step (e := (.ireturn, 14, 0, 0, 0, 0, 0, [])) rfl).mpr (And.intro (trivial) (k1))
theorem re_Ri_copyFrom {M : rn_M} {Q : rn_Q} {v0 v1 : rn_V} (h : rn_WP 58 0 [v0, v1] [] M Q) : rn_ME 58 [v0, v1] M Q := h
set_option maxRecDepth 4000 in
theorem rb_Ri_copyFrom_0 {M : rn_M} {Q : rn_Q} {al0 : Nat} {al1 : Nat} (hM : rn_sh M) (p_al1 : rn_isR al1) (p_al0 : rn_isR al0)  (k1 : Q none (rn_cpy (rn_cpy (rn_cpy (rn_cpy (rn_si (rn_si (rn_si (rn_si M al0 1 (rn_gi M al1 1)) al0 2 (rn_gi (rn_si M al0 1 (rn_gi M al1 1)) al1 2)) al0 3 (rn_gi (rn_si (rn_si M al0 1 (rn_gi M al1 1)) al0 2 (rn_gi (rn_si M al0 1 (rn_gi M al1 1)) al1 2)) al1 3)) al0 4 (rn_gi (rn_si (rn_si (rn_si M al0 1 (rn_gi M al1 1)) al0 2 (rn_gi (rn_si M al0 1 (rn_gi M al1 1)) al1 2)) al0 3 (rn_gi (rn_si (rn_si M al0 1 (rn_gi M al1 1)) al0 2 (rn_gi (rn_si M al0 1 (rn_gi M al1 1)) al1 2)) al1 3)) al1 4)) (al1 + 1) (al0 + 1) 0 0 12) (al1 + 2) (al0 + 2) 0 0 60) (al1 + 3) (al0 + 3) 0 0 61) (al1 + 4) (al0 + 4) 0 0 61)) : rn_WP 58 0 [rn_R al0, rn_R al1] [] M Q := by
  refine (rn_step (e := (.aload_n 0, 1, 0, 0, 0, 0, 0, [])) rfl).mpr ?_
  refine (rn_step (e := (.aload_n 1, 2, 1, 0, 0, 0, 0, [])) rfl).mpr ?_
  refine (rn_step (e := (.getfield 28, 5, 5, 1, 99, 0, 6, [])) rfl).mpr (And.intro ((rn_kR (M := M) hM p_al1)) (?_))
  refine (rn_step (e := (.putfield 28, 8, 5, 1, 99, 0, 6, [])) rfl).mpr (And.intro ((rn_kR (M := M) hM p_al0)) (?_))
  refine (rn_step (e := (.aload_n 0, 9, 0, 0, 0, 0, 0, [])) rfl).mpr ?_
  refine (rn_step (e := (.aload_n 1, 10, 1, 0, 0, 0, 0, [])) rfl).mpr ?_
  refine (rn_step (e := (.getfield 31, 13, 5, 2, 103, 0, 6, [])) rfl).mpr (And.intro ((rn_kR (M := M) hM p_al1)) (?_))
  refine (rn_step (e := (.putfield 31, 16, 5, 2, 103, 0, 6, [])) rfl).mpr (And.intro ((rn_kR (M := M) hM p_al0)) (?_))
  refine (rn_step (e := (.aload_n 0, 17, 0, 0, 0, 0, 0, [])) rfl).mpr ?_
  refine (rn_step (e := (.aload_n 1, 18, 1, 0, 0, 0, 0, [])) rfl).mpr ?_
  refine (rn_step (e := (.getfield 34, 21, 5, 3, 108, 0, 6, [])) rfl).mpr (And.intro ((rn_kR (M := M) hM p_al1)) (?_))
  refine (rn_step (e := (.putfield 34, 24, 5, 3, 108, 0, 6, [])) rfl).mpr (And.intro ((rn_kR (M := M) hM p_al0)) (?_))
  refine (rn_step (e := (.aload_n 0, 25, 0, 0, 0, 0, 0, [])) rfl).mpr ?_
  refine (rn_step (e := (.aload_n 1, 26, 1, 0, 0, 0, 0, [])) rfl).mpr ?_
  refine (rn_step (e := (.getfield 37, 29, 5, 4, 111, 0, 6, [])) rfl).mpr (And.intro ((rn_kR (M := M) hM p_al1)) (?_))
  refine (rn_step (e := (.putfield 37, 32, 5, 4, 111, 0, 6, [])) rfl).mpr (And.intro ((rn_kR (M := M) hM p_al0)) (?_))
  refine (rn_step (e := (.aload_n 1, 33, 1, 0, 0, 0, 0, [])) rfl).mpr ?_
  refine (rn_step (e := (.getfield 9, 36, 5, 5, 114, 2, 6, [])) rfl).mpr (And.intro ((rn_kR (M := M) hM p_al1)) (rn_cg (rn_gR5 (M := M) hM p_al1) ?_))
  refine (rn_step (e := (.iconst 0, 37, 0, 0, 0, 0, 0, [])) rfl).mpr ?_
  refine (rn_step (e := (.aload_n 0, 38, 0, 0, 0, 0, 0, [])) rfl).mpr ?_
  refine (rn_step (e := (.getfield 9, 41, 5, 5, 114, 2, 6, [])) rfl).mpr (And.intro ((rn_kR (M := M) hM p_al0)) (rn_cg (rn_gR5 (M := M) hM p_al0) ?_))
  refine (rn_step (e := (.iconst 0, 42, 0, 0, 0, 0, 0, [])) rfl).mpr ?_
  refine (rn_step (e := (.bipush 12, 44, 0, 0, 0, 0, 0, [])) rfl).mpr ?_
  refine (rn_step (e := (.invokestatic 40, 47, 1001, 5, 544, 3, 0, [0])) rfl).mpr (And.intro ((rn_aR1 (M := M) hM p_al1).1) (And.intro ((rn_aR1 (M := M) hM p_al0).1) (And.intro ((by decide)) (And.intro ((by decide)) (And.intro ((by decide)) (And.intro (rn_le2 (rn_aR1 (M := M) hM p_al1).2 (by decide)) (And.intro (rn_le2 (rn_aR1 (M := M) hM p_al0).2 (by decide)) (?_))))))))
  refine (rn_step (e := (.aload_n 1, 48, 1, 0, 0, 0, 0, [])) rfl).mpr ?_
  refine (rn_step (e := (.getfield 15, 51, 5, 6, 115, 2, 6, [])) rfl).mpr (And.intro ((rn_kR (M := M) hM p_al1)) (rn_cg (rn_gR6 (M := M) hM p_al1) ?_))
  refine (rn_step (e := (.iconst 0, 52, 0, 0, 0, 0, 0, [])) rfl).mpr ?_
  refine (rn_step (e := (.aload_n 0, 53, 0, 0, 0, 0, 0, [])) rfl).mpr ?_
  refine (rn_step (e := (.getfield 15, 56, 5, 6, 115, 2, 6, [])) rfl).mpr (And.intro ((rn_kR (M := M) hM p_al0)) (rn_cg (rn_gR6 (M := M) hM p_al0) ?_))
  refine (rn_step (e := (.iconst 0, 57, 0, 0, 0, 0, 0, [])) rfl).mpr ?_
  refine (rn_step (e := (.bipush 60, 59, 0, 0, 0, 0, 0, [])) rfl).mpr ?_
  refine (rn_step (e := (.invokestatic 40, 62, 1001, 5, 544, 3, 0, [0])) rfl).mpr (And.intro ((rn_aR2 (M := M) hM p_al1).1) (And.intro ((rn_aR2 (M := M) hM p_al0).1) (And.intro ((by decide)) (And.intro ((by decide)) (And.intro ((by decide)) (And.intro (rn_le2 (rn_aR2 (M := M) hM p_al1).2 (by decide)) (And.intro (rn_le2 (rn_aR2 (M := M) hM p_al0).2 (by decide)) (?_))))))))
  refine (rn_step (e := (.aload_n 1, 63, 1, 0, 0, 0, 0, [])) rfl).mpr ?_
  refine (rn_step (e := (.getfield 18, 66, 5, 7, 116, 2, 6, [])) rfl).mpr (And.intro ((rn_kR (M := M) hM p_al1)) (rn_cg (rn_gR7 (M := M) hM p_al1) ?_))
  refine (rn_step (e := (.iconst 0, 67, 0, 0, 0, 0, 0, [])) rfl).mpr ?_
  refine (rn_step (e := (.aload_n 0, 68, 0, 0, 0, 0, 0, [])) rfl).mpr ?_
  refine (rn_step (e := (.getfield 18, 71, 5, 7, 116, 2, 6, [])) rfl).mpr (And.intro ((rn_kR (M := M) hM p_al0)) (rn_cg (rn_gR7 (M := M) hM p_al0) ?_))
  refine (rn_step (e := (.iconst 0, 72, 0, 0, 0, 0, 0, [])) rfl).mpr ?_
  refine (rn_step (e := (.bipush 61, 74, 0, 0, 0, 0, 0, [])) rfl).mpr ?_
  refine (rn_step (e := (.invokestatic 40, 77, 1001, 5, 544, 3, 0, [0])) rfl).mpr (And.intro ((rn_aR3 (M := M) hM p_al1).1) (And.intro ((rn_aR3 (M := M) hM p_al0).1) (And.intro ((by decide)) (And.intro ((by decide)) (And.intro ((by decide)) (And.intro (rn_le2 (rn_aR3 (M := M) hM p_al1).2 (by decide)) (And.intro (rn_le2 (rn_aR3 (M := M) hM p_al0).2 (by decide)) (?_))))))))
  refine (rn_step (e := (.aload_n 1, 78, 1, 0, 0, 0, 0, [])) rfl).mpr ?_
  refine (rn_step (e := (.getfield 21, 81, 5, 8, 117, 2, 6, [])) rfl).mpr (And.intro ((rn_kR (M := M) hM p_al1)) (rn_cg (rn_gR8 (M := M) hM p_al1) ?_))
  refine (rn_step (e := (.iconst 0, 82, 0, 0, 0, 0, 0, [])) rfl).mpr ?_
  refine (rn_step (e := (.aload_n 0, 83, 0, 0, 0, 0, 0, [])) rfl).mpr ?_
  refine (rn_step (e := (.getfield 21, 86, 5, 8, 117, 2, 6, [])) rfl).mpr (And.intro ((rn_kR (M := M) hM p_al0)) (rn_cg (rn_gR8 (M := M) hM p_al0) ?_))
  refine (rn_step (e := (.iconst 0, 87, 0, 0, 0, 0, 0, [])) rfl).mpr ?_
  refine (rn_step (e := (.bipush 61, 89, 0, 0, 0, 0, 0, [])) rfl).mpr ?_
  refine (rn_step (e := (.invokestatic 40, 92, 1001, 5, 544, 3, 0, [0])) rfl).mpr (And.intro ((rn_aR4 (M := M) hM p_al1).1) (And.intro ((rn_aR4 (M := M) hM p_al0).1) (And.intro ((by decide)) (And.intro ((by decide)) (And.intro ((by decide)) (And.intro (rn_le2 (rn_aR4 (M := M) hM p_al1).2 (by decide)) (And.intro (rn_le2 (rn_aR4 (M := M) hM p_al0).2 (by decide)) (?_))))))))
  exact (rn_step (e := (.return_, 93, 0, 0, 0, 0, 0, [])) rfl).mpr k1
theorem re_Ri_forget {M : rn_M} {Q : rn_Q} {v0 : rn_V} (h : rn_WP 59 0 [v0] [] M Q) : rn_ME 59 [v0] M Q := h
set_option maxRecDepth 4000 in
theorem rb_Ri_forget_0 {M : rn_M} {Q : rn_Q} {al0 : Nat} (hM : rn_sh M) (p_al0 : rn_isR al0)  (k1 : Q none (rn_si (rn_si M al0 3 0) al0 4 0)) : rn_WP 59 0 [rn_R al0] [] M Q := by
  refine (rn_step (e := (.aload_n 0, 1, 0, 0, 0, 0, 0, [])) rfl).mpr ?_
  refine (rn_step (e := (.iconst 0, 2, 0, 0, 0, 0, 0, [])) rfl).mpr ?_
  refine (rn_step (e := (.putfield 34, 5, 5, 3, 108, 0, 6, [])) rfl).mpr (And.intro ((rn_kR (M := M) hM p_al0)) (?_))
  refine (rn_step (e := (.aload_n 0, 6, 0, 0, 0, 0, 0, [])) rfl).mpr ?_
  refine (rn_step (e := (.iconst 0, 7, 0, 0, 0, 0, 0, [])) rfl).mpr ?_
  refine (rn_step (e := (.putfield 37, 10, 5, 4, 111, 0, 6, [])) rfl).mpr (And.intro ((rn_kR (M := M) hM p_al0)) (?_))
  exact (rn_step (e := (.return_, 11, 0, 0, 0, 0, 0, [])) rfl).mpr k1
theorem re_Ri_addLetter {M : rn_M} {Q : rn_Q} {v0 v1 : rn_V} (h : rn_WP 60 0 [v0, v1] [] M Q) : rn_ME 60 [v0, v1] M Q := h
set_option maxRecDepth 4000 in
theorem rb_Ri_addLetter_0 {M : rn_M} {Q : rn_Q} {al0 : Nat} {xl1 : Int} (hM : rn_sh M) (p_al0 : rn_isR al0)  (hr1 : (0 ≤ rn_gi M al0 3 ∧ rn_gi M al0 3 ≤ 11) → (0 : Int) ≤ rn_gi M al0 3 ∧ rn_gi M al0 3 < (12 : Int) ∧ (-2147483648 : Int) ≤ rn_gi M al0 3 + 1 ∧ rn_gi M al0 3 + 1 ≤ 2147483647) (k1 : (¬ (0 ≤ rn_gi M al0 3 ∧ rn_gi M al0 3 ≤ 11)) → Q none M) (k2 : (0 ≤ rn_gi M al0 3 ∧ rn_gi M al0 3 ≤ 11) → Q none (rn_si (rn_si M (al0 + 1) (rn_gi M al0 3).toNat xl1) al0 3 (rn_gi M al0 3 + 1))) : rn_WP 60 0 [rn_R al0, rn_I xl1] [] M Q := by
  refine (rn_step (e := (.aload_n 0, 1, 0, 0, 0, 0, 0, [])) rfl).mpr ?_
  refine (rn_step (e := (.getfield 34, 4, 5, 3, 108, 0, 6, [])) rfl).mpr (And.intro ((rn_kR (M := M) hM p_al0)) (?_))
  refine (rn_step (e := (.iconst 0, 5, 0, 0, 0, 0, 0, [])) rfl).mpr ?_
  refine (rn_step (e := (.bipush 11, 7, 0, 0, 0, 0, 0, [])) rfl).mpr ?_
  refine (rn_step (e := (.invokestatic 46, 10, 118, 3, 9, 0, 10, [1])) rfl).mpr (rc_RN_within  ?_)
  refine (rn_step (e := (.ifCond .eq 23, 13, 33, 0, 0, 0, 0, [])) rfl).mpr (And.intro (fun q => ?_) (fun q => ?_))
  · have c1 := rn_b0 q
    exact (rn_step (e := (.return_, 34, 0, 0, 0, 0, 0, [])) rfl).mpr (k1 c1)
  · have c1 := rn_b1 q
    refine (rn_step (e := (.aload_n 0, 14, 0, 0, 0, 0, 0, [])) rfl).mpr ?_
    refine (rn_step (e := (.getfield 9, 17, 5, 5, 114, 2, 6, [])) rfl).mpr (And.intro ((rn_kR (M := M) hM p_al0)) (rn_cg (rn_gR5 (M := M) hM p_al0) ?_))
    refine (rn_step (e := (.aload_n 0, 18, 0, 0, 0, 0, 0, [])) rfl).mpr ?_
    refine (rn_step (e := (.getfield 34, 21, 5, 3, 108, 0, 6, [])) rfl).mpr (And.intro ((rn_kR (M := M) hM p_al0)) (?_))
    refine (rn_step (e := (.iload_n 1, 22, 1, 0, 0, 0, 0, [])) rfl).mpr ?_
    refine (rn_step (e := (.iastore, 23, 0, 0, 0, 0, 0, [])) rfl).mpr (And.intro ((rn_aR1 (M := M) hM p_al0).1) (And.intro ((And.intro ((hr1 c1).1) (rn_lt (rn_aR1 (M := M) hM p_al0).2 (hr1 c1).2.1))) (?_)))
    refine (rn_step (e := (.aload_n 0, 24, 0, 0, 0, 0, 0, [])) rfl).mpr ?_
    refine (rn_step (e := (.dup, 25, 0, 0, 0, 0, 0, [])) rfl).mpr ?_
    refine (rn_step (e := (.getfield 34, 28, 5, 3, 108, 0, 6, [])) rfl).mpr (And.intro ((rn_kR (M := M) hM p_al0)) (rn_cv (by rw [rn_si_gif (a := al0 + 1) (b := al0) (by omega)]) ?_))
    refine (rn_step (e := (.iconst 1, 29, 0, 0, 0, 0, 0, [])) rfl).mpr ?_
    refine (rn_step (e := (.iadd, 30, 0, 0, 0, 0, 0, [])) rfl).mpr (rn_cw (hr1 c1).2.2.1 (hr1 c1).2.2.2 ?_)
    refine (rn_step (e := (.putfield 34, 33, 5, 3, 108, 0, 6, [])) rfl).mpr (And.intro ((rn_kR (M := M) hM p_al0)) (?_))
    exact (rn_step (e := (.return_, 34, 0, 0, 0, 0, 0, [])) rfl).mpr (k2 c1)
theorem re_Ri_begin {M : rn_M} {Q : rn_Q} {v0 v1 v2 v3 v4 : rn_V} (h : rn_WP 61 0 [v0, v1, v2, v3, v4] [] M Q) : rn_ME 61 [v0, v1, v2, v3, v4] M Q := h
set_option maxRecDepth 4000 in
theorem rb_Ri_begin_0 {M : rn_M} {Q : rn_Q} {al0 : Nat} {xl1 : Int} {xl2 : Int} {xl3 : Int} {xl4 : Int} (hM : rn_sh M) (p_al0 : rn_isR al0)  (k1 : Q none (rn_si (rn_si (rn_si (rn_si M (al0 + 3) 0 xl1) (al0 + 4) 0 xl2) al0 1 xl3) al0 2 xl4)) : rn_WP 61 0 [rn_R al0, rn_I xl1, rn_I xl2, rn_I xl3, rn_I xl4] [] M Q := by
  refine (rn_step (e := (.aload_n 0, 1, 0, 0, 0, 0, 0, [])) rfl).mpr ?_
  refine (rn_step (e := (.getfield 18, 4, 5, 7, 116, 2, 6, [])) rfl).mpr (And.intro ((rn_kR (M := M) hM p_al0)) (rn_cg (rn_gR7 (M := M) hM p_al0) ?_))
  refine (rn_step (e := (.iconst 0, 5, 0, 0, 0, 0, 0, [])) rfl).mpr ?_
  refine (rn_step (e := (.iload_n 1, 6, 1, 0, 0, 0, 0, [])) rfl).mpr ?_
  refine (rn_step (e := (.iastore, 7, 0, 0, 0, 0, 0, [])) rfl).mpr (And.intro ((rn_aR3 (M := M) hM p_al0).1) (And.intro ((And.intro ((by decide)) (rn_lt (rn_aR3 (M := M) hM p_al0).2 (by decide)))) (?_)))
  refine (rn_step (e := (.aload_n 0, 8, 0, 0, 0, 0, 0, [])) rfl).mpr ?_
  refine (rn_step (e := (.getfield 21, 11, 5, 8, 117, 2, 6, [])) rfl).mpr (And.intro ((rn_kR (M := M) hM p_al0)) (rn_cg (rn_gR8 (M := M) hM p_al0) ?_))
  refine (rn_step (e := (.iconst 0, 12, 0, 0, 0, 0, 0, [])) rfl).mpr ?_
  refine (rn_step (e := (.iload_n 2, 13, 2, 0, 0, 0, 0, [])) rfl).mpr ?_
  refine (rn_step (e := (.iastore, 14, 0, 0, 0, 0, 0, [])) rfl).mpr (And.intro ((rn_aR4 (M := M) hM p_al0).1) (And.intro ((And.intro ((by decide)) (rn_lt (rn_aR4 (M := M) hM p_al0).2 (by decide)))) (?_)))
  refine (rn_step (e := (.aload_n 0, 15, 0, 0, 0, 0, 0, [])) rfl).mpr ?_
  refine (rn_step (e := (.iload_n 3, 16, 3, 0, 0, 0, 0, [])) rfl).mpr ?_
  refine (rn_step (e := (.putfield 28, 19, 5, 1, 99, 0, 6, [])) rfl).mpr (And.intro ((rn_kR (M := M) hM p_al0)) (?_))
  refine (rn_step (e := (.aload_n 0, 20, 0, 0, 0, 0, 0, [])) rfl).mpr ?_
  refine (rn_step (e := (.iload 4, 22, 4, 0, 0, 0, 0, [])) rfl).mpr ?_
  refine (rn_step (e := (.putfield 31, 25, 5, 2, 103, 0, 6, [])) rfl).mpr (And.intro ((rn_kR (M := M) hM p_al0)) (?_))
  exact (rn_step (e := (.return_, 26, 0, 0, 0, 0, 0, [])) rfl).mpr k1
theorem re_Ri_leavesMap {M : rn_M} {Q : rn_Q} {v0 v1 : rn_V} (h : rn_WP 62 0 [v0, v1] [] M Q) : rn_ME 62 [v0, v1] M Q := h
set_option maxRecDepth 4000 in
theorem rb_Ri_leavesMap_0 {M : rn_M} {Q : rn_Q} {al0 : Nat} {xl1 : Int} (hM : rn_sh M) (p_al0 : rn_isR al0)  (hr1 : (0 ≤ xl1 ∧ xl1 ≤ 7) → ((0 : Int) ≤ rn_gi M al0 4 ∧ rn_gi M al0 4 ≤ rn_gi M al0 4) ∧ rn_gi M al0 4 ≤ 60 ∧ (0 : Int) ≤ xl1 ∧ xl1 < (8 : Int) ∧ (-2147483648 : Int) ≤ rn_gi M (al0 + 3) (rn_gi M al0 4).toNat + (rn_gi M 1 (xl1).toNat) ∧ rn_gi M (al0 + 3) (rn_gi M al0 4).toNat + (rn_gi M 1 (xl1).toNat) ≤ 2147483647 ∧ (-2147483648 : Int) ≤ rn_gi M (al0 + 4) (rn_gi M al0 4).toNat + (rn_gi M 2 (xl1).toNat) ∧ rn_gi M (al0 + 4) (rn_gi M al0 4).toNat + (rn_gi M 2 (xl1).toNat) ≤ 2147483647) (k1 : (¬ (0 ≤ xl1 ∧ xl1 ≤ 7)) → Q (some (rn_I 1)) M) (k2 : (0 ≤ xl1 ∧ xl1 ≤ 7) → (¬ ((0 ≤ rn_gi M (al0 + 3) (rn_gi M al0 4).toNat + (rn_gi M 1 (xl1).toNat) ∧ rn_gi M (al0 + 3) (rn_gi M al0 4).toNat + (rn_gi M 1 (xl1).toNat) < 60) ∧ 0 ≤ rn_gi M (al0 + 4) (rn_gi M al0 4).toNat + (rn_gi M 2 (xl1).toNat) ∧ rn_gi M (al0 + 4) (rn_gi M al0 4).toNat + (rn_gi M 2 (xl1).toNat) < 40)) → Q (some (rn_I 1)) M) (k3 : (0 ≤ xl1 ∧ xl1 ≤ 7) → ((0 ≤ rn_gi M (al0 + 3) (rn_gi M al0 4).toNat + (rn_gi M 1 (xl1).toNat) ∧ rn_gi M (al0 + 3) (rn_gi M al0 4).toNat + (rn_gi M 1 (xl1).toNat) < 60) ∧ 0 ≤ rn_gi M (al0 + 4) (rn_gi M al0 4).toNat + (rn_gi M 2 (xl1).toNat) ∧ rn_gi M (al0 + 4) (rn_gi M al0 4).toNat + (rn_gi M 2 (xl1).toNat) < 40) → Q (some (rn_I 0)) M) : rn_WP 62 0 [rn_R al0, rn_I xl1] [] M Q := by
  refine (rn_step (e := (.iload_n 1, 1, 1, 0, 0, 0, 0, [])) rfl).mpr ?_
  refine (rn_step (e := (.iconst 0, 2, 0, 0, 0, 0, 0, [])) rfl).mpr ?_
  refine (rn_step (e := (.bipush 7, 4, 0, 0, 0, 0, 0, [])) rfl).mpr ?_
  refine (rn_step (e := (.invokestatic 46, 7, 118, 3, 9, 0, 10, [1])) rfl).mpr (rc_RN_within  ?_)
  refine (rn_step (e := (.ifCond .eq 37, 10, 44, 0, 0, 0, 0, [])) rfl).mpr (And.intro (fun q => ?_) (fun q => ?_))
  · have c1 := rn_b0 q
    refine (rn_step (e := (.iconst 1, 45, 0, 0, 0, 0, 0, [])) rfl).mpr ?_
    refine (rn_step (e := (.goto 4, 48, 49, 0, 0, 0, 0, [])) rfl).mpr ?_
    exact (rn_step (e := (.ireturn, 50, 0, 0, 0, 1, 0, [])) rfl).mpr (And.intro ((Or.inr rfl)) ((k1 c1)))
  · have c1 := rn_b1 q
    refine (rn_step (e := (.aload_n 0, 11, 0, 0, 0, 0, 0, [])) rfl).mpr ?_
    refine (rn_step (e := (.aload_n 0, 12, 0, 0, 0, 0, 0, [])) rfl).mpr ?_
    refine (rn_step (e := (.getfield 37, 15, 5, 4, 111, 0, 6, [])) rfl).mpr (And.intro ((rn_kR (M := M) hM p_al0)) (?_))
    refine (rn_step (e := (.invokevirtual 50, 18, 65, 2, 437, 0, 6, [0])) rfl).mpr (And.intro ((rn_kR (M := M) hM p_al0)) ((rc_Ri_columnAt hM p_al0 ((hr1 c1).1) ((hr1 c1).2.1) ?_)))
    refine (rn_step (e := (.getstatic 54, 21, 1, 1, 11, 0, 0, [])) rfl).mpr ?_
    refine (rn_step (e := (.iload_n 1, 22, 1, 0, 0, 0, 0, [])) rfl).mpr ?_
    refine (rn_step (e := (.iaload, 23, 0, 0, 0, 0, 0, [])) rfl).mpr (And.intro (Or.inr (rn_f1 (M := M) hM).1) (And.intro ((And.intro ((hr1 c1).2.2.1) (rn_lt (rn_f1 (M := M) hM).2 (hr1 c1).2.2.2.1))) (?_)))
    refine (rn_step (e := (.iadd, 24, 0, 0, 0, 0, 0, [])) rfl).mpr (rn_cw (hr1 c1).2.2.2.2.1 (hr1 c1).2.2.2.2.2.1 ?_)
    refine (rn_step (e := (.aload_n 0, 25, 0, 0, 0, 0, 0, [])) rfl).mpr ?_
    refine (rn_step (e := (.aload_n 0, 26, 0, 0, 0, 0, 0, [])) rfl).mpr ?_
    refine (rn_step (e := (.getfield 37, 29, 5, 4, 111, 0, 6, [])) rfl).mpr (And.intro ((rn_kR (M := M) hM p_al0)) (?_))
    refine (rn_step (e := (.invokevirtual 57, 32, 66, 2, 438, 0, 6, [0])) rfl).mpr (And.intro ((rn_kR (M := M) hM p_al0)) ((rc_Ri_rowAt hM p_al0 ((hr1 c1).1) ((hr1 c1).2.1) ?_)))
    refine (rn_step (e := (.getstatic 60, 35, 2, 1, 12, 0, 0, [])) rfl).mpr ?_
    refine (rn_step (e := (.iload_n 1, 36, 1, 0, 0, 0, 0, [])) rfl).mpr ?_
    refine (rn_step (e := (.iaload, 37, 0, 0, 0, 0, 0, [])) rfl).mpr (And.intro (Or.inr (rn_f2 (M := M) hM).1) (And.intro ((And.intro ((hr1 c1).2.2.1) (rn_lt (rn_f2 (M := M) hM).2 (hr1 c1).2.2.2.1))) (?_)))
    refine (rn_step (e := (.iadd, 38, 0, 0, 0, 0, 0, [])) rfl).mpr (rn_cw (hr1 c1).2.2.2.2.2.2.1 (hr1 c1).2.2.2.2.2.2.2 ?_)
    refine (rn_step (e := (.invokestatic 63, 41, 119, 2, 13, 0, 10, [1])) rfl).mpr (rc_RN_onMap  ?_)
    refine (rn_step (e := (.ifCond .ne 7, 44, 48, 0, 0, 0, 0, [])) rfl).mpr (And.intro (fun q => ?_) (fun q => ?_))
    · have c2 := rn_b0 q
      refine (rn_step (e := (.iconst 1, 45, 0, 0, 0, 0, 0, [])) rfl).mpr ?_
      refine (rn_step (e := (.goto 4, 48, 49, 0, 0, 0, 0, [])) rfl).mpr ?_
      exact (rn_step (e := (.ireturn, 50, 0, 0, 0, 1, 0, [])) rfl).mpr (And.intro ((Or.inr rfl)) ((k2 c1 c2)))
    · have c2 := rn_b1 q
      refine (rn_step (e := (.iconst 0, 49, 0, 0, 0, 0, 0, [])) rfl).mpr ?_
      exact (rn_step (e := (.ireturn, 50, 0, 0, 0, 1, 0, [])) rfl).mpr (And.intro ((Or.inl rfl)) ((k3 c1 c2)))
theorem re_Ri_lengthen {M : rn_M} {Q : rn_Q} {v0 v1 : rn_V} (h : rn_WP 63 0 [v0, v1] [] M Q) : rn_ME 63 [v0, v1] M Q := h
set_option maxRecDepth 4000 in
theorem rb_Ri_lengthen_0 {M : rn_M} {Q : rn_Q} {al0 : Nat} {xl1 : Int} (hM : rn_sh M) (p_al0 : rn_isR al0)  (k1 : (¬ (0 ≤ rn_gi M al0 4 ∧ rn_gi M al0 4 ≤ 59)) → Q (some (rn_I 0)) M) (k2 : (0 ≤ rn_gi M al0 4 ∧ rn_gi M al0 4 ≤ 59) → rn_ME 62 [rn_R al0, rn_I xl1] M (fun r M1 => rn_WP 63 18 [rn_R al0, rn_I xl1] (r.toList ++ []) M1 Q)) : rn_WP 63 0 [rn_R al0, rn_I xl1] [] M Q := by
  refine (rn_step (e := (.aload_n 0, 1, 0, 0, 0, 0, 0, [])) rfl).mpr ?_
  refine (rn_step (e := (.getfield 37, 4, 5, 4, 111, 0, 6, [])) rfl).mpr (And.intro ((rn_kR (M := M) hM p_al0)) (?_))
  refine (rn_step (e := (.iconst 0, 5, 0, 0, 0, 0, 0, [])) rfl).mpr ?_
  refine (rn_step (e := (.bipush 59, 7, 0, 0, 0, 0, 0, [])) rfl).mpr ?_
  refine (rn_step (e := (.invokestatic 46, 10, 118, 3, 9, 0, 10, [1])) rfl).mpr (rc_RN_within  ?_)
  refine (rn_step (e := (.ifCond .eq 11, 13, 21, 0, 0, 0, 0, [])) rfl).mpr (And.intro (fun q => ?_) (fun q => ?_))
  · have c1 := rn_b0 q
    refine (rn_step (e := (.iconst 0, 22, 0, 0, 0, 0, 0, [])) rfl).mpr ?_
    exact (rn_step (e := (.ireturn, 23, 0, 0, 0, 1, 0, [])) rfl).mpr (And.intro ((Or.inl rfl)) ((k1 c1)))
  · have c1 := rn_b1 q
    refine (rn_step (e := (.aload_n 0, 14, 0, 0, 0, 0, 0, [])) rfl).mpr ?_
    refine (rn_step (e := (.iload_n 1, 15, 1, 0, 0, 0, 0, [])) rfl).mpr ?_
    exact (rn_step (e := (.invokevirtual 67, 18, 62, 2, 615, 0, 6, [0])) rfl).mpr (And.intro ((rn_kR (M := M) hM p_al0)) ((k2 c1)))
set_option maxRecDepth 4000 in
theorem rb_Ri_lengthen_18 {M : rn_M} {Q : rn_Q} {al0 : Nat} {xl1 : Int} {xs0 : Int} (hM : rn_sh M) (p_al0 : rn_isR al0)  (hr1 : (xs0 = 0) → (-2147483648 : Int) ≤ rn_gi M al0 4 + 1 ∧ rn_gi M al0 4 + 1 ≤ 2147483647 ∧ (0 : Int) ≤ rn_gi M al0 4 ∧ rn_gi M al0 4 < (61 : Int) ∧ (0 : Int) ≤ xl1 ∧ xl1 < (8 : Int) ∧ (-2147483648 : Int) ≤ rn_gi M (al0 + 3) (rn_gi M al0 4).toNat + (rn_gi M 1 (xl1).toNat) ∧ rn_gi M (al0 + 3) (rn_gi M al0 4).toNat + (rn_gi M 1 (xl1).toNat) ≤ 2147483647 ∧ (0 : Int) ≤ rn_gi M al0 4 + 1 ∧ rn_gi M al0 4 + 1 < (61 : Int) ∧ (-2147483648 : Int) ≤ rn_gi M (al0 + 4) (rn_gi M al0 4).toNat + (rn_gi M 2 (xl1).toNat) ∧ rn_gi M (al0 + 4) (rn_gi M al0 4).toNat + (rn_gi M 2 (xl1).toNat) ≤ 2147483647 ∧ rn_gi M al0 4 < (60 : Int)) (k1 : (xs0 = 0) → Q (some (rn_I 1)) (rn_si (rn_si (rn_si (rn_si M (al0 + 3) (rn_gi M al0 4 + 1).toNat (rn_gi M (al0 + 3) (rn_gi M al0 4).toNat + (rn_gi M 1 (xl1).toNat))) (al0 + 4) (rn_gi M al0 4 + 1).toNat (rn_gi M (al0 + 4) (rn_gi M al0 4).toNat + (rn_gi M 2 (xl1).toNat))) (al0 + 2) (rn_gi M al0 4).toNat xl1) al0 4 (rn_gi M al0 4 + 1))) (k2 : (¬ (xs0 = 0)) → Q (some (rn_I 0)) M) : rn_WP 63 18 [rn_R al0, rn_I xl1] [rn_I xs0] M Q := by
  refine (rn_step (e := (.ifCond .eq 5, 21, 23, 0, 0, 0, 0, [])) rfl).mpr (And.intro (fun c1 => ?_) (fun c1 => ?_))
  ·
    refine (rn_step (e := (.aload_n 0, 24, 0, 0, 0, 0, 0, [])) rfl).mpr ?_
    refine (rn_step (e := (.getfield 18, 27, 5, 7, 116, 2, 6, [])) rfl).mpr (And.intro ((rn_kR (M := M) hM p_al0)) (rn_cg (rn_gR7 (M := M) hM p_al0) ?_))
    refine (rn_step (e := (.aload_n 0, 28, 0, 0, 0, 0, 0, [])) rfl).mpr ?_
    refine (rn_step (e := (.getfield 37, 31, 5, 4, 111, 0, 6, [])) rfl).mpr (And.intro ((rn_kR (M := M) hM p_al0)) (?_))
    refine (rn_step (e := (.iconst 1, 32, 0, 0, 0, 0, 0, [])) rfl).mpr ?_
    refine (rn_step (e := (.iadd, 33, 0, 0, 0, 0, 0, [])) rfl).mpr (rn_cw (hr1 c1).1 (hr1 c1).2.1 ?_)
    refine (rn_step (e := (.aload_n 0, 34, 0, 0, 0, 0, 0, [])) rfl).mpr ?_
    refine (rn_step (e := (.getfield 18, 37, 5, 7, 116, 2, 6, [])) rfl).mpr (And.intro ((rn_kR (M := M) hM p_al0)) (rn_cg (rn_gR7 (M := M) hM p_al0) ?_))
    refine (rn_step (e := (.aload_n 0, 38, 0, 0, 0, 0, 0, [])) rfl).mpr ?_
    refine (rn_step (e := (.getfield 37, 41, 5, 4, 111, 0, 6, [])) rfl).mpr (And.intro ((rn_kR (M := M) hM p_al0)) (?_))
    refine (rn_step (e := (.iaload, 42, 0, 0, 0, 0, 0, [])) rfl).mpr (And.intro (Or.inl (rn_aR3 (M := M) hM p_al0).1) (And.intro ((And.intro ((hr1 c1).2.2.1) (rn_lt (rn_aR3 (M := M) hM p_al0).2 (hr1 c1).2.2.2.1))) (?_)))
    refine (rn_step (e := (.getstatic 54, 45, 1, 1, 11, 0, 0, [])) rfl).mpr ?_
    refine (rn_step (e := (.iload_n 1, 46, 1, 0, 0, 0, 0, [])) rfl).mpr ?_
    refine (rn_step (e := (.iaload, 47, 0, 0, 0, 0, 0, [])) rfl).mpr (And.intro (Or.inr (rn_f1 (M := M) hM).1) (And.intro ((And.intro ((hr1 c1).2.2.2.2.1) (rn_lt (rn_f1 (M := M) hM).2 (hr1 c1).2.2.2.2.2.1))) (?_)))
    refine (rn_step (e := (.iadd, 48, 0, 0, 0, 0, 0, [])) rfl).mpr (rn_cw (hr1 c1).2.2.2.2.2.2.1 (hr1 c1).2.2.2.2.2.2.2.1 ?_)
    refine (rn_step (e := (.iastore, 49, 0, 0, 0, 0, 0, [])) rfl).mpr (And.intro ((rn_aR3 (M := M) hM p_al0).1) (And.intro ((And.intro ((hr1 c1).2.2.2.2.2.2.2.2.1) (rn_lt (rn_aR3 (M := M) hM p_al0).2 (hr1 c1).2.2.2.2.2.2.2.2.2.1))) (?_)))
    refine (rn_step (e := (.aload_n 0, 50, 0, 0, 0, 0, 0, [])) rfl).mpr ?_
    refine (rn_step (e := (.getfield 21, 53, 5, 8, 117, 2, 6, [])) rfl).mpr (And.intro ((rn_kR (M := M) hM p_al0)) (rn_cg (rn_gR8 (M := M) hM p_al0) ?_))
    refine (rn_step (e := (.aload_n 0, 54, 0, 0, 0, 0, 0, [])) rfl).mpr ?_
    refine (rn_step (e := (.getfield 37, 57, 5, 4, 111, 0, 6, [])) rfl).mpr (And.intro ((rn_kR (M := M) hM p_al0)) (rn_cv (by rw [rn_si_gif (a := al0 + 3) (b := al0) (by omega)]) ?_))
    refine (rn_step (e := (.iconst 1, 58, 0, 0, 0, 0, 0, [])) rfl).mpr ?_
    refine (rn_step (e := (.iadd, 59, 0, 0, 0, 0, 0, [])) rfl).mpr (rn_cw (hr1 c1).1 (hr1 c1).2.1 ?_)
    refine (rn_step (e := (.aload_n 0, 60, 0, 0, 0, 0, 0, [])) rfl).mpr ?_
    refine (rn_step (e := (.getfield 21, 63, 5, 8, 117, 2, 6, [])) rfl).mpr (And.intro ((rn_kR (M := M) hM p_al0)) (rn_cg (rn_gR8 (M := M) hM p_al0) ?_))
    refine (rn_step (e := (.aload_n 0, 64, 0, 0, 0, 0, 0, [])) rfl).mpr ?_
    refine (rn_step (e := (.getfield 37, 67, 5, 4, 111, 0, 6, [])) rfl).mpr (And.intro ((rn_kR (M := M) hM p_al0)) (rn_cv (by rw [rn_si_gif (a := al0 + 3) (b := al0) (by omega)]) ?_))
    refine (rn_step (e := (.iaload, 68, 0, 0, 0, 0, 0, [])) rfl).mpr (And.intro (Or.inl (rn_aR4 (M := M) hM p_al0).1) (And.intro ((And.intro ((hr1 c1).2.2.1) (rn_lt (rn_aR4 (M := M) hM p_al0).2 (hr1 c1).2.2.2.1))) (rn_cv (by rw [rn_si_gif (a := al0 + 3) (b := al0 + 4) (by omega)]) ?_)))
    refine (rn_step (e := (.getstatic 60, 71, 2, 1, 12, 0, 0, [])) rfl).mpr ?_
    refine (rn_step (e := (.iload_n 1, 72, 1, 0, 0, 0, 0, [])) rfl).mpr ?_
    refine (rn_step (e := (.iaload, 73, 0, 0, 0, 0, 0, [])) rfl).mpr (And.intro (Or.inr (rn_f2 (M := M) hM).1) (And.intro ((And.intro ((hr1 c1).2.2.2.2.1) (rn_lt (rn_f2 (M := M) hM).2 (hr1 c1).2.2.2.2.2.1))) (rn_cv (by rw [rn_si_gif (a := al0 + 3) (b := 2) (by have := rn_bdR p_al0; omega)]) ?_)))
    refine (rn_step (e := (.iadd, 74, 0, 0, 0, 0, 0, [])) rfl).mpr (rn_cw (hr1 c1).2.2.2.2.2.2.2.2.2.2.1 (hr1 c1).2.2.2.2.2.2.2.2.2.2.2.1 ?_)
    refine (rn_step (e := (.iastore, 75, 0, 0, 0, 0, 0, [])) rfl).mpr (And.intro ((rn_aR4 (M := M) hM p_al0).1) (And.intro ((And.intro ((hr1 c1).2.2.2.2.2.2.2.2.1) (rn_lt (rn_aR4 (M := M) hM p_al0).2 (hr1 c1).2.2.2.2.2.2.2.2.2.1))) (?_)))
    refine (rn_step (e := (.aload_n 0, 76, 0, 0, 0, 0, 0, [])) rfl).mpr ?_
    refine (rn_step (e := (.getfield 15, 79, 5, 6, 115, 2, 6, [])) rfl).mpr (And.intro ((rn_kR (M := M) hM p_al0)) (rn_cg (rn_gR6 (M := M) hM p_al0) ?_))
    refine (rn_step (e := (.aload_n 0, 80, 0, 0, 0, 0, 0, [])) rfl).mpr ?_
    refine (rn_step (e := (.getfield 37, 83, 5, 4, 111, 0, 6, [])) rfl).mpr (And.intro ((rn_kR (M := M) hM p_al0)) (rn_cv (by rw [rn_si_gif (a := al0 + 4) (b := al0) (by omega), rn_si_gif (a := al0 + 3) (b := al0) (by omega)]) ?_))
    refine (rn_step (e := (.iload_n 1, 84, 1, 0, 0, 0, 0, [])) rfl).mpr ?_
    refine (rn_step (e := (.iastore, 85, 0, 0, 0, 0, 0, [])) rfl).mpr (And.intro ((rn_aR2 (M := M) hM p_al0).1) (And.intro ((And.intro ((hr1 c1).2.2.1) (rn_lt (rn_aR2 (M := M) hM p_al0).2 (hr1 c1).2.2.2.2.2.2.2.2.2.2.2.2))) (?_)))
    refine (rn_step (e := (.aload_n 0, 86, 0, 0, 0, 0, 0, [])) rfl).mpr ?_
    refine (rn_step (e := (.dup, 87, 0, 0, 0, 0, 0, [])) rfl).mpr ?_
    refine (rn_step (e := (.getfield 37, 90, 5, 4, 111, 0, 6, [])) rfl).mpr (And.intro ((rn_kR (M := M) hM p_al0)) (rn_cv (by rw [rn_si_gif (a := al0 + 2) (b := al0) (by omega), rn_si_gif (a := al0 + 4) (b := al0) (by omega), rn_si_gif (a := al0 + 3) (b := al0) (by omega)]) ?_))
    refine (rn_step (e := (.iconst 1, 91, 0, 0, 0, 0, 0, [])) rfl).mpr ?_
    refine (rn_step (e := (.iadd, 92, 0, 0, 0, 0, 0, [])) rfl).mpr (rn_cw (hr1 c1).1 (hr1 c1).2.1 ?_)
    refine (rn_step (e := (.putfield 37, 95, 5, 4, 111, 0, 6, [])) rfl).mpr (And.intro ((rn_kR (M := M) hM p_al0)) (?_))
    refine (rn_step (e := (.iconst 1, 96, 0, 0, 0, 0, 0, [])) rfl).mpr ?_
    exact (rn_step (e := (.ireturn, 97, 0, 0, 0, 1, 0, [])) rfl).mpr (And.intro ((Or.inr rfl)) ((k1 c1)))
  ·
    refine (rn_step (e := (.iconst 0, 22, 0, 0, 0, 0, 0, [])) rfl).mpr ?_
    exact (rn_step (e := (.ireturn, 23, 0, 0, 0, 1, 0, [])) rfl).mpr (And.intro ((Or.inl rfl)) ((k2 c1)))
theorem re_Ri_turnBehind {M : rn_M} {Q : rn_Q} {v0 v1 : rn_V} (h : rn_WP 69 0 [v0, v1, rn_J] [] M Q) : rn_ME 69 [v0, v1] M Q := h
set_option maxRecDepth 4000 in
theorem rb_Ri_turnBehind_0 {M : rn_M} {Q : rn_Q} {al0 : Nat} {xl1 : Int} {vl2 : rn_V} (hM : rn_sh M) (p_al0 : rn_isR al0)  (hr1 : (¬ (xl1 < 0)) → (-2147483648 : Int) ≤ (rn_gi M al0 4) - 1 ∧ (rn_gi M al0 4) - 1 ≤ 2147483647) (hr2 : (¬ (xl1 < 0)) → (xl1 < (rn_gi M al0 4) - 1) → (0 : Int) ≤ xl1 ∧ xl1 < (60 : Int) ∧ (-2147483648 : Int) ≤ xl1 + 1 ∧ xl1 + 1 ≤ 2147483647 ∧ (0 : Int) ≤ xl1 + 1 ∧ xl1 + 1 < (60 : Int) ∧ (-2147483648 : Int) ≤ (rn_gi M (al0 + 2) (xl1).toNat) - (rn_gi M (al0 + 2) (xl1 + 1).toNat) ∧ (rn_gi M (al0 + 2) (xl1).toNat) - (rn_gi M (al0 + 2) (xl1 + 1).toNat) ≤ 2147483647 ∧ (-2147483648 : Int) ≤ max ((rn_gi M (al0 + 2) (xl1).toNat) - (rn_gi M (al0 + 2) (xl1 + 1).toNat)) (-((rn_gi M (al0 + 2) (xl1).toNat) - (rn_gi M (al0 + 2) (xl1 + 1).toNat))) ∧ max ((rn_gi M (al0 + 2) (xl1).toNat) - (rn_gi M (al0 + 2) (xl1 + 1).toNat)) (-((rn_gi M (al0 + 2) (xl1).toNat) - (rn_gi M (al0 + 2) (xl1 + 1).toNat))) ≤ 2147483647 ∧ (-2147483648 : Int) ≤ 8 - (max ((rn_gi M (al0 + 2) (xl1).toNat) - (rn_gi M (al0 + 2) (xl1 + 1).toNat)) (-((rn_gi M (al0 + 2) (xl1).toNat) - (rn_gi M (al0 + 2) (xl1 + 1).toNat)))) ∧ 8 - (max ((rn_gi M (al0 + 2) (xl1).toNat) - (rn_gi M (al0 + 2) (xl1 + 1).toNat)) (-((rn_gi M (al0 + 2) (xl1).toNat) - (rn_gi M (al0 + 2) (xl1 + 1).toNat)))) ≤ 2147483647) (k1 : (xl1 < 0) → Q (some (rn_I 0)) M) (k2 : (¬ (xl1 < 0)) → (xl1 < (rn_gi M al0 4) - 1) → Q (some (rn_I (min (max ((rn_gi M (al0 + 2) (xl1).toNat) - (rn_gi M (al0 + 2) (xl1 + 1).toNat)) (-((rn_gi M (al0 + 2) (xl1).toNat) - (rn_gi M (al0 + 2) (xl1 + 1).toNat)))) (8 - (max ((rn_gi M (al0 + 2) (xl1).toNat) - (rn_gi M (al0 + 2) (xl1 + 1).toNat)) (-((rn_gi M (al0 + 2) (xl1).toNat) - (rn_gi M (al0 + 2) (xl1 + 1).toNat)))))))) M) (k3 : (¬ (xl1 < 0)) → (¬ (xl1 < (rn_gi M al0 4) - 1)) → Q (some (rn_I 0)) M) : rn_WP 69 0 [rn_R al0, rn_I xl1, vl2] [] M Q := by
  refine (rn_step (e := (.iload_n 1, 1, 1, 0, 0, 0, 0, [])) rfl).mpr ?_
  refine (rn_step (e := (.ifCond .lt 13, 4, 14, 0, 0, 0, 0, [])) rfl).mpr (And.intro (fun c1 => ?_) (fun c1 => ?_))
  ·
    refine (rn_step (e := (.iconst 0, 15, 0, 0, 0, 0, 0, [])) rfl).mpr ?_
    exact (rn_step (e := (.ireturn, 16, 0, 0, 0, 0, 0, [])) rfl).mpr (And.intro (trivial) ((k1 c1)))
  ·
    refine (rn_step (e := (.iload_n 1, 5, 1, 0, 0, 0, 0, [])) rfl).mpr ?_
    refine (rn_step (e := (.aload_n 0, 6, 0, 0, 0, 0, 0, [])) rfl).mpr ?_
    refine (rn_step (e := (.getfield 37, 9, 5, 4, 111, 0, 6, [])) rfl).mpr (And.intro ((rn_kR (M := M) hM p_al0)) (?_))
    refine (rn_step (e := (.iconst 1, 10, 0, 0, 0, 0, 0, [])) rfl).mpr ?_
    refine (rn_step (e := (.isub, 11, 0, 0, 0, 0, 0, [])) rfl).mpr (rn_cw (hr1 c1).1 (hr1 c1).2 ?_)
    refine (rn_step (e := (.if_icmp .lt 5, 14, 16, 0, 0, 0, 0, [])) rfl).mpr (And.intro (fun c2 => ?_) (fun c2 => ?_))
    ·
      refine (rn_step (e := (.aload_n 0, 17, 0, 0, 0, 0, 0, [])) rfl).mpr ?_
      refine (rn_step (e := (.getfield 15, 20, 5, 6, 115, 2, 6, [])) rfl).mpr (And.intro ((rn_kR (M := M) hM p_al0)) (rn_cg (rn_gR6 (M := M) hM p_al0) ?_))
      refine (rn_step (e := (.iload_n 1, 21, 1, 0, 0, 0, 0, [])) rfl).mpr ?_
      refine (rn_step (e := (.iaload, 22, 0, 0, 0, 0, 0, [])) rfl).mpr (And.intro (Or.inl (rn_aR2 (M := M) hM p_al0).1) (And.intro ((And.intro ((hr2 c1 c2).1) (rn_lt (rn_aR2 (M := M) hM p_al0).2 (hr2 c1 c2).2.1))) (?_)))
      refine (rn_step (e := (.aload_n 0, 23, 0, 0, 0, 0, 0, [])) rfl).mpr ?_
      refine (rn_step (e := (.getfield 15, 26, 5, 6, 115, 2, 6, [])) rfl).mpr (And.intro ((rn_kR (M := M) hM p_al0)) (rn_cg (rn_gR6 (M := M) hM p_al0) ?_))
      refine (rn_step (e := (.iload_n 1, 27, 1, 0, 0, 0, 0, [])) rfl).mpr ?_
      refine (rn_step (e := (.iconst 1, 28, 0, 0, 0, 0, 0, [])) rfl).mpr ?_
      refine (rn_step (e := (.iadd, 29, 0, 0, 0, 0, 0, [])) rfl).mpr (rn_cw (hr2 c1 c2).2.2.1 (hr2 c1 c2).2.2.2.1 ?_)
      refine (rn_step (e := (.iaload, 30, 0, 0, 0, 0, 0, [])) rfl).mpr (And.intro (Or.inl (rn_aR2 (M := M) hM p_al0).1) (And.intro ((And.intro ((hr2 c1 c2).2.2.2.2.1) (rn_lt (rn_aR2 (M := M) hM p_al0).2 (hr2 c1 c2).2.2.2.2.2.1))) (?_)))
      refine (rn_step (e := (.isub, 31, 0, 0, 0, 0, 0, [])) rfl).mpr (rn_cw (hr2 c1 c2).2.2.2.2.2.2.1 (hr2 c1 c2).2.2.2.2.2.2.2.1 ?_)
      refine (rn_step (e := (.invokestatic 74, 34, 204, 1, 305, 7, 0, [0])) rfl).mpr (rn_cw (hr2 c1 c2).2.2.2.2.2.2.2.2.1 (hr2 c1 c2).2.2.2.2.2.2.2.2.2.1 ?_)
      refine (rn_step (e := (.istore_n 2, 35, 2, 0, 0, 0, 0, [])) rfl).mpr ?_
      refine (rn_step (e := (.iload_n 2, 36, 2, 0, 0, 0, 0, [])) rfl).mpr ?_
      refine (rn_step (e := (.bipush 8, 38, 0, 0, 0, 0, 0, [])) rfl).mpr ?_
      refine (rn_step (e := (.iload_n 2, 39, 2, 0, 0, 0, 0, [])) rfl).mpr ?_
      refine (rn_step (e := (.isub, 40, 0, 0, 0, 0, 0, [])) rfl).mpr (rn_cw (hr2 c1 c2).2.2.2.2.2.2.2.2.2.2.1 (hr2 c1 c2).2.2.2.2.2.2.2.2.2.2.2 ?_)
      refine (rn_step (e := (.invokestatic 79, 43, 206, 2, 308, 6, 0, [0])) rfl).mpr ?_
      exact (rn_step (e := (.ireturn, 44, 0, 0, 0, 0, 0, [])) rfl).mpr (And.intro (trivial) ((k2 c1 c2)))
    ·
      refine (rn_step (e := (.iconst 0, 15, 0, 0, 0, 0, 0, [])) rfl).mpr ?_
      exact (rn_step (e := (.ireturn, 16, 0, 0, 0, 0, 0, [])) rfl).mpr (And.intro (trivial) ((k3 c1 c2)))
theorem re_Ri_bendOf {M : rn_M} {Q : rn_Q} {v0 v1 v2 : rn_V} (h : rn_WP 70 0 [v0, v1, v2, rn_J, rn_J] [] M Q) : rn_ME 70 [v0, v1, v2] M Q := h
set_option maxRecDepth 4000 in
theorem rb_Ri_bendOf_0 {M : rn_M} {Q : rn_Q} {vl0 : rn_V} {xl1 : Int} {vl2 : rn_V} {vl3 : rn_V} {vl4 : rn_V}   (k1 : rn_WP 70 5 [vl0, rn_I xl1, vl2, rn_I 0, rn_I xl1] [] M Q) : rn_WP 70 0 [vl0, rn_I xl1, vl2, vl3, vl4] [] M Q := by
  refine (rn_step (e := (.iconst 0, 1, 0, 0, 0, 0, 0, [])) rfl).mpr ?_
  refine (rn_step (e := (.istore_n 3, 2, 3, 0, 0, 0, 0, [])) rfl).mpr ?_
  refine (rn_step (e := (.iload_n 1, 3, 1, 0, 0, 0, 0, [])) rfl).mpr ?_
  refine (rn_step (e := (.istore 4, 5, 4, 0, 0, 0, 0, [])) rfl).mpr ?_
  exact k1
set_option maxRecDepth 4000 in
theorem rb_Ri_bendOf_5 {M : rn_M} {Q : rn_Q} {al0 : Nat} {xl1 : Int} {xl2 : Int} {xl3 : Int} {xl4 : Int} (hM : rn_sh M) (p_al0 : rn_isR al0)  (hr1 : (-2147483648 : Int) ≤ xl1 + xl2 ∧ xl1 + xl2 ≤ 2147483647 ∧ (-2147483648 : Int) ≤ (xl1 + xl2) - 2 ∧ (xl1 + xl2) - 2 ≤ 2147483647) (k1 : (xl4 < (xl1 + xl2) - 2) → rn_ME 69 [rn_R al0, rn_I xl4] M (fun r M1 => rn_WP 70 22 [rn_R al0, rn_I xl1, rn_I xl2, rn_I xl3, rn_I xl4] (r.toList ++ [rn_I xl3]) M1 Q)) (k2 : (¬ (xl4 < (xl1 + xl2) - 2)) → Q (some (rn_I xl3)) M) : rn_WP 70 5 [rn_R al0, rn_I xl1, rn_I xl2, rn_I xl3, rn_I xl4] [] M Q := by
  refine (rn_step (e := (.iload 4, 7, 4, 0, 0, 0, 0, [])) rfl).mpr ?_
  refine (rn_step (e := (.iload_n 1, 8, 1, 0, 0, 0, 0, [])) rfl).mpr ?_
  refine (rn_step (e := (.iload_n 2, 9, 2, 0, 0, 0, 0, [])) rfl).mpr ?_
  refine (rn_step (e := (.iadd, 10, 0, 0, 0, 0, 0, [])) rfl).mpr (rn_cw hr1.1 hr1.2.1 ?_)
  refine (rn_step (e := (.iconst 2, 11, 0, 0, 0, 0, 0, [])) rfl).mpr ?_
  refine (rn_step (e := (.isub, 12, 0, 0, 0, 0, 0, [])) rfl).mpr (rn_cw hr1.2.2.1 hr1.2.2.2 ?_)
  refine (rn_step (e := (.if_icmp .ge 18, 15, 30, 0, 0, 0, 0, [])) rfl).mpr (And.intro (fun c1 => ?_) (fun c1 => ?_))
  ·
    refine (rn_step (e := (.iload_n 3, 16, 3, 0, 0, 0, 0, [])) rfl).mpr ?_
    refine (rn_step (e := (.aload_n 0, 17, 0, 0, 0, 0, 0, [])) rfl).mpr ?_
    refine (rn_step (e := (.iload 4, 19, 4, 0, 0, 0, 0, [])) rfl).mpr ?_
    exact (rn_step (e := (.invokevirtual 83, 22, 69, 2, 301, 0, 6, [0])) rfl).mpr (And.intro ((rn_kR (M := M) hM p_al0)) ((k1 c1)))
  ·
    refine (rn_step (e := (.iload_n 3, 31, 3, 0, 0, 0, 0, [])) rfl).mpr ?_
    exact (rn_step (e := (.ireturn, 32, 0, 0, 0, 0, 0, [])) rfl).mpr (And.intro (trivial) ((k2 c1)))
set_option maxRecDepth 4000 in
theorem rb_Ri_bendOf_22 {M : rn_M} {Q : rn_Q} {vl0 : rn_V} {vl1 : rn_V} {vl2 : rn_V} {vl3 : rn_V} {xl4 : Int} {xs0 : Int} {xs1 : Int}   (hr1 : (-2147483648 : Int) ≤ xs1 + xs0 ∧ xs1 + xs0 ≤ 2147483647 ∧ (-2147483648 : Int) ≤ xl4 + 1 ∧ xl4 + 1 ≤ 2147483647) (k1 : rn_WP 70 5 [vl0, vl1, vl2, rn_I (xs1 + xs0), rn_I (xl4 + 1)] [] M Q) : rn_WP 70 22 [vl0, vl1, vl2, vl3, rn_I xl4] [rn_I xs0, rn_I xs1] M Q := by
  refine (rn_step (e := (.iadd, 23, 0, 0, 0, 0, 0, [])) rfl).mpr (rn_cw hr1.1 hr1.2.1 ?_)
  refine (rn_step (e := (.istore_n 3, 24, 3, 0, 0, 0, 0, [])) rfl).mpr ?_
  refine (rn_step (e := (.iinc 4 1, 27, 4, 0, 0, 0, 0, [])) rfl).mpr (rn_ci hr1.2.2.1 hr1.2.2.2 ?_)
  refine (rn_step (e := (.goto (-22), 30, 5, 0, 0, 0, 0, [])) rfl).mpr ?_
  exact k1
theorem re_Ri_straightestStart {M : rn_M} {Q : rn_Q} {v0 v1 : rn_V} (h : rn_WP 71 0 [v0, v1, rn_J, rn_J, rn_J, rn_J] [] M Q) : rn_ME 71 [v0, v1] M Q := h
set_option maxRecDepth 4000 in
theorem rb_Ri_straightestStart_0 {M : rn_M} {Q : rn_Q} {vl0 : rn_V} {vl1 : rn_V} {vl2 : rn_V} {vl3 : rn_V} {vl4 : rn_V} {vl5 : rn_V}   (k1 : rn_WP 71 8 [vl0, vl1, rn_I (-9), rn_I 0, rn_I 0, vl5] [] M Q) : rn_WP 71 0 [vl0, vl1, vl2, vl3, vl4, vl5] [] M Q := by
  refine (rn_step (e := (.bipush (-9), 2, 0, 0, 0, 0, 0, [])) rfl).mpr ?_
  refine (rn_step (e := (.istore_n 2, 3, 2, 0, 0, 0, 0, [])) rfl).mpr ?_
  refine (rn_step (e := (.iconst 0, 4, 0, 0, 0, 0, 0, [])) rfl).mpr ?_
  refine (rn_step (e := (.istore_n 3, 5, 3, 0, 0, 0, 0, [])) rfl).mpr ?_
  refine (rn_step (e := (.iconst 0, 6, 0, 0, 0, 0, 0, [])) rfl).mpr ?_
  refine (rn_step (e := (.istore 4, 8, 4, 0, 0, 0, 0, [])) rfl).mpr ?_
  exact k1
set_option maxRecDepth 4000 in
theorem rb_Ri_straightestStart_8 {M : rn_M} {Q : rn_Q} {al0 : Nat} {xl1 : Int} {xl2 : Int} {vl3 : rn_V} {xl4 : Int} {vl5 : rn_V} (hM : rn_sh M) (p_al0 : rn_isR al0)  (hr1 : ((-1000 : Int) ≤ xl1 ∧ (xl1 : Int) ≤ 1000) ∧ (-1000 ≤ rn_gi M al0 4 ∧ rn_gi M al0 4 ≤ 1000)) (k1 : (rn_gi M al0 4 + 1 - xl1 < xl4) → Q (some (rn_I xl2)) M) (k2 : (¬ (rn_gi M al0 4 + 1 - xl1 < xl4)) → rn_ME 70 [rn_R al0, rn_I xl4, rn_I xl1] M (fun r M1 => rn_WP 71 25 [rn_R al0, rn_I xl1, rn_I xl2, vl3, rn_I xl4, vl5] (r.toList ++ []) M1 Q)) : rn_WP 71 8 [rn_R al0, rn_I xl1, rn_I xl2, vl3, rn_I xl4, vl5] [] M Q := by
  refine (rn_step (e := (.iload 4, 10, 4, 0, 0, 0, 0, [])) rfl).mpr ?_
  refine (rn_step (e := (.aload_n 0, 11, 0, 0, 0, 0, 0, [])) rfl).mpr ?_
  refine (rn_step (e := (.iload_n 1, 12, 1, 0, 0, 0, 0, [])) rfl).mpr ?_
  refine (rn_step (e := (.invokevirtual 86, 15, 68, 2, 700, 0, 6, [0])) rfl).mpr (And.intro ((rn_kR (M := M) hM p_al0)) ((rc_Ri_lastStart hM p_al0 (hr1.1) (hr1.2) ?_)))
  refine (rn_step (e := (.if_icmp .gt 36, 18, 51, 0, 0, 0, 0, [])) rfl).mpr (And.intro (fun c1 => ?_) (fun c1 => ?_))
  ·
    refine (rn_step (e := (.iload_n 2, 52, 2, 0, 0, 0, 0, [])) rfl).mpr ?_
    exact (rn_step (e := (.ireturn, 53, 0, 0, 0, 0, 0, [])) rfl).mpr (And.intro (trivial) ((k1 c1)))
  ·
    refine (rn_step (e := (.aload_n 0, 19, 0, 0, 0, 0, 0, [])) rfl).mpr ?_
    refine (rn_step (e := (.iload 4, 21, 4, 0, 0, 0, 0, [])) rfl).mpr ?_
    refine (rn_step (e := (.iload_n 1, 22, 1, 0, 0, 0, 0, [])) rfl).mpr ?_
    exact (rn_step (e := (.invokevirtual 89, 25, 70, 3, 297, 0, 6, [0])) rfl).mpr (And.intro ((rn_kR (M := M) hM p_al0)) ((k2 c1)))
set_option maxRecDepth 4000 in
theorem rb_Ri_straightestStart_25 {M : rn_M} {Q : rn_Q} {vl0 : rn_V} {vl1 : rn_V} {xl2 : Int} {xl3 : Int} {xl4 : Int} {vl5 : rn_V} {xs0 : Int}   (hr1 : (xl2 = (-9)) → (-2147483648 : Int) ≤ xl4 + 1 ∧ xl4 + 1 ≤ 2147483647) (hr2 : (¬ (xl2 = (-9))) → (xs0 < xl3) → (-2147483648 : Int) ≤ xl4 + 1 ∧ xl4 + 1 ≤ 2147483647) (hr3 : (¬ (xl2 = (-9))) → (¬ (xs0 < xl3)) → (-2147483648 : Int) ≤ xl4 + 1 ∧ xl4 + 1 ≤ 2147483647) (k1 : (xl2 = (-9)) → rn_WP 71 8 [vl0, vl1, rn_I xl4, rn_I xs0, rn_I (xl4 + 1), rn_I xs0] [] M Q) (k2 : (¬ (xl2 = (-9))) → (xs0 < xl3) → rn_WP 71 8 [vl0, vl1, rn_I xl4, rn_I xs0, rn_I (xl4 + 1), rn_I xs0] [] M Q) (k3 : (¬ (xl2 = (-9))) → (¬ (xs0 < xl3)) → rn_WP 71 8 [vl0, vl1, rn_I xl2, rn_I xl3, rn_I (xl4 + 1), rn_I xs0] [] M Q) : rn_WP 71 25 [vl0, vl1, rn_I xl2, rn_I xl3, rn_I xl4, vl5] [rn_I xs0] M Q := by
  refine (rn_step (e := (.istore 5, 27, 5, 0, 0, 0, 0, [])) rfl).mpr ?_
  refine (rn_step (e := (.iload_n 2, 28, 2, 0, 0, 0, 0, [])) rfl).mpr ?_
  refine (rn_step (e := (.bipush (-9), 30, 0, 0, 0, 0, 0, [])) rfl).mpr ?_
  refine (rn_step (e := (.if_icmp .eq 9, 33, 39, 0, 0, 0, 0, [])) rfl).mpr (And.intro (fun c1 => ?_) (fun c1 => ?_))
  ·
    refine (rn_step (e := (.iload 4, 41, 4, 0, 0, 0, 0, [])) rfl).mpr ?_
    refine (rn_step (e := (.istore_n 2, 42, 2, 0, 0, 0, 0, [])) rfl).mpr ?_
    refine (rn_step (e := (.iload 5, 44, 5, 0, 0, 0, 0, [])) rfl).mpr ?_
    refine (rn_step (e := (.istore_n 3, 45, 3, 0, 0, 0, 0, [])) rfl).mpr ?_
    refine (rn_step (e := (.iinc 4 1, 48, 4, 0, 0, 0, 0, [])) rfl).mpr (rn_ci (hr1 c1).1 (hr1 c1).2 ?_)
    refine (rn_step (e := (.goto (-40), 51, 8, 0, 0, 0, 0, [])) rfl).mpr ?_
    exact (k1 c1)
  ·
    refine (rn_step (e := (.iload 5, 35, 5, 0, 0, 0, 0, [])) rfl).mpr ?_
    refine (rn_step (e := (.iload_n 3, 36, 3, 0, 0, 0, 0, [])) rfl).mpr ?_
    refine (rn_step (e := (.if_icmp .ge 9, 39, 45, 0, 0, 0, 0, [])) rfl).mpr (And.intro (fun c2 => ?_) (fun c2 => ?_))
    ·
      refine (rn_step (e := (.iload 4, 41, 4, 0, 0, 0, 0, [])) rfl).mpr ?_
      refine (rn_step (e := (.istore_n 2, 42, 2, 0, 0, 0, 0, [])) rfl).mpr ?_
      refine (rn_step (e := (.iload 5, 44, 5, 0, 0, 0, 0, [])) rfl).mpr ?_
      refine (rn_step (e := (.istore_n 3, 45, 3, 0, 0, 0, 0, [])) rfl).mpr ?_
      refine (rn_step (e := (.iinc 4 1, 48, 4, 0, 0, 0, 0, [])) rfl).mpr (rn_ci (hr2 c1 c2).1 (hr2 c1 c2).2 ?_)
      refine (rn_step (e := (.goto (-40), 51, 8, 0, 0, 0, 0, [])) rfl).mpr ?_
      exact (k2 c1 c2)
    ·
      refine (rn_step (e := (.iinc 4 1, 48, 4, 0, 0, 0, 0, [])) rfl).mpr (rn_ci (hr3 c1 c2).1 (hr3 c1 c2).2 ?_)
      refine (rn_step (e := (.goto (-40), 51, 8, 0, 0, 0, 0, [])) rfl).mpr ?_
      exact (k3 c1 c2)
theorem re_Ri_costOf {M : rn_M} {Q : rn_Q} {v0 v1 : rn_V} (h : rn_WP 72 0 [v0, v1] [] M Q) : rn_ME 72 [v0, v1] M Q := h
set_option maxRecDepth 4000 in
theorem rb_Ri_costOf_0 {M : rn_M} {Q : rn_Q} {al0 : Nat} {xl1 : Int} (hM : rn_sh M) (p_al0 : rn_isR al0)  (k1 : rn_ME 70 [rn_R al0, rn_I xl1, rn_I (rn_gi M al0 3)] M (fun r M1 => rn_WP 72 11 [rn_R al0, rn_I xl1] (r.toList ++ [rn_I 10]) M1 Q)) : rn_WP 72 0 [rn_R al0, rn_I xl1] [] M Q := by
  refine (rn_step (e := (.bipush 10, 2, 0, 0, 0, 0, 0, [])) rfl).mpr ?_
  refine (rn_step (e := (.aload_n 0, 3, 0, 0, 0, 0, 0, [])) rfl).mpr ?_
  refine (rn_step (e := (.iload_n 1, 4, 1, 0, 0, 0, 0, [])) rfl).mpr ?_
  refine (rn_step (e := (.aload_n 0, 5, 0, 0, 0, 0, 0, [])) rfl).mpr ?_
  refine (rn_step (e := (.getfield 34, 8, 5, 3, 108, 0, 6, [])) rfl).mpr (And.intro ((rn_kR (M := M) hM p_al0)) (?_))
  exact (rn_step (e := (.invokevirtual 89, 11, 70, 3, 297, 0, 6, [0])) rfl).mpr (And.intro ((rn_kR (M := M) hM p_al0)) (k1))
set_option maxRecDepth 4000 in
theorem rb_Ri_costOf_11 {M : rn_M} {Q : rn_Q} {al0 : Nat} {xl1 : Int} {xs0 : Int} {xs1 : Int} (hM : rn_sh M) (p_al0 : rn_isR al0)  (hr1 : (-2147483648 : Int) ≤ xs1 * xs0 ∧ xs1 * xs0 ≤ 2147483647 ∧ (-2147483648 : Int) ≤ 2 * xl1 ∧ 2 * xl1 ≤ 2147483647 ∧ (-2147483648 : Int) ≤ (2 * xl1) + (rn_gi M al0 3) ∧ (2 * xl1) + (rn_gi M al0 3) ≤ 2147483647 ∧ (-2147483648 : Int) ≤ ((2 * xl1) + (rn_gi M al0 3)) - 1 ∧ ((2 * xl1) + (rn_gi M al0 3)) - 1 ≤ 2147483647 ∧ (-2147483648 : Int) ≤ (((2 * xl1) + (rn_gi M al0 3)) - 1) - (rn_gi M al0 4) ∧ (((2 * xl1) + (rn_gi M al0 3)) - 1) - (rn_gi M al0 4) ≤ 2147483647 ∧ (-2147483648 : Int) ≤ max ((((2 * xl1) + (rn_gi M al0 3)) - 1) - (rn_gi M al0 4)) (-((((2 * xl1) + (rn_gi M al0 3)) - 1) - (rn_gi M al0 4))) ∧ max ((((2 * xl1) + (rn_gi M al0 3)) - 1) - (rn_gi M al0 4)) (-((((2 * xl1) + (rn_gi M al0 3)) - 1) - (rn_gi M al0 4))) ≤ 2147483647 ∧ (-2147483648 : Int) ≤ (xs1 * xs0) + (max ((((2 * xl1) + (rn_gi M al0 3)) - 1) - (rn_gi M al0 4)) (-((((2 * xl1) + (rn_gi M al0 3)) - 1) - (rn_gi M al0 4)))) ∧ (xs1 * xs0) + (max ((((2 * xl1) + (rn_gi M al0 3)) - 1) - (rn_gi M al0 4)) (-((((2 * xl1) + (rn_gi M al0 3)) - 1) - (rn_gi M al0 4)))) ≤ 2147483647) (k1 : Q (some (rn_I ((xs1 * xs0) + (max ((((2 * xl1) + (rn_gi M al0 3)) - 1) - (rn_gi M al0 4)) (-((((2 * xl1) + (rn_gi M al0 3)) - 1) - (rn_gi M al0 4))))))) M) : rn_WP 72 11 [rn_R al0, rn_I xl1] [rn_I xs0, rn_I xs1] M Q := by
  refine (rn_step (e := (.imul, 12, 0, 0, 0, 0, 0, [])) rfl).mpr (rn_cw hr1.1 hr1.2.1 ?_)
  refine (rn_step (e := (.iconst 2, 13, 0, 0, 0, 0, 0, [])) rfl).mpr ?_
  refine (rn_step (e := (.iload_n 1, 14, 1, 0, 0, 0, 0, [])) rfl).mpr ?_
  refine (rn_step (e := (.imul, 15, 0, 0, 0, 0, 0, [])) rfl).mpr (rn_cw hr1.2.2.1 hr1.2.2.2.1 ?_)
  refine (rn_step (e := (.aload_n 0, 16, 0, 0, 0, 0, 0, [])) rfl).mpr ?_
  refine (rn_step (e := (.getfield 34, 19, 5, 3, 108, 0, 6, [])) rfl).mpr (And.intro ((rn_kR (M := M) hM p_al0)) (?_))
  refine (rn_step (e := (.iadd, 20, 0, 0, 0, 0, 0, [])) rfl).mpr (rn_cw hr1.2.2.2.2.1 hr1.2.2.2.2.2.1 ?_)
  refine (rn_step (e := (.iconst 1, 21, 0, 0, 0, 0, 0, [])) rfl).mpr ?_
  refine (rn_step (e := (.isub, 22, 0, 0, 0, 0, 0, [])) rfl).mpr (rn_cw hr1.2.2.2.2.2.2.1 hr1.2.2.2.2.2.2.2.1 ?_)
  refine (rn_step (e := (.aload_n 0, 23, 0, 0, 0, 0, 0, [])) rfl).mpr ?_
  refine (rn_step (e := (.getfield 37, 26, 5, 4, 111, 0, 6, [])) rfl).mpr (And.intro ((rn_kR (M := M) hM p_al0)) (?_))
  refine (rn_step (e := (.isub, 27, 0, 0, 0, 0, 0, [])) rfl).mpr (rn_cw hr1.2.2.2.2.2.2.2.2.1 hr1.2.2.2.2.2.2.2.2.2.1 ?_)
  refine (rn_step (e := (.invokestatic 74, 30, 204, 1, 305, 7, 0, [0])) rfl).mpr (rn_cw hr1.2.2.2.2.2.2.2.2.2.2.1 hr1.2.2.2.2.2.2.2.2.2.2.2.1 ?_)
  refine (rn_step (e := (.iadd, 31, 0, 0, 0, 0, 0, [])) rfl).mpr (rn_cw hr1.2.2.2.2.2.2.2.2.2.2.2.2.1 hr1.2.2.2.2.2.2.2.2.2.2.2.2.2 ?_)
  exact (rn_step (e := (.ireturn, 32, 0, 0, 0, 0, 0, [])) rfl).mpr (And.intro (trivial) (k1))
theorem re_Ri_turnsNameAt {M : rn_M} {Q : rn_Q} {v0 v1 : rn_V} (h : rn_WP 73 0 [v0, v1, rn_J, rn_J] [] M Q) : rn_ME 73 [v0, v1] M Q := h
set_option maxRecDepth 4000 in
theorem rb_Ri_turnsNameAt_0 {M : rn_M} {Q : rn_Q} {al0 : Nat} {xl1 : Int} {vl2 : rn_V} {vl3 : rn_V} (hM : rn_sh M) (p_al0 : rn_isR al0)  (hr1 : (-2147483648 : Int) ≤ xl1 + (rn_gi M al0 3) ∧ xl1 + (rn_gi M al0 3) ≤ 2147483647 ∧ (-2147483648 : Int) ≤ (xl1 + (rn_gi M al0 3)) - 1 ∧ (xl1 + (rn_gi M al0 3)) - 1 ≤ 2147483647 ∧ ((0 : Int) ≤ (xl1 + (rn_gi M al0 3)) - 1 ∧ (xl1 + (rn_gi M al0 3)) - 1 ≤ rn_gi M al0 4) ∧ rn_gi M al0 4 ≤ 60 ∧ ((0 : Int) ≤ xl1 ∧ xl1 ≤ rn_gi M al0 4) ∧ (-2147483648 : Int) ≤ (rn_gi M (al0 + 3) ((xl1 + (rn_gi M al0 3)) - 1).toNat) - (rn_gi M (al0 + 3) (xl1).toNat) ∧ (rn_gi M (al0 + 3) ((xl1 + (rn_gi M al0 3)) - 1).toNat) - (rn_gi M (al0 + 3) (xl1).toNat) ≤ 2147483647) (hr2 : (¬ ((rn_gi M (al0 + 3) ((xl1 + (rn_gi M al0 3)) - 1).toNat) - (rn_gi M (al0 + 3) (xl1).toNat) < 0)) → ((rn_gi M (al0 + 3) ((xl1 + (rn_gi M al0 3)) - 1).toNat) - (rn_gi M (al0 + 3) (xl1).toNat) = 0) → ((0 : Int) ≤ (xl1 + (rn_gi M al0 3)) - 1 ∧ (xl1 + (rn_gi M al0 3)) - 1 ≤ rn_gi M al0 4) ∧ rn_gi M al0 4 ≤ 60 ∧ ((0 : Int) ≤ xl1 ∧ xl1 ≤ rn_gi M al0 4)) (k1 : ((rn_gi M (al0 + 3) ((xl1 + (rn_gi M al0 3)) - 1).toNat) - (rn_gi M (al0 + 3) (xl1).toNat) < 0) → Q (some (rn_I 1)) M) (k2 : (¬ ((rn_gi M (al0 + 3) ((xl1 + (rn_gi M al0 3)) - 1).toNat) - (rn_gi M (al0 + 3) (xl1).toNat) < 0)) → ((rn_gi M (al0 + 3) ((xl1 + (rn_gi M al0 3)) - 1).toNat) - (rn_gi M (al0 + 3) (xl1).toNat) = 0) → (rn_gi M (al0 + 4) ((xl1 + (rn_gi M al0 3)) - 1).toNat < rn_gi M (al0 + 4) (xl1).toNat) → Q (some (rn_I 1)) M) (k3 : (¬ ((rn_gi M (al0 + 3) ((xl1 + (rn_gi M al0 3)) - 1).toNat) - (rn_gi M (al0 + 3) (xl1).toNat) < 0)) → ((rn_gi M (al0 + 3) ((xl1 + (rn_gi M al0 3)) - 1).toNat) - (rn_gi M (al0 + 3) (xl1).toNat) = 0) → (¬ (rn_gi M (al0 + 4) ((xl1 + (rn_gi M al0 3)) - 1).toNat < rn_gi M (al0 + 4) (xl1).toNat)) → Q (some (rn_I 0)) M) (k4 : (¬ ((rn_gi M (al0 + 3) ((xl1 + (rn_gi M al0 3)) - 1).toNat) - (rn_gi M (al0 + 3) (xl1).toNat) < 0)) → (¬ ((rn_gi M (al0 + 3) ((xl1 + (rn_gi M al0 3)) - 1).toNat) - (rn_gi M (al0 + 3) (xl1).toNat) = 0)) → Q (some (rn_I 0)) M) : rn_WP 73 0 [rn_R al0, rn_I xl1, vl2, vl3] [] M Q := by
  refine (rn_step (e := (.iload_n 1, 1, 1, 0, 0, 0, 0, [])) rfl).mpr ?_
  refine (rn_step (e := (.aload_n 0, 2, 0, 0, 0, 0, 0, [])) rfl).mpr ?_
  refine (rn_step (e := (.getfield 34, 5, 5, 3, 108, 0, 6, [])) rfl).mpr (And.intro ((rn_kR (M := M) hM p_al0)) (?_))
  refine (rn_step (e := (.iadd, 6, 0, 0, 0, 0, 0, [])) rfl).mpr (rn_cw hr1.1 hr1.2.1 ?_)
  refine (rn_step (e := (.iconst 1, 7, 0, 0, 0, 0, 0, [])) rfl).mpr ?_
  refine (rn_step (e := (.isub, 8, 0, 0, 0, 0, 0, [])) rfl).mpr (rn_cw hr1.2.2.1 hr1.2.2.2.1 ?_)
  refine (rn_step (e := (.istore_n 2, 9, 2, 0, 0, 0, 0, [])) rfl).mpr ?_
  refine (rn_step (e := (.aload_n 0, 10, 0, 0, 0, 0, 0, [])) rfl).mpr ?_
  refine (rn_step (e := (.iload_n 2, 11, 2, 0, 0, 0, 0, [])) rfl).mpr ?_
  refine (rn_step (e := (.invokevirtual 50, 14, 65, 2, 437, 0, 6, [0])) rfl).mpr (And.intro ((rn_kR (M := M) hM p_al0)) ((rc_Ri_columnAt hM p_al0 (hr1.2.2.2.2.1) (hr1.2.2.2.2.2.1) ?_)))
  refine (rn_step (e := (.aload_n 0, 15, 0, 0, 0, 0, 0, [])) rfl).mpr ?_
  refine (rn_step (e := (.iload_n 1, 16, 1, 0, 0, 0, 0, [])) rfl).mpr ?_
  refine (rn_step (e := (.invokevirtual 50, 19, 65, 2, 437, 0, 6, [0])) rfl).mpr (And.intro ((rn_kR (M := M) hM p_al0)) ((rc_Ri_columnAt hM p_al0 (hr1.2.2.2.2.2.2.1) (hr1.2.2.2.2.2.1) ?_)))
  refine (rn_step (e := (.isub, 20, 0, 0, 0, 0, 0, [])) rfl).mpr (rn_cw hr1.2.2.2.2.2.2.2.1 hr1.2.2.2.2.2.2.2.2 ?_)
  refine (rn_step (e := (.istore_n 3, 21, 3, 0, 0, 0, 0, [])) rfl).mpr ?_
  refine (rn_step (e := (.iload_n 3, 22, 3, 0, 0, 0, 0, [])) rfl).mpr ?_
  refine (rn_step (e := (.ifCond .lt 20, 25, 42, 0, 0, 0, 0, [])) rfl).mpr (And.intro (fun c1 => ?_) (fun c1 => ?_))
  ·
    refine (rn_step (e := (.iconst 1, 43, 0, 0, 0, 0, 0, [])) rfl).mpr ?_
    refine (rn_step (e := (.goto 4, 46, 47, 0, 0, 0, 0, [])) rfl).mpr ?_
    exact (rn_step (e := (.ireturn, 48, 0, 0, 0, 1, 0, [])) rfl).mpr (And.intro ((Or.inr rfl)) ((k1 c1)))
  ·
    refine (rn_step (e := (.iload_n 3, 26, 3, 0, 0, 0, 0, [])) rfl).mpr ?_
    refine (rn_step (e := (.ifCond .ne 20, 29, 46, 0, 0, 0, 0, [])) rfl).mpr (And.intro (fun c2 => ?_) (fun c2 => ?_))
    ·
      refine (rn_step (e := (.aload_n 0, 30, 0, 0, 0, 0, 0, [])) rfl).mpr ?_
      refine (rn_step (e := (.iload_n 2, 31, 2, 0, 0, 0, 0, [])) rfl).mpr ?_
      refine (rn_step (e := (.invokevirtual 57, 34, 66, 2, 438, 0, 6, [0])) rfl).mpr (And.intro ((rn_kR (M := M) hM p_al0)) ((rc_Ri_rowAt hM p_al0 ((hr2 c1 c2).1) ((hr2 c1 c2).2.1) ?_)))
      refine (rn_step (e := (.aload_n 0, 35, 0, 0, 0, 0, 0, [])) rfl).mpr ?_
      refine (rn_step (e := (.iload_n 1, 36, 1, 0, 0, 0, 0, [])) rfl).mpr ?_
      refine (rn_step (e := (.invokevirtual 57, 39, 66, 2, 438, 0, 6, [0])) rfl).mpr (And.intro ((rn_kR (M := M) hM p_al0)) ((rc_Ri_rowAt hM p_al0 ((hr2 c1 c2).2.2) ((hr2 c1 c2).2.1) ?_)))
      refine (rn_step (e := (.if_icmp .ge 7, 42, 46, 0, 0, 0, 0, [])) rfl).mpr (And.intro (fun c3 => ?_) (fun c3 => ?_))
      ·
        refine (rn_step (e := (.iconst 1, 43, 0, 0, 0, 0, 0, [])) rfl).mpr ?_
        refine (rn_step (e := (.goto 4, 46, 47, 0, 0, 0, 0, [])) rfl).mpr ?_
        exact (rn_step (e := (.ireturn, 48, 0, 0, 0, 1, 0, [])) rfl).mpr (And.intro ((Or.inr rfl)) ((k2 c1 c2 c3)))
      ·
        refine (rn_step (e := (.iconst 0, 47, 0, 0, 0, 0, 0, [])) rfl).mpr ?_
        exact (rn_step (e := (.ireturn, 48, 0, 0, 0, 1, 0, [])) rfl).mpr (And.intro ((Or.inl rfl)) ((k3 c1 c2 c3)))
    ·
      refine (rn_step (e := (.iconst 0, 47, 0, 0, 0, 0, 0, [])) rfl).mpr ?_
      exact (rn_step (e := (.ireturn, 48, 0, 0, 0, 1, 0, [])) rfl).mpr (And.intro ((Or.inl rfl)) ((k4 c1 c2)))
theorem re_Ri_hasLetterNear {M : rn_M} {Q : rn_Q} {v0 v1 v2 v3 v4 : rn_V} (h : rn_WP 75 0 [v0, v1, v2, v3, v4, rn_J] [] M Q) : rn_ME 75 [v0, v1, v2, v3, v4] M Q := h
set_option maxRecDepth 4000 in
theorem rb_Ri_hasLetterNear_0 {M : rn_M} {Q : rn_Q} {vl0 : rn_V} {xl1 : Int} {vl2 : rn_V} {vl3 : rn_V} {vl4 : rn_V} {vl5 : rn_V}   (k1 : rn_WP 75 3 [vl0, rn_I xl1, vl2, vl3, vl4, rn_I xl1] [] M Q) : rn_WP 75 0 [vl0, rn_I xl1, vl2, vl3, vl4, vl5] [] M Q := by
  refine (rn_step (e := (.iload_n 1, 1, 1, 0, 0, 0, 0, [])) rfl).mpr ?_
  refine (rn_step (e := (.istore 5, 3, 5, 0, 0, 0, 0, [])) rfl).mpr ?_
  exact k1
set_option maxRecDepth 4000 in
theorem rb_Ri_hasLetterNear_3 {M : rn_M} {Q : rn_Q} {al0 : Nat} {xl1 : Int} {xl2 : Int} {xl3 : Int} {xl4 : Int} {xl5 : Int} (hM : rn_sh M) (p_al0 : rn_isR al0)  (hr1 : (-2147483648 : Int) ≤ xl1 + (rn_gi M al0 3) ∧ xl1 + (rn_gi M al0 3) ≤ 2147483647) (hr2 : (xl5 < xl1 + (rn_gi M al0 3)) → rn_gi M al0 4 ≤ 60 ∧ rn_rk2 M al0 ∧ (((-1000 : Int) ≤ xl2 ∧ (xl2 : Int) ≤ 1000) ∧ (-1000 : Int) ≤ xl3 ∧ (xl3 : Int) ≤ 1000)) (hr3 : (xl5 < xl1 + (rn_gi M al0 3)) → (¬ (rn_rn2 M al0 xl5 xl2 xl3 xl4)) → (-2147483648 : Int) ≤ xl5 + 1 ∧ xl5 + 1 ≤ 2147483647) (k1 : (xl5 < xl1 + (rn_gi M al0 3)) → (¬ (rn_rn2 M al0 xl5 xl2 xl3 xl4)) → rn_WP 75 3 [rn_R al0, rn_I xl1, rn_I xl2, rn_I xl3, rn_I xl4, rn_I (xl5 + 1)] [] M Q) (k2 : (xl5 < xl1 + (rn_gi M al0 3)) → (rn_rn2 M al0 xl5 xl2 xl3 xl4) → Q (some (rn_I 1)) M) (k3 : (¬ (xl5 < xl1 + (rn_gi M al0 3))) → Q (some (rn_I 0)) M) : rn_WP 75 3 [rn_R al0, rn_I xl1, rn_I xl2, rn_I xl3, rn_I xl4, rn_I xl5] [] M Q := by
  refine (rn_step (e := (.iload 5, 5, 5, 0, 0, 0, 0, [])) rfl).mpr ?_
  refine (rn_step (e := (.iload_n 1, 6, 1, 0, 0, 0, 0, [])) rfl).mpr ?_
  refine (rn_step (e := (.aload_n 0, 7, 0, 0, 0, 0, 0, [])) rfl).mpr ?_
  refine (rn_step (e := (.getfield 34, 10, 5, 3, 108, 0, 6, [])) rfl).mpr (And.intro ((rn_kR (M := M) hM p_al0)) (?_))
  refine (rn_step (e := (.iadd, 11, 0, 0, 0, 0, 0, [])) rfl).mpr (rn_cw hr1.1 hr1.2 ?_)
  refine (rn_step (e := (.if_icmp .ge 24, 14, 35, 0, 0, 0, 0, [])) rfl).mpr (And.intro (fun c1 => ?_) (fun c1 => ?_))
  ·
    refine (rn_step (e := (.aload_n 0, 15, 0, 0, 0, 0, 0, [])) rfl).mpr ?_
    refine (rn_step (e := (.iload 5, 17, 5, 0, 0, 0, 0, [])) rfl).mpr ?_
    refine (rn_step (e := (.iload_n 2, 18, 2, 0, 0, 0, 0, [])) rfl).mpr ?_
    refine (rn_step (e := (.iload_n 3, 19, 3, 0, 0, 0, 0, [])) rfl).mpr ?_
    refine (rn_step (e := (.iload 4, 21, 4, 0, 0, 0, 0, [])) rfl).mpr ?_
    refine (rn_step (e := (.invokevirtual 92, 24, 74, 5, 366, 0, 6, [0])) rfl).mpr (And.intro ((rn_kR (M := M) hM p_al0)) ((rc_Ri_isNear hM p_al0 ((hr2 c1).1) ((hr2 c1).2.1) ((hr2 c1).2.2) ?_)))
    refine (rn_step (e := (.ifCond .eq 5, 27, 29, 0, 0, 0, 0, [])) rfl).mpr (And.intro (fun q => ?_) (fun q => ?_))
    · have c2 := rn_b0 q
      refine (rn_step (e := (.iinc 5 1, 32, 5, 0, 0, 0, 0, [])) rfl).mpr (rn_ci (hr3 c1 c2).1 (hr3 c1 c2).2 ?_)
      refine (rn_step (e := (.goto (-29), 35, 3, 0, 0, 0, 0, [])) rfl).mpr ?_
      exact (k1 c1 c2)
    · have c2 := rn_b1 q
      refine (rn_step (e := (.iconst 1, 28, 0, 0, 0, 0, 0, [])) rfl).mpr ?_
      exact (rn_step (e := (.ireturn, 29, 0, 0, 0, 1, 0, [])) rfl).mpr (And.intro ((Or.inr rfl)) ((k2 c1 c2)))
  ·
    refine (rn_step (e := (.iconst 0, 36, 0, 0, 0, 0, 0, [])) rfl).mpr ?_
    exact (rn_step (e := (.ireturn, 37, 0, 0, 0, 1, 0, [])) rfl).mpr (And.intro ((Or.inl rfl)) ((k3 c1)))
theorem re_Ri_letterOn {M : rn_M} {Q : rn_Q} {v0 v1 v2 v3 : rn_V} (h : rn_WP 76 0 [v0, v1, v2, v3, rn_J, rn_J] [] M Q) : rn_ME 76 [v0, v1, v2, v3] M Q := h
set_option maxRecDepth 4000 in
theorem rb_Ri_letterOn_0 {M : rn_M} {Q : rn_Q} {vl0 : rn_V} {xl1 : Int} {vl2 : rn_V} {vl3 : rn_V} {vl4 : rn_V} {vl5 : rn_V}   (k1 : rn_WP 76 3 [vl0, rn_I xl1, vl2, vl3, rn_I xl1, vl5] [] M Q) : rn_WP 76 0 [vl0, rn_I xl1, vl2, vl3, vl4, vl5] [] M Q := by
  refine (rn_step (e := (.iload_n 1, 1, 1, 0, 0, 0, 0, [])) rfl).mpr ?_
  refine (rn_step (e := (.istore 4, 3, 4, 0, 0, 0, 0, [])) rfl).mpr ?_
  exact k1
set_option maxRecDepth 4000 in
theorem rb_Ri_letterOn_3 {M : rn_M} {Q : rn_Q} {al0 : Nat} {xl1 : Int} {xl2 : Int} {xl3 : Int} {xl4 : Int} {vl5 : rn_V} (hM : rn_sh M) (p_al0 : rn_isR al0)  (hr1 : (-2147483648 : Int) ≤ xl1 + (rn_gi M al0 3) ∧ xl1 + (rn_gi M al0 3) ≤ 2147483647) (hr2 : (xl4 < xl1 + (rn_gi M al0 3)) → rn_gi M al0 4 ≤ 60 ∧ rn_rk2 M al0 ∧ (((-1000 : Int) ≤ xl2 ∧ (xl2 : Int) ≤ 1000) ∧ (-1000 : Int) ≤ xl3 ∧ (xl3 : Int) ≤ 1000)) (hr3 : (xl4 < xl1 + (rn_gi M al0 3)) → (¬ (rn_rn2 M al0 xl4 xl2 xl3 0)) → (-2147483648 : Int) ≤ xl4 + 1 ∧ xl4 + 1 ≤ 2147483647) (hr4 : (xl4 < xl1 + (rn_gi M al0 3)) → (rn_rn2 M al0 xl4 xl2 xl3 0) → (-2147483648 : Int) ≤ xl4 - xl1 ∧ xl4 - xl1 ≤ 2147483647) (k1 : (xl4 < xl1 + (rn_gi M al0 3)) → (¬ (rn_rn2 M al0 xl4 xl2 xl3 0)) → rn_WP 76 3 [rn_R al0, rn_I xl1, rn_I xl2, rn_I xl3, rn_I (xl4 + 1), vl5] [] M Q) (k2 : (xl4 < xl1 + (rn_gi M al0 3)) → (rn_rn2 M al0 xl4 xl2 xl3 0) → rn_ME 73 [rn_R al0, rn_I xl1] M (fun r M1 => rn_WP 76 38 [rn_R al0, rn_I xl1, rn_I xl2, rn_I xl3, rn_I xl4, rn_I (xl4 - xl1)] (r.toList ++ [rn_R al0]) M1 Q)) (k3 : (¬ (xl4 < xl1 + (rn_gi M al0 3))) → Q (some (rn_I (-9))) M) : rn_WP 76 3 [rn_R al0, rn_I xl1, rn_I xl2, rn_I xl3, rn_I xl4, vl5] [] M Q := by
  refine (rn_step (e := (.iload 4, 5, 4, 0, 0, 0, 0, [])) rfl).mpr ?_
  refine (rn_step (e := (.iload_n 1, 6, 1, 0, 0, 0, 0, [])) rfl).mpr ?_
  refine (rn_step (e := (.aload_n 0, 7, 0, 0, 0, 0, 0, [])) rfl).mpr ?_
  refine (rn_step (e := (.getfield 34, 10, 5, 3, 108, 0, 6, [])) rfl).mpr (And.intro ((rn_kR (M := M) hM p_al0)) (?_))
  refine (rn_step (e := (.iadd, 11, 0, 0, 0, 0, 0, [])) rfl).mpr (rn_cw hr1.1 hr1.2 ?_)
  refine (rn_step (e := (.if_icmp .ge 54, 14, 65, 0, 0, 0, 0, [])) rfl).mpr (And.intro (fun c1 => ?_) (fun c1 => ?_))
  ·
    refine (rn_step (e := (.aload_n 0, 15, 0, 0, 0, 0, 0, [])) rfl).mpr ?_
    refine (rn_step (e := (.iload 4, 17, 4, 0, 0, 0, 0, [])) rfl).mpr ?_
    refine (rn_step (e := (.iload_n 2, 18, 2, 0, 0, 0, 0, [])) rfl).mpr ?_
    refine (rn_step (e := (.iload_n 3, 19, 3, 0, 0, 0, 0, [])) rfl).mpr ?_
    refine (rn_step (e := (.iconst 0, 20, 0, 0, 0, 0, 0, [])) rfl).mpr ?_
    refine (rn_step (e := (.invokevirtual 92, 23, 74, 5, 366, 0, 6, [0])) rfl).mpr (And.intro ((rn_kR (M := M) hM p_al0)) ((rc_Ri_isNear hM p_al0 ((hr2 c1).1) ((hr2 c1).2.1) ((hr2 c1).2.2) ?_)))
    refine (rn_step (e := (.ifCond .eq 36, 26, 59, 0, 0, 0, 0, [])) rfl).mpr (And.intro (fun q => ?_) (fun q => ?_))
    · have c2 := rn_b0 q
      refine (rn_step (e := (.iinc 4 1, 62, 4, 0, 0, 0, 0, [])) rfl).mpr (rn_ci (hr3 c1 c2).1 (hr3 c1 c2).2 ?_)
      refine (rn_step (e := (.goto (-59), 65, 3, 0, 0, 0, 0, [])) rfl).mpr ?_
      exact (k1 c1 c2)
    · have c2 := rn_b1 q
      refine (rn_step (e := (.iload 4, 28, 4, 0, 0, 0, 0, [])) rfl).mpr ?_
      refine (rn_step (e := (.iload_n 1, 29, 1, 0, 0, 0, 0, [])) rfl).mpr ?_
      refine (rn_step (e := (.isub, 30, 0, 0, 0, 0, 0, [])) rfl).mpr (rn_cw (hr4 c1 c2).1 (hr4 c1 c2).2 ?_)
      refine (rn_step (e := (.istore 5, 32, 5, 0, 0, 0, 0, [])) rfl).mpr ?_
      refine (rn_step (e := (.aload_n 0, 33, 0, 0, 0, 0, 0, [])) rfl).mpr ?_
      refine (rn_step (e := (.aload_n 0, 34, 0, 0, 0, 0, 0, [])) rfl).mpr ?_
      refine (rn_step (e := (.iload_n 1, 35, 1, 0, 0, 0, 0, [])) rfl).mpr ?_
      exact (rn_step (e := (.invokevirtual 96, 38, 73, 2, 685, 0, 6, [0])) rfl).mpr (And.intro ((rn_kR (M := M) hM p_al0)) ((k2 c1 c2)))
  ·
    refine (rn_step (e := (.bipush (-9), 67, 0, 0, 0, 0, 0, [])) rfl).mpr ?_
    exact (rn_step (e := (.ireturn, 68, 0, 0, 0, 0, 0, [])) rfl).mpr (And.intro (trivial) ((k3 c1)))
set_option maxRecDepth 4000 in
theorem rb_Ri_letterOn_38 {M : rn_M} {Q : rn_Q} {al0 : Nat} {vl1 : rn_V} {vl2 : rn_V} {vl3 : rn_V} {vl4 : rn_V} {xl5 : Int} {xs0 : Int} {as1 : Nat} (hM : rn_sh M) (p_as1 : rn_isR as1) (p_al0 : rn_isR al0)  (hr1 : (xs0 = 0) → (0 ≤ rn_gi M as1 3 ∧ rn_gi M as1 3 ≤ 12)) (hr2 : (¬ (xs0 = 0)) → (-2147483648 : Int) ≤ (rn_gi M al0 3) - 1 ∧ (rn_gi M al0 3) - 1 ≤ 2147483647 ∧ (-2147483648 : Int) ≤ ((rn_gi M al0 3) - 1) - xl5 ∧ ((rn_gi M al0 3) - 1) - xl5 ≤ 2147483647 ∧ (0 ≤ rn_gi M as1 3 ∧ rn_gi M as1 3 ≤ 12)) (k1 : (xs0 = 0) → Q (some (rn_I (rn_lt2 M as1 xl5))) M) (k2 : (¬ (xs0 = 0)) → Q (some (rn_I (rn_lt2 M as1 (((rn_gi M al0 3) - 1) - xl5)))) M) : rn_WP 76 38 [rn_R al0, vl1, vl2, vl3, vl4, rn_I xl5] [rn_I xs0, rn_R as1] M Q := by
  refine (rn_step (e := (.ifCond .eq 15, 41, 53, 0, 0, 0, 0, [])) rfl).mpr (And.intro (fun c1 => ?_) (fun c1 => ?_))
  ·
    refine (rn_step (e := (.iload 5, 55, 5, 0, 0, 0, 0, [])) rfl).mpr ?_
    refine (rn_step (e := (.invokevirtual 99, 58, 67, 2, 686, 0, 6, [0])) rfl).mpr (And.intro ((rn_kR (M := M) hM p_as1)) ((rc_Ri_letterAt hM p_as1 ((hr1 c1)) ?_)))
    exact (rn_step (e := (.ireturn, 59, 0, 0, 0, 0, 0, [])) rfl).mpr (And.intro (trivial) ((k1 c1)))
  ·
    refine (rn_step (e := (.aload_n 0, 42, 0, 0, 0, 0, 0, [])) rfl).mpr ?_
    refine (rn_step (e := (.getfield 34, 45, 5, 3, 108, 0, 6, [])) rfl).mpr (And.intro ((rn_kR (M := M) hM p_al0)) (?_))
    refine (rn_step (e := (.iconst 1, 46, 0, 0, 0, 0, 0, [])) rfl).mpr ?_
    refine (rn_step (e := (.isub, 47, 0, 0, 0, 0, 0, [])) rfl).mpr (rn_cw (hr2 c1).1 (hr2 c1).2.1 ?_)
    refine (rn_step (e := (.iload 5, 49, 5, 0, 0, 0, 0, [])) rfl).mpr ?_
    refine (rn_step (e := (.isub, 50, 0, 0, 0, 0, 0, [])) rfl).mpr (rn_cw (hr2 c1).2.2.1 (hr2 c1).2.2.2.1 ?_)
    refine (rn_step (e := (.goto 5, 53, 55, 0, 0, 0, 0, [])) rfl).mpr ?_
    refine (rn_step (e := (.invokevirtual 99, 58, 67, 2, 686, 0, 6, [0])) rfl).mpr (And.intro ((rn_kR (M := M) hM p_as1)) ((rc_Ri_letterAt hM p_as1 ((hr2 c1).2.2.2.2) ?_)))
    exact (rn_step (e := (.ireturn, 59, 0, 0, 0, 0, 0, [])) rfl).mpr (And.intro (trivial) ((k2 c1)))
theorem re_Ri_differentCells {M : rn_M} {Q : rn_Q} {v0 v1 : rn_V} (h : rn_WP 77 0 [v0, v1, rn_J] [] M Q) : rn_ME 77 [v0, v1] M Q := h
set_option maxRecDepth 4000 in
theorem rb_Ri_differentCells_0 {M : rn_M} {Q : rn_Q} {vl0 : rn_V} {vl2 : rn_V} (hM : rn_sh M)   (k1 : rn_ME 79 [rn_R 464] M (fun r M1 => rn_WP 77 4 [vl0, rn_R 464, vl2] (r.toList ++ []) M1 Q)) : rn_WP 77 0 [vl0, rn_R 464, vl2] [] M Q := by
  refine (rn_step (e := (.aload_n 1, 1, 1, 0, 0, 0, 0, [])) rfl).mpr ?_
  exact (rn_step (e := (.invokevirtual 102, 4, 79, 1, 436, 0, 7, [0])) rfl).mpr (And.intro ((rn_ks464 (M := M) hM)) (k1))
set_option maxRecDepth 4000 in
theorem rb_Ri_differentCells_4 {M : rn_M} {Q : rn_Q} {vl0 : rn_V} {vl1 : rn_V} {vl2 : rn_V}   (k1 : rn_WP 77 6 [vl0, vl1, rn_I 0] [] M Q) : rn_WP 77 4 [vl0, vl1, vl2] [] M Q := by
  refine (rn_step (e := (.iconst 0, 5, 0, 0, 0, 0, 0, [])) rfl).mpr ?_
  refine (rn_step (e := (.istore_n 2, 6, 2, 0, 0, 0, 0, [])) rfl).mpr ?_
  exact k1
set_option maxRecDepth 4000 in
theorem rb_Ri_differentCells_6 {M : rn_M} {Q : rn_Q} {al0 : Nat} {xl2 : Int} (hM : rn_sh M) (p_al0 : rn_isR al0)  (hr1 : (¬ (rn_gi M al0 4 < xl2)) → ((0 : Int) ≤ xl2 ∧ xl2 ≤ rn_gi M al0 4) ∧ rn_gi M al0 4 ≤ 60) (k1 : (rn_gi M al0 4 < xl2) → Q (some (rn_I (rn_gi M 464 0))) M) (k2 : (¬ (rn_gi M al0 4 < xl2)) → rn_ME 80 [rn_R 464, rn_I (rn_gi M (al0 + 3) (xl2).toNat), rn_I (rn_gi M (al0 + 4) (xl2).toNat), rn_I 0] M (fun r M1 => rn_WP 77 29 [rn_R al0, rn_R 464, rn_I xl2] (r.toList ++ []) M1 Q)) : rn_WP 77 6 [rn_R al0, rn_R 464, rn_I xl2] [] M Q := by
  refine (rn_step (e := (.iload_n 2, 7, 2, 0, 0, 0, 0, [])) rfl).mpr ?_
  refine (rn_step (e := (.aload_n 0, 8, 0, 0, 0, 0, 0, [])) rfl).mpr ?_
  refine (rn_step (e := (.getfield 37, 11, 5, 4, 111, 0, 6, [])) rfl).mpr (And.intro ((rn_kR (M := M) hM p_al0)) (?_))
  refine (rn_step (e := (.if_icmp .gt 24, 14, 35, 0, 0, 0, 0, [])) rfl).mpr (And.intro (fun c1 => ?_) (fun c1 => ?_))
  ·
    refine (rn_step (e := (.aload_n 1, 36, 1, 0, 0, 0, 0, [])) rfl).mpr ?_
    refine (rn_step (e := (.getfield 111, 39, 6, 0, 245, 0, 7, [])) rfl).mpr (And.intro ((rn_ks464 (M := M) hM)) (?_))
    exact (rn_step (e := (.ireturn, 40, 0, 0, 0, 0, 0, [])) rfl).mpr (And.intro (trivial) ((k1 c1)))
  ·
    refine (rn_step (e := (.aload_n 1, 15, 1, 0, 0, 0, 0, [])) rfl).mpr ?_
    refine (rn_step (e := (.aload_n 0, 16, 0, 0, 0, 0, 0, [])) rfl).mpr ?_
    refine (rn_step (e := (.iload_n 2, 17, 2, 0, 0, 0, 0, [])) rfl).mpr ?_
    refine (rn_step (e := (.invokevirtual 50, 20, 65, 2, 437, 0, 6, [0])) rfl).mpr (And.intro ((rn_kR (M := M) hM p_al0)) ((rc_Ri_columnAt hM p_al0 ((hr1 c1).1) ((hr1 c1).2) ?_)))
    refine (rn_step (e := (.aload_n 0, 21, 0, 0, 0, 0, 0, [])) rfl).mpr ?_
    refine (rn_step (e := (.iload_n 2, 22, 2, 0, 0, 0, 0, [])) rfl).mpr ?_
    refine (rn_step (e := (.invokevirtual 57, 25, 66, 2, 438, 0, 6, [0])) rfl).mpr (And.intro ((rn_kR (M := M) hM p_al0)) ((rc_Ri_rowAt hM p_al0 ((hr1 c1).1) ((hr1 c1).2) ?_)))
    refine (rn_step (e := (.iconst 0, 26, 0, 0, 0, 0, 0, [])) rfl).mpr ?_
    exact (rn_step (e := (.invokevirtual 107, 29, 80, 4, 439, 0, 7, [0])) rfl).mpr (And.intro ((rn_ks464 (M := M) hM)) ((k2 c1)))
set_option maxRecDepth 4000 in
theorem rb_Ri_differentCells_29 {M : rn_M} {Q : rn_Q} {vl0 : rn_V} {vl1 : rn_V} {xl2 : Int}   (hr1 : (-2147483648 : Int) ≤ xl2 + 1 ∧ xl2 + 1 ≤ 2147483647) (k1 : rn_WP 77 6 [vl0, vl1, rn_I (xl2 + 1)] [] M Q) : rn_WP 77 29 [vl0, vl1, rn_I xl2] [] M Q := by
  refine (rn_step (e := (.iinc 2 1, 32, 2, 0, 0, 0, 0, [])) rfl).mpr (rn_ci hr1.1 hr1.2 ?_)
  refine (rn_step (e := (.goto (-26), 35, 6, 0, 0, 0, 0, [])) rfl).mpr ?_
  exact k1
theorem re_Sh_clear {M : rn_M} {Q : rn_Q} {v0 : rn_V} (h : rn_WP 79 0 [v0] [] M Q) : rn_ME 79 [v0] M Q := h
set_option maxRecDepth 4000 in
theorem rb_Sh_clear_0 {M : rn_M} {Q : rn_Q}  (hM : rn_sh M)   (k1 : rn_ME 213 [rn_R 465, rn_I 0] M (fun r M1 => rn_WP 79 8 [rn_R 464] (r.toList ++ []) M1 Q)) : rn_WP 79 0 [rn_R 464] [] M Q := by
  refine (rn_step (e := (.aload_n 0, 1, 0, 0, 0, 0, 0, [])) rfl).mpr ?_
  refine (rn_step (e := (.getfield 9, 4, 6, 1, 246, 2, 7, [])) rfl).mpr (And.intro ((rn_ks464 (M := M) hM)) (rn_cg (rn_g464_1 (M := M) hM) ?_))
  refine (rn_step (e := (.iconst 0, 5, 0, 0, 0, 0, 0, [])) rfl).mpr ?_
  exact (rn_step (e := (.invokestatic 15, 8, 213, 2, 393, 0, 0, [0])) rfl).mpr k1
set_option maxRecDepth 4000 in
theorem rb_Sh_clear_8 {M : rn_M} {Q : rn_Q}  (hM : rn_sh M)   (k1 : Q none (rn_si M 464 0 0)) : rn_WP 79 8 [rn_R 464] [] M Q := by
  refine (rn_step (e := (.aload_n 0, 9, 0, 0, 0, 0, 0, [])) rfl).mpr ?_
  refine (rn_step (e := (.iconst 0, 10, 0, 0, 0, 0, 0, [])) rfl).mpr ?_
  refine (rn_step (e := (.putfield 21, 13, 6, 0, 242, 0, 7, [])) rfl).mpr (And.intro ((rn_ks464 (M := M) hM)) (?_))
  exact (rn_step (e := (.return_, 14, 0, 0, 0, 0, 0, [])) rfl).mpr k1
theorem re_Sh_markAround {M : rn_M} {Q : rn_Q} {v0 v1 v2 v3 : rn_V} (h : rn_WP 80 0 [v0, v1, v2, v3, rn_J, rn_J] [] M Q) : rn_ME 80 [v0, v1, v2, v3] M Q := h
set_option maxRecDepth 4000 in
theorem rb_Sh_markAround_0 {M : rn_M} {Q : rn_Q} {vl0 : rn_V} {vl1 : rn_V} {xl2 : Int} {xl3 : Int} {vl4 : rn_V} {vl5 : rn_V}   (hr1 : (-2147483648 : Int) ≤ xl2 - xl3 ∧ xl2 - xl3 ≤ 2147483647) (k1 : rn_WP 80 5 [vl0, vl1, rn_I xl2, rn_I xl3, rn_I (xl2 - xl3), vl5] [] M Q) : rn_WP 80 0 [vl0, vl1, rn_I xl2, rn_I xl3, vl4, vl5] [] M Q := by
  refine (rn_step (e := (.iload_n 2, 1, 2, 0, 0, 0, 0, [])) rfl).mpr ?_
  refine (rn_step (e := (.iload_n 3, 2, 3, 0, 0, 0, 0, [])) rfl).mpr ?_
  refine (rn_step (e := (.isub, 3, 0, 0, 0, 0, 0, [])) rfl).mpr (rn_cw hr1.1 hr1.2 ?_)
  refine (rn_step (e := (.istore 4, 5, 4, 0, 0, 0, 0, [])) rfl).mpr ?_
  exact k1
set_option maxRecDepth 4000 in
theorem rb_Sh_markAround_5 {M : rn_M} {Q : rn_Q} {vl0 : rn_V} {xl1 : Int} {xl2 : Int} {xl3 : Int} {xl4 : Int} {vl5 : rn_V}   (hr1 : (-2147483648 : Int) ≤ xl2 + xl3 ∧ xl2 + xl3 ≤ 2147483647) (hr2 : (¬ (xl2 + xl3 < xl4)) → (-2147483648 : Int) ≤ xl1 - xl3 ∧ xl1 - xl3 ≤ 2147483647) (k1 : (xl2 + xl3 < xl4) → Q none M) (k2 : (¬ (xl2 + xl3 < xl4)) → rn_WP 80 18 [vl0, rn_I xl1, rn_I xl2, rn_I xl3, rn_I xl4, rn_I (xl1 - xl3)] [] M Q) : rn_WP 80 5 [vl0, rn_I xl1, rn_I xl2, rn_I xl3, rn_I xl4, vl5] [] M Q := by
  refine (rn_step (e := (.iload 4, 7, 4, 0, 0, 0, 0, [])) rfl).mpr ?_
  refine (rn_step (e := (.iload_n 2, 8, 2, 0, 0, 0, 0, [])) rfl).mpr ?_
  refine (rn_step (e := (.iload_n 3, 9, 3, 0, 0, 0, 0, [])) rfl).mpr ?_
  refine (rn_step (e := (.iadd, 10, 0, 0, 0, 0, 0, [])) rfl).mpr (rn_cw hr1.1 hr1.2 ?_)
  refine (rn_step (e := (.if_icmp .gt 36, 13, 46, 0, 0, 0, 0, [])) rfl).mpr (And.intro (fun c1 => ?_) (fun c1 => ?_))
  ·
    exact (rn_step (e := (.return_, 47, 0, 0, 0, 0, 0, [])) rfl).mpr (k1 c1)
  ·
    refine (rn_step (e := (.iload_n 1, 14, 1, 0, 0, 0, 0, [])) rfl).mpr ?_
    refine (rn_step (e := (.iload_n 3, 15, 3, 0, 0, 0, 0, [])) rfl).mpr ?_
    refine (rn_step (e := (.isub, 16, 0, 0, 0, 0, 0, [])) rfl).mpr (rn_cw (hr2 c1).1 (hr2 c1).2 ?_)
    refine (rn_step (e := (.istore 5, 18, 5, 0, 0, 0, 0, [])) rfl).mpr ?_
    exact (k2 c1)
set_option maxRecDepth 4000 in
theorem rb_Sh_markAround_18 {M : rn_M} {Q : rn_Q} {xl1 : Int} {vl2 : rn_V} {xl3 : Int} {xl4 : Int} {xl5 : Int} (hM : rn_sh M)   (hr1 : (-2147483648 : Int) ≤ xl1 + xl3 ∧ xl1 + xl3 ≤ 2147483647) (hr2 : (xl1 + xl3 < xl5) → (-2147483648 : Int) ≤ xl4 + 1 ∧ xl4 + 1 ≤ 2147483647) (k1 : (xl1 + xl3 < xl5) → rn_WP 80 5 [rn_R 464, rn_I xl1, vl2, rn_I xl3, rn_I (xl4 + 1), rn_I xl5] [] M Q) (k2 : (¬ (xl1 + xl3 < xl5)) → rn_ME 81 [rn_R 464, rn_I xl5, rn_I xl4] M (fun r M1 => rn_WP 80 34 [rn_R 464, rn_I xl1, vl2, rn_I xl3, rn_I xl4, rn_I xl5] (r.toList ++ []) M1 Q)) : rn_WP 80 18 [rn_R 464, rn_I xl1, vl2, rn_I xl3, rn_I xl4, rn_I xl5] [] M Q := by
  refine (rn_step (e := (.iload 5, 20, 5, 0, 0, 0, 0, [])) rfl).mpr ?_
  refine (rn_step (e := (.iload_n 1, 21, 1, 0, 0, 0, 0, [])) rfl).mpr ?_
  refine (rn_step (e := (.iload_n 3, 22, 3, 0, 0, 0, 0, [])) rfl).mpr ?_
  refine (rn_step (e := (.iadd, 23, 0, 0, 0, 0, 0, [])) rfl).mpr (rn_cw hr1.1 hr1.2 ?_)
  refine (rn_step (e := (.if_icmp .gt 17, 26, 40, 0, 0, 0, 0, [])) rfl).mpr (And.intro (fun c1 => ?_) (fun c1 => ?_))
  ·
    refine (rn_step (e := (.iinc 4 1, 43, 4, 0, 0, 0, 0, [])) rfl).mpr (rn_ci (hr2 c1).1 (hr2 c1).2 ?_)
    refine (rn_step (e := (.goto (-38), 46, 5, 0, 0, 0, 0, [])) rfl).mpr ?_
    exact (k1 c1)
  ·
    refine (rn_step (e := (.aload_n 0, 27, 0, 0, 0, 0, 0, [])) rfl).mpr ?_
    refine (rn_step (e := (.iload 5, 29, 5, 0, 0, 0, 0, [])) rfl).mpr ?_
    refine (rn_step (e := (.iload 4, 31, 4, 0, 0, 0, 0, [])) rfl).mpr ?_
    exact (rn_step (e := (.invokevirtual 25, 34, 81, 3, 406, 0, 7, [0])) rfl).mpr (And.intro ((rn_ks464 (M := M) hM)) ((k2 c1)))
set_option maxRecDepth 4000 in
theorem rb_Sh_markAround_34 {M : rn_M} {Q : rn_Q} {vl0 : rn_V} {vl1 : rn_V} {vl2 : rn_V} {vl3 : rn_V} {vl4 : rn_V} {xl5 : Int}   (hr1 : (-2147483648 : Int) ≤ xl5 + 1 ∧ xl5 + 1 ≤ 2147483647) (k1 : rn_WP 80 18 [vl0, vl1, vl2, vl3, vl4, rn_I (xl5 + 1)] [] M Q) : rn_WP 80 34 [vl0, vl1, vl2, vl3, vl4, rn_I xl5] [] M Q := by
  refine (rn_step (e := (.iinc 5 1, 37, 5, 0, 0, 0, 0, [])) rfl).mpr (rn_ci hr1.1 hr1.2 ?_)
  refine (rn_step (e := (.goto (-19), 40, 18, 0, 0, 0, 0, [])) rfl).mpr ?_
  exact k1
theorem re_Sh_mark {M : rn_M} {Q : rn_Q} {v0 v1 v2 : rn_V} (h : rn_WP 81 0 [v0, v1, v2] [] M Q) : rn_ME 81 [v0, v1, v2] M Q := h
set_option maxRecDepth 4000 in
theorem rb_Sh_mark_0 {M : rn_M} {Q : rn_Q} {xl1 : Int} {xl2 : Int} (hM : rn_sh M)   (hr1 : ((0 ≤ xl1 ∧ xl1 < 60) ∧ 0 ≤ xl2 ∧ xl2 < 40) → (-2147483648 : Int) ≤ xl2 * 60 ∧ xl2 * 60 ≤ 2147483647 ∧ (-2147483648 : Int) ≤ (xl2 * 60) + xl1 ∧ (xl2 * 60) + xl1 ≤ 2147483647 ∧ (0 : Int) ≤ (xl2 * 60) + xl1 ∧ (xl2 * 60) + xl1 < (2400 : Int)) (hr2 : ((0 ≤ xl1 ∧ xl1 < 60) ∧ 0 ≤ xl2 ∧ xl2 < 40) → (rn_gi M 465 ((xl2 * 60) + xl1).toNat = 0) → (-2147483648 : Int) ≤ xl2 * 60 ∧ xl2 * 60 ≤ 2147483647 ∧ (-2147483648 : Int) ≤ (xl2 * 60) + xl1 ∧ (xl2 * 60) + xl1 ≤ 2147483647 ∧ (0 : Int) ≤ (xl2 * 60) + xl1 ∧ (xl2 * 60) + xl1 < (2400 : Int) ∧ (-2147483648 : Int) ≤ rn_gi M 464 0 + 1 ∧ rn_gi M 464 0 + 1 ≤ 2147483647) (k1 : (¬ ((0 ≤ xl1 ∧ xl1 < 60) ∧ 0 ≤ xl2 ∧ xl2 < 40)) → Q none M) (k2 : ((0 ≤ xl1 ∧ xl1 < 60) ∧ 0 ≤ xl2 ∧ xl2 < 40) → (rn_gi M 465 ((xl2 * 60) + xl1).toNat = 0) → Q none (rn_si (rn_si M 465 ((xl2 * 60) + xl1).toNat 1) 464 0 (rn_gi M 464 0 + 1))) (k3 : ((0 ≤ xl1 ∧ xl1 < 60) ∧ 0 ≤ xl2 ∧ xl2 < 40) → (¬ (rn_gi M 465 ((xl2 * 60) + xl1).toNat = 0)) → Q none M) : rn_WP 81 0 [rn_R 464, rn_I xl1, rn_I xl2] [] M Q := by
  refine (rn_step (e := (.iload_n 1, 1, 1, 0, 0, 0, 0, [])) rfl).mpr ?_
  refine (rn_step (e := (.iload_n 2, 2, 2, 0, 0, 0, 0, [])) rfl).mpr ?_
  refine (rn_step (e := (.invokestatic 29, 5, 119, 2, 8, 0, 10, [1])) rfl).mpr (rc_RN_onMap  ?_)
  refine (rn_step (e := (.ifCond .eq 39, 8, 44, 0, 0, 0, 0, [])) rfl).mpr (And.intro (fun q => ?_) (fun q => ?_))
  · have c1 := rn_b0 q
    exact (rn_step (e := (.return_, 45, 0, 0, 0, 0, 0, [])) rfl).mpr (k1 c1)
  · have c1 := rn_b1 q
    refine (rn_step (e := (.aload_n 0, 9, 0, 0, 0, 0, 0, [])) rfl).mpr ?_
    refine (rn_step (e := (.getfield 9, 12, 6, 1, 246, 2, 7, [])) rfl).mpr (And.intro ((rn_ks464 (M := M) hM)) (rn_cg (rn_g464_1 (M := M) hM) ?_))
    refine (rn_step (e := (.iload_n 2, 13, 2, 0, 0, 0, 0, [])) rfl).mpr ?_
    refine (rn_step (e := (.bipush 60, 15, 0, 0, 0, 0, 0, [])) rfl).mpr ?_
    refine (rn_step (e := (.imul, 16, 0, 0, 0, 0, 0, [])) rfl).mpr (rn_cw (hr1 c1).1 (hr1 c1).2.1 ?_)
    refine (rn_step (e := (.iload_n 1, 17, 1, 0, 0, 0, 0, [])) rfl).mpr ?_
    refine (rn_step (e := (.iadd, 18, 0, 0, 0, 0, 0, [])) rfl).mpr (rn_cw (hr1 c1).2.2.1 (hr1 c1).2.2.2.1 ?_)
    refine (rn_step (e := (.iaload, 19, 0, 0, 0, 0, 0, [])) rfl).mpr (And.intro (Or.inl (rn_w465 (M := M) hM).1) (And.intro ((And.intro ((hr1 c1).2.2.2.2.1) (rn_lt (rn_w465 (M := M) hM).2 (hr1 c1).2.2.2.2.2))) (?_)))
    refine (rn_step (e := (.ifCond .ne 25, 22, 44, 0, 0, 0, 0, [])) rfl).mpr (And.intro (fun c2 => ?_) (fun c2 => ?_))
    ·
      refine (rn_step (e := (.aload_n 0, 23, 0, 0, 0, 0, 0, [])) rfl).mpr ?_
      refine (rn_step (e := (.getfield 9, 26, 6, 1, 246, 2, 7, [])) rfl).mpr (And.intro ((rn_ks464 (M := M) hM)) (rn_cg (rn_g464_1 (M := M) hM) ?_))
      refine (rn_step (e := (.iload_n 2, 27, 2, 0, 0, 0, 0, [])) rfl).mpr ?_
      refine (rn_step (e := (.bipush 60, 29, 0, 0, 0, 0, 0, [])) rfl).mpr ?_
      refine (rn_step (e := (.imul, 30, 0, 0, 0, 0, 0, [])) rfl).mpr (rn_cw (hr2 c1 c2).1 (hr2 c1 c2).2.1 ?_)
      refine (rn_step (e := (.iload_n 1, 31, 1, 0, 0, 0, 0, [])) rfl).mpr ?_
      refine (rn_step (e := (.iadd, 32, 0, 0, 0, 0, 0, [])) rfl).mpr (rn_cw (hr2 c1 c2).2.2.1 (hr2 c1 c2).2.2.2.1 ?_)
      refine (rn_step (e := (.iconst 1, 33, 0, 0, 0, 0, 0, [])) rfl).mpr ?_
      refine (rn_step (e := (.iastore, 34, 0, 0, 0, 0, 0, [])) rfl).mpr (And.intro ((rn_w465 (M := M) hM).1) (And.intro ((And.intro ((hr2 c1 c2).2.2.2.2.1) (rn_lt (rn_w465 (M := M) hM).2 (hr2 c1 c2).2.2.2.2.2.1))) (?_)))
      refine (rn_step (e := (.aload_n 0, 35, 0, 0, 0, 0, 0, [])) rfl).mpr ?_
      refine (rn_step (e := (.dup, 36, 0, 0, 0, 0, 0, [])) rfl).mpr ?_
      refine (rn_step (e := (.getfield 21, 39, 6, 0, 242, 0, 7, [])) rfl).mpr (And.intro ((rn_ks464 (M := M) hM)) (rn_cv (by rw [rn_si_gif (a := 465) (b := 464) (by decide)]) ?_))
      refine (rn_step (e := (.iconst 1, 40, 0, 0, 0, 0, 0, [])) rfl).mpr ?_
      refine (rn_step (e := (.iadd, 41, 0, 0, 0, 0, 0, [])) rfl).mpr (rn_cw (hr2 c1 c2).2.2.2.2.2.2.1 (hr2 c1 c2).2.2.2.2.2.2.2 ?_)
      refine (rn_step (e := (.putfield 21, 44, 6, 0, 242, 0, 7, [])) rfl).mpr (And.intro ((rn_ks464 (M := M) hM)) (?_))
      exact (rn_step (e := (.return_, 45, 0, 0, 0, 0, 0, [])) rfl).mpr (k2 c1 c2)
    ·
      exact (rn_step (e := (.return_, 45, 0, 0, 0, 0, 0, [])) rfl).mpr (k3 c1 c2)
theorem re_Te_write {M : rn_M} {Q : rn_Q} {v0 v1 : rn_V} (h : rn_WP 83 0 [v0, v1] [] M Q) : rn_ME 83 [v0, v1] M Q := h
set_option maxRecDepth 4000 in
theorem rb_Te_write_0 {M : rn_M} {Q : rn_Q} {xl1 : Int} (hM : rn_sh M)   (hr1 : (0 ≤ rn_gi M 10 0 ∧ rn_gi M 10 0 ≤ 149) → (0 : Int) ≤ rn_gi M 10 0 ∧ rn_gi M 10 0 < (150 : Int) ∧ (-2147483648 : Int) ≤ rn_gi M 10 0 + 1 ∧ rn_gi M 10 0 + 1 ≤ 2147483647) (k1 : (¬ (0 ≤ rn_gi M 10 0 ∧ rn_gi M 10 0 ≤ 149)) → Q (some (rn_I 0)) M) (k2 : (0 ≤ rn_gi M 10 0 ∧ rn_gi M 10 0 ≤ 149) → Q (some (rn_I 1)) (rn_si (rn_si M 11 (rn_gi M 10 0).toNat xl1) 10 0 (rn_gi M 10 0 + 1))) : rn_WP 83 0 [rn_R 10, rn_I xl1] [] M Q := by
  refine (rn_step (e := (.aload_n 0, 1, 0, 0, 0, 0, 0, [])) rfl).mpr ?_
  refine (rn_step (e := (.getfield 15, 4, 7, 0, 49, 0, 8, [])) rfl).mpr (And.intro ((rn_ks10 (M := M) hM)) (?_))
  refine (rn_step (e := (.iconst 0, 5, 0, 0, 0, 0, 0, [])) rfl).mpr ?_
  refine (rn_step (e := (.sipush 149, 8, 0, 0, 0, 0, 0, [])) rfl).mpr ?_
  refine (rn_step (e := (.invokestatic 19, 11, 118, 3, 10, 0, 10, [1])) rfl).mpr (rc_RN_within  ?_)
  refine (rn_step (e := (.ifCond .ne 5, 14, 16, 0, 0, 0, 0, [])) rfl).mpr (And.intro (fun q => ?_) (fun q => ?_))
  · have c1 := rn_b0 q
    refine (rn_step (e := (.iconst 0, 15, 0, 0, 0, 0, 0, [])) rfl).mpr ?_
    exact (rn_step (e := (.ireturn, 16, 0, 0, 0, 1, 0, [])) rfl).mpr (And.intro ((Or.inl rfl)) ((k1 c1)))
  · have c1 := rn_b1 q
    refine (rn_step (e := (.aload_n 0, 17, 0, 0, 0, 0, 0, [])) rfl).mpr ?_
    refine (rn_step (e := (.getfield 9, 20, 7, 1, 51, 2, 8, [])) rfl).mpr (And.intro ((rn_ks10 (M := M) hM)) (rn_cg (rn_g10_1 (M := M) hM) ?_))
    refine (rn_step (e := (.aload_n 0, 21, 0, 0, 0, 0, 0, [])) rfl).mpr ?_
    refine (rn_step (e := (.getfield 15, 24, 7, 0, 49, 0, 8, [])) rfl).mpr (And.intro ((rn_ks10 (M := M) hM)) (?_))
    refine (rn_step (e := (.iload_n 1, 25, 1, 0, 0, 0, 0, [])) rfl).mpr ?_
    refine (rn_step (e := (.iastore, 26, 0, 0, 0, 0, 0, [])) rfl).mpr (And.intro ((rn_w11 (M := M) hM).1) (And.intro ((And.intro ((hr1 c1).1) (rn_lt (rn_w11 (M := M) hM).2 (hr1 c1).2.1))) (?_)))
    refine (rn_step (e := (.aload_n 0, 27, 0, 0, 0, 0, 0, [])) rfl).mpr ?_
    refine (rn_step (e := (.dup, 28, 0, 0, 0, 0, 0, [])) rfl).mpr ?_
    refine (rn_step (e := (.getfield 15, 31, 7, 0, 49, 0, 8, [])) rfl).mpr (And.intro ((rn_ks10 (M := M) hM)) (rn_cv (by rw [rn_si_gif (a := 11) (b := 10) (by decide)]) ?_))
    refine (rn_step (e := (.iconst 1, 32, 0, 0, 0, 0, 0, [])) rfl).mpr ?_
    refine (rn_step (e := (.iadd, 33, 0, 0, 0, 0, 0, [])) rfl).mpr (rn_cw (hr1 c1).2.2.1 (hr1 c1).2.2.2 ?_)
    refine (rn_step (e := (.putfield 15, 36, 7, 0, 49, 0, 8, [])) rfl).mpr (And.intro ((rn_ks10 (M := M) hM)) (?_))
    refine (rn_step (e := (.iconst 1, 37, 0, 0, 0, 0, 0, [])) rfl).mpr ?_
    exact (rn_step (e := (.ireturn, 38, 0, 0, 0, 1, 0, [])) rfl).mpr (And.intro ((Or.inr rfl)) ((k2 c1)))
theorem re_To_init {M : rn_M} {Q : rn_Q} {v0 : rn_V} (h : rn_WP 86 0 [v0] [] M Q) : rn_ME 86 [v0] M Q := h
set_option maxRecDepth 4000 in
theorem rb_To_init_0 {M : rn_M} {Q : rn_Q} {al0 : Nat}   (k1 : Q none M) : rn_WP 86 0 [rn_R al0] [] M Q := by
  refine (rn_step (e := (.aload_n 0, 1, 0, 0, 0, 0, 0, [])) rfl).mpr ?_
  refine (rn_step (e := (.invokespecial 1, 4, 1000, 1, 141, 2, 0, [0])) rfl).mpr ?_
  exact (rn_step (e := (.return_, 5, 0, 0, 0, 0, 0, [])) rfl).mpr k1
theorem re_To_build {M : rn_M} {Q : rn_Q} {v0 v1 v2 v3 v4 v5 : rn_V} (h : rn_WP 87 0 [v0, v1, v2, v3, v4, v5] [] M Q) : rn_ME 87 [v0, v1, v2, v3, v4, v5] M Q := h
set_option maxRecDepth 4000 in
theorem rb_To_build_0 {M : rn_M} {Q : rn_Q} {al0 : Nat} {xl1 : Int} {xl2 : Int} {xl3 : Int} {xl4 : Int} {xl5 : Int} (hM : rn_sh M) (p_al0 : rn_isT al0)  (k1 : Q none (rn_si (rn_si (rn_si (rn_si (rn_si M al0 0 xl1) al0 1 xl2) al0 2 xl3) al0 3 xl4) al0 4 xl5)) : rn_WP 87 0 [rn_R al0, rn_I xl1, rn_I xl2, rn_I xl3, rn_I xl4, rn_I xl5] [] M Q := by
  refine (rn_step (e := (.aload_n 0, 1, 0, 0, 0, 0, 0, [])) rfl).mpr ?_
  refine (rn_step (e := (.iload_n 1, 2, 1, 0, 0, 0, 0, [])) rfl).mpr ?_
  refine (rn_step (e := (.putfield 7, 5, 8, 0, 142, 0, 9, [])) rfl).mpr (And.intro ((rn_kT (M := M) hM p_al0)) (?_))
  refine (rn_step (e := (.aload_n 0, 6, 0, 0, 0, 0, 0, [])) rfl).mpr ?_
  refine (rn_step (e := (.iload_n 2, 7, 2, 0, 0, 0, 0, [])) rfl).mpr ?_
  refine (rn_step (e := (.putfield 13, 10, 8, 1, 144, 0, 9, [])) rfl).mpr (And.intro ((rn_kT (M := M) hM p_al0)) (?_))
  refine (rn_step (e := (.aload_n 0, 11, 0, 0, 0, 0, 0, [])) rfl).mpr ?_
  refine (rn_step (e := (.iload_n 3, 12, 3, 0, 0, 0, 0, [])) rfl).mpr ?_
  refine (rn_step (e := (.putfield 16, 15, 8, 2, 146, 0, 9, [])) rfl).mpr (And.intro ((rn_kT (M := M) hM p_al0)) (?_))
  refine (rn_step (e := (.aload_n 0, 16, 0, 0, 0, 0, 0, [])) rfl).mpr ?_
  refine (rn_step (e := (.iload 4, 18, 4, 0, 0, 0, 0, [])) rfl).mpr ?_
  refine (rn_step (e := (.putfield 19, 21, 8, 3, 148, 0, 9, [])) rfl).mpr (And.intro ((rn_kT (M := M) hM p_al0)) (?_))
  refine (rn_step (e := (.aload_n 0, 22, 0, 0, 0, 0, 0, [])) rfl).mpr ?_
  refine (rn_step (e := (.iload 5, 24, 5, 0, 0, 0, 0, [])) rfl).mpr ?_
  refine (rn_step (e := (.putfield 22, 27, 8, 4, 150, 0, 9, [])) rfl).mpr (And.intro ((rn_kT (M := M) hM p_al0)) (?_))
  exact (rn_step (e := (.return_, 28, 0, 0, 0, 0, 0, [])) rfl).mpr k1
theorem re_To_copyFrom {M : rn_M} {Q : rn_Q} {v0 v1 : rn_V} (h : rn_WP 88 0 [v0, v1] [] M Q) : rn_ME 88 [v0, v1] M Q := h
set_option maxRecDepth 4000 in
theorem rb_To_copyFrom_0 {M : rn_M} {Q : rn_Q} {al0 : Nat} {al1 : Nat} (hM : rn_sh M) (p_al1 : rn_isT al1) (p_al0 : rn_isT al0)  (k1 : rn_ME 87 [rn_R al0, rn_I (rn_gi M al1 0), rn_I (rn_gi M al1 1), rn_I (rn_gi M al1 2), rn_I (rn_gi M al1 3), rn_I (rn_gi M al1 4)] M (fun r M1 => rn_WP 88 24 [rn_R al0, rn_R al1] (r.toList ++ []) M1 Q)) : rn_WP 88 0 [rn_R al0, rn_R al1] [] M Q := by
  refine (rn_step (e := (.aload_n 0, 1, 0, 0, 0, 0, 0, [])) rfl).mpr ?_
  refine (rn_step (e := (.aload_n 1, 2, 1, 0, 0, 0, 0, [])) rfl).mpr ?_
  refine (rn_step (e := (.getfield 7, 5, 8, 0, 142, 0, 9, [])) rfl).mpr (And.intro ((rn_kT (M := M) hM p_al1)) (?_))
  refine (rn_step (e := (.aload_n 1, 6, 1, 0, 0, 0, 0, [])) rfl).mpr ?_
  refine (rn_step (e := (.getfield 13, 9, 8, 1, 144, 0, 9, [])) rfl).mpr (And.intro ((rn_kT (M := M) hM p_al1)) (?_))
  refine (rn_step (e := (.aload_n 1, 10, 1, 0, 0, 0, 0, [])) rfl).mpr ?_
  refine (rn_step (e := (.getfield 16, 13, 8, 2, 146, 0, 9, [])) rfl).mpr (And.intro ((rn_kT (M := M) hM p_al1)) (?_))
  refine (rn_step (e := (.aload_n 1, 14, 1, 0, 0, 0, 0, [])) rfl).mpr ?_
  refine (rn_step (e := (.getfield 19, 17, 8, 3, 148, 0, 9, [])) rfl).mpr (And.intro ((rn_kT (M := M) hM p_al1)) (?_))
  refine (rn_step (e := (.aload_n 1, 18, 1, 0, 0, 0, 0, [])) rfl).mpr ?_
  refine (rn_step (e := (.getfield 22, 21, 8, 4, 150, 0, 9, [])) rfl).mpr (And.intro ((rn_kT (M := M) hM p_al1)) (?_))
  exact (rn_step (e := (.invokevirtual 25, 24, 87, 6, 559, 0, 9, [0])) rfl).mpr (And.intro ((rn_kT (M := M) hM p_al0)) (k1))
set_option maxRecDepth 4000 in
theorem rb_To_copyFrom_24 {M : rn_M} {Q : rn_Q} {vl0 : rn_V} {vl1 : rn_V}   (k1 : Q none M) : rn_WP 88 24 [vl0, vl1] [] M Q := by
  exact (rn_step (e := (.return_, 25, 0, 0, 0, 0, 0, [])) rfl).mpr k1
theorem re_Ar_fill {M : rn_M} {Q : rn_Q} {v0 v1 : rn_V} (h : rn_WP 213 0 [v0, v1, rn_J, rn_J] [] M Q) : rn_ME 213 [v0, v1] M Q := h
set_option maxRecDepth 4000 in
theorem rb_Ar_fill_0 {M : rn_M} {Q : rn_Q} {al0 : Nat} {vl1 : rn_V} {vl2 : rn_V} {vl3 : rn_V} {n1 : Nat}  (h1 : rn_wa M al0 n1) (k1 : rn_WP 213 5 [rn_R al0, vl1, rn_I 0, rn_I (n1 : Int)] [] M Q) : rn_WP 213 0 [rn_R al0, vl1, vl2, vl3] [] M Q := by
  refine (rn_step (e := (.iconst 0, 1, 0, 0, 0, 0, 0, [])) rfl).mpr ?_
  refine (rn_step (e := (.istore_n 2, 2, 2, 0, 0, 0, 0, [])) rfl).mpr ?_
  refine (rn_step (e := (.aload_n 0, 3, 0, 0, 0, 0, 0, [])) rfl).mpr ?_
  refine (rn_step (e := (.arraylength, 4, 0, 0, 0, 0, 0, [])) rfl).mpr (And.intro (Or.inl h1.1) (rn_cn2 h1.2 ?_))
  refine (rn_step (e := (.istore_n 3, 5, 3, 0, 0, 0, 0, [])) rfl).mpr ?_
  exact k1
set_option maxRecDepth 4000 in
theorem rb_Ar_fill_5 {M : rn_M} {Q : rn_Q} {al0 : Nat} {xl1 : Int} {xl2 : Int} {xl3 : Int} {n1 : Nat}  (h1 : rn_wa M al0 n1) (hr1 : (xl2 < xl3) → (0 : Int) ≤ xl2 ∧ xl2 < (n1 : Int) ∧ (-2147483648 : Int) ≤ xl2 + 1 ∧ xl2 + 1 ≤ 2147483647) (k1 : (xl2 < xl3) → rn_WP 213 5 [rn_R al0, rn_I xl1, rn_I (xl2 + 1), rn_I xl3] [] (rn_si M al0 (xl2).toNat xl1) Q) (k2 : (¬ (xl2 < xl3)) → Q none M) : rn_WP 213 5 [rn_R al0, rn_I xl1, rn_I xl2, rn_I xl3] [] M Q := by
  refine (rn_step (e := (.iload_n 2, 6, 2, 0, 0, 0, 0, [])) rfl).mpr ?_
  refine (rn_step (e := (.iload_n 3, 7, 3, 0, 0, 0, 0, [])) rfl).mpr ?_
  refine (rn_step (e := (.if_icmp .ge 13, 10, 20, 0, 0, 0, 0, [])) rfl).mpr (And.intro (fun c1 => ?_) (fun c1 => ?_))
  ·
    refine (rn_step (e := (.aload_n 0, 11, 0, 0, 0, 0, 0, [])) rfl).mpr ?_
    refine (rn_step (e := (.iload_n 2, 12, 2, 0, 0, 0, 0, [])) rfl).mpr ?_
    refine (rn_step (e := (.iload_n 1, 13, 1, 0, 0, 0, 0, [])) rfl).mpr ?_
    refine (rn_step (e := (.iastore, 14, 0, 0, 0, 0, 0, [])) rfl).mpr (And.intro (h1.1) (And.intro ((And.intro ((hr1 c1).1) (rn_lt h1.2 (hr1 c1).2.1))) (?_)))
    refine (rn_step (e := (.iinc 2 1, 17, 2, 0, 0, 0, 0, [])) rfl).mpr (rn_ci (hr1 c1).2.2.1 (hr1 c1).2.2.2 ?_)
    refine (rn_step (e := (.goto (-12), 20, 5, 0, 0, 0, 0, [])) rfl).mpr ?_
    exact (k1 c1)
  ·
    exact (rn_step (e := (.return_, 21, 0, 0, 0, 0, 0, [])) rfl).mpr (k2 c1)
