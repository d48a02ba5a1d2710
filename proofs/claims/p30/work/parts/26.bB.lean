theorem re_Bo_copyFrom {M : rn_M} {Q : rn_Q} {v0 v1 : rn_V} (h : rn_WP 1 0 [v0, v1, rn_J] [] M Q) : rn_ME 1 [v0, v1] M Q := h
set_option maxRecDepth 4000 in
theorem rb_Bo_copyFrom_0 {M : rn_M} {Q : rn_Q} {al0 : Nat} {al1 : Nat} {vl2 : rn_V} (hM : rn_sh M) (p_al0 : rn_isB al0) (p_al1 : rn_isB al1)  (k1 : rn_WP 1 25 [rn_R al0, rn_R al1, rn_I 0] [] (rn_si (rn_si (rn_si (rn_si M al0 0 0) al0 1 0) al0 2 0) al0 3 (rn_gi (rn_si (rn_si (rn_si M al0 0 0) al0 1 0) al0 2 0) al1 3)) Q) : rn_WP 1 0 [rn_R al0, rn_R al1, vl2] [] M Q := by
  refine (rn_step (e := (.aload_n 0, 1, 0, 0, 0, 0, 0, [])) rfl).mpr ?_
  refine (rn_step (e := (.iconst 0, 2, 0, 0, 0, 0, 0, [])) rfl).mpr ?_
  refine (rn_step (e := (.putfield 40, 5, 0, 0, 182, 0, 1, [])) rfl).mpr (And.intro ((rn_kB (M := M) hM p_al0)) (?_))
  refine (rn_step (e := (.aload_n 0, 6, 0, 0, 0, 0, 0, [])) rfl).mpr ?_
  refine (rn_step (e := (.iconst 0, 7, 0, 0, 0, 0, 0, [])) rfl).mpr ?_
  refine (rn_step (e := (.putfield 43, 10, 0, 1, 185, 0, 1, [])) rfl).mpr (And.intro ((rn_kB (M := M) hM p_al0)) (?_))
  refine (rn_step (e := (.aload_n 0, 11, 0, 0, 0, 0, 0, [])) rfl).mpr ?_
  refine (rn_step (e := (.iconst 0, 12, 0, 0, 0, 0, 0, [])) rfl).mpr ?_
  refine (rn_step (e := (.putfield 46, 15, 0, 2, 188, 0, 1, [])) rfl).mpr (And.intro ((rn_kB (M := M) hM p_al0)) (?_))
  refine (rn_step (e := (.aload_n 0, 16, 0, 0, 0, 0, 0, [])) rfl).mpr ?_
  refine (rn_step (e := (.aload_n 1, 17, 1, 0, 0, 0, 0, [])) rfl).mpr ?_
  refine (rn_step (e := (.getfield 9, 20, 0, 3, 191, 0, 1, [])) rfl).mpr (And.intro ((rn_kB (M := M) hM p_al1)) (?_))
  refine (rn_step (e := (.putfield 9, 23, 0, 3, 191, 0, 1, [])) rfl).mpr (And.intro ((rn_kB (M := M) hM p_al0)) (?_))
  refine (rn_step (e := (.iconst 0, 24, 0, 0, 0, 0, 0, [])) rfl).mpr ?_
  refine (rn_step (e := (.istore_n 2, 25, 2, 0, 0, 0, 0, [])) rfl).mpr ?_
  exact k1
set_option maxRecDepth 4000 in
theorem rb_Bo_copyFrom_25 {M : rn_M} {Q : rn_Q} {rl0 : Option Nat} {al1 : Nat} {xl2 : Int} (hM : rn_sh M) (p_al1 : rn_isB al1)  (k1 : (xl2 < rn_gi M al1 0) → rn_ME 5 [rn_R al1, rn_I xl2] M (fun r M1 => rn_WP 1 39 [.inr (.inl (some rl0)), rn_R al1, rn_I xl2] (r.toList ++ [.inr (.inl (some rl0))]) M1 Q)) (k2 : (¬ (xl2 < rn_gi M al1 0)) → rn_WP 1 50 [.inr (.inl (some rl0)), rn_R al1, rn_I 0] [] M Q) : rn_WP 1 25 [.inr (.inl (some rl0)), rn_R al1, rn_I xl2] [] M Q := by
  refine (rn_step (e := (.iload_n 2, 26, 2, 0, 0, 0, 0, [])) rfl).mpr ?_
  refine (rn_step (e := (.aload_n 1, 27, 1, 0, 0, 0, 0, [])) rfl).mpr ?_
  refine (rn_step (e := (.getfield 40, 30, 0, 0, 182, 0, 1, [])) rfl).mpr (And.intro ((rn_kB (M := M) hM p_al1)) (?_))
  refine (rn_step (e := (.if_icmp .ge 18, 33, 48, 0, 0, 0, 0, [])) rfl).mpr (And.intro (fun c1 => ?_) (fun c1 => ?_))
  ·
    refine (rn_step (e := (.aload_n 0, 34, 0, 0, 0, 0, 0, [])) rfl).mpr ?_
    refine (rn_step (e := (.aload_n 1, 35, 1, 0, 0, 0, 0, [])) rfl).mpr ?_
    refine (rn_step (e := (.iload_n 2, 36, 2, 0, 0, 0, 0, [])) rfl).mpr ?_
    exact (rn_step (e := (.invokevirtual 49, 39, 5, 2, 377, 0, 1, [0])) rfl).mpr (And.intro ((rn_kB (M := M) hM p_al1)) ((k1 c1)))
  ·
    refine (rn_step (e := (.iconst 0, 49, 0, 0, 0, 0, 0, [])) rfl).mpr ?_
    refine (rn_step (e := (.istore_n 2, 50, 2, 0, 0, 0, 0, [])) rfl).mpr ?_
    exact (k2 c1)
set_option maxRecDepth 4000 in
theorem rb_Bo_copyFrom_39 {M : rn_M} {Q : rn_Q} {vl0 : rn_V} {vl1 : rn_V} {vl2 : rn_V} {rs0 : Option Nat} {as1 : Nat} (hM : rn_sh M) (p_as1 : rn_isB as1)  (k1 : rn_ME 2 [rn_R as1, .inr (.inl (some rs0))] M (fun r M1 => rn_WP 1 42 [vl0, vl1, vl2] (r.toList ++ []) M1 Q)) : rn_WP 1 39 [vl0, vl1, vl2] [.inr (.inl (some rs0)), rn_R as1] M Q := by
  exact (rn_step (e := (.invokevirtual 53, 42, 2, 2, 528, 0, 1, [0])) rfl).mpr (And.intro ((rn_kB (M := M) hM p_as1)) (k1))
set_option maxRecDepth 4000 in
theorem rb_Bo_copyFrom_42 {M : rn_M} {Q : rn_Q} {vl0 : rn_V} {vl1 : rn_V} {xl2 : Int}   (hr1 : (-2147483648 : Int) ≤ xl2 + 1 ∧ xl2 + 1 ≤ 2147483647) (k1 : rn_WP 1 25 [vl0, vl1, rn_I (xl2 + 1)] [] M Q) : rn_WP 1 42 [vl0, vl1, rn_I xl2] [] M Q := by
  refine (rn_step (e := (.iinc 2 1, 45, 2, 0, 0, 0, 0, [])) rfl).mpr (rn_ci hr1.1 hr1.2 ?_)
  refine (rn_step (e := (.goto (-20), 48, 25, 0, 0, 0, 0, [])) rfl).mpr ?_
  exact k1
set_option maxRecDepth 4000 in
theorem rb_Bo_copyFrom_50 {M : rn_M} {Q : rn_Q} {rl0 : Option Nat} {al1 : Nat} {xl2 : Int} (hM : rn_sh M) (p_al1 : rn_isB al1)  (k1 : (xl2 < rn_gi M al1 1) → rn_ME 6 [rn_R al1, rn_I xl2] M (fun r M1 => rn_WP 1 64 [.inr (.inl (some rl0)), rn_R al1, rn_I xl2] (r.toList ++ [.inr (.inl (some rl0))]) M1 Q)) (k2 : (¬ (xl2 < rn_gi M al1 1)) → rn_WP 1 75 [.inr (.inl (some rl0)), rn_R al1, rn_I 0] [] M Q) : rn_WP 1 50 [.inr (.inl (some rl0)), rn_R al1, rn_I xl2] [] M Q := by
  refine (rn_step (e := (.iload_n 2, 51, 2, 0, 0, 0, 0, [])) rfl).mpr ?_
  refine (rn_step (e := (.aload_n 1, 52, 1, 0, 0, 0, 0, [])) rfl).mpr ?_
  refine (rn_step (e := (.getfield 43, 55, 0, 1, 185, 0, 1, [])) rfl).mpr (And.intro ((rn_kB (M := M) hM p_al1)) (?_))
  refine (rn_step (e := (.if_icmp .ge 18, 58, 73, 0, 0, 0, 0, [])) rfl).mpr (And.intro (fun c1 => ?_) (fun c1 => ?_))
  ·
    refine (rn_step (e := (.aload_n 0, 59, 0, 0, 0, 0, 0, [])) rfl).mpr ?_
    refine (rn_step (e := (.aload_n 1, 60, 1, 0, 0, 0, 0, [])) rfl).mpr ?_
    refine (rn_step (e := (.iload_n 2, 61, 2, 0, 0, 0, 0, [])) rfl).mpr ?_
    exact (rn_step (e := (.invokevirtual 56, 64, 6, 2, 482, 0, 1, [0])) rfl).mpr (And.intro ((rn_kB (M := M) hM p_al1)) ((k1 c1)))
  ·
    refine (rn_step (e := (.iconst 0, 74, 0, 0, 0, 0, 0, [])) rfl).mpr ?_
    refine (rn_step (e := (.istore_n 2, 75, 2, 0, 0, 0, 0, [])) rfl).mpr ?_
    exact (k2 c1)
set_option maxRecDepth 4000 in
theorem rb_Bo_copyFrom_64 {M : rn_M} {Q : rn_Q} {vl0 : rn_V} {vl1 : rn_V} {vl2 : rn_V} {rs0 : Option Nat} {as1 : Nat} (hM : rn_sh M) (p_as1 : rn_isB as1)  (k1 : rn_ME 3 [rn_R as1, .inr (.inl (some rs0))] M (fun r M1 => rn_WP 1 67 [vl0, vl1, vl2] (r.toList ++ []) M1 Q)) : rn_WP 1 64 [vl0, vl1, vl2] [.inr (.inl (some rs0)), rn_R as1] M Q := by
  exact (rn_step (e := (.invokevirtual 60, 67, 3, 2, 547, 0, 1, [0])) rfl).mpr (And.intro ((rn_kB (M := M) hM p_as1)) (k1))
set_option maxRecDepth 4000 in
theorem rb_Bo_copyFrom_67 {M : rn_M} {Q : rn_Q} {vl0 : rn_V} {vl1 : rn_V} {xl2 : Int}   (hr1 : (-2147483648 : Int) ≤ xl2 + 1 ∧ xl2 + 1 ≤ 2147483647) (k1 : rn_WP 1 50 [vl0, vl1, rn_I (xl2 + 1)] [] M Q) : rn_WP 1 67 [vl0, vl1, rn_I xl2] [] M Q := by
  refine (rn_step (e := (.iinc 2 1, 70, 2, 0, 0, 0, 0, [])) rfl).mpr (rn_ci hr1.1 hr1.2 ?_)
  refine (rn_step (e := (.goto (-20), 73, 50, 0, 0, 0, 0, [])) rfl).mpr ?_
  exact k1
set_option maxRecDepth 4000 in
theorem rb_Bo_copyFrom_75 {M : rn_M} {Q : rn_Q} {rl0 : Option Nat} {al1 : Nat} {xl2 : Int} (hM : rn_sh M) (p_al1 : rn_isB al1)  (k1 : (xl2 < rn_gi M al1 2) → rn_ME 7 [rn_R al1, rn_I xl2] M (fun r M1 => rn_WP 1 89 [.inr (.inl (some rl0)), rn_R al1, rn_I xl2] (r.toList ++ [.inr (.inl (some rl0))]) M1 Q)) (k2 : (¬ (xl2 < rn_gi M al1 2)) → Q none M) : rn_WP 1 75 [.inr (.inl (some rl0)), rn_R al1, rn_I xl2] [] M Q := by
  refine (rn_step (e := (.iload_n 2, 76, 2, 0, 0, 0, 0, [])) rfl).mpr ?_
  refine (rn_step (e := (.aload_n 1, 77, 1, 0, 0, 0, 0, [])) rfl).mpr ?_
  refine (rn_step (e := (.getfield 46, 80, 0, 2, 188, 0, 1, [])) rfl).mpr (And.intro ((rn_kB (M := M) hM p_al1)) (?_))
  refine (rn_step (e := (.if_icmp .ge 18, 83, 98, 0, 0, 0, 0, [])) rfl).mpr (And.intro (fun c1 => ?_) (fun c1 => ?_))
  ·
    refine (rn_step (e := (.aload_n 0, 84, 0, 0, 0, 0, 0, [])) rfl).mpr ?_
    refine (rn_step (e := (.aload_n 1, 85, 1, 0, 0, 0, 0, [])) rfl).mpr ?_
    refine (rn_step (e := (.iload_n 2, 86, 2, 0, 0, 0, 0, [])) rfl).mpr ?_
    exact (rn_step (e := (.invokevirtual 64, 89, 7, 2, 288, 0, 1, [0])) rfl).mpr (And.intro ((rn_kB (M := M) hM p_al1)) ((k1 c1)))
  ·
    exact (rn_step (e := (.return_, 99, 0, 0, 0, 0, 0, [])) rfl).mpr (k2 c1)
set_option maxRecDepth 4000 in
theorem rb_Bo_copyFrom_89 {M : rn_M} {Q : rn_Q} {vl0 : rn_V} {vl1 : rn_V} {vl2 : rn_V} {rs0 : Option Nat} {as1 : Nat} (hM : rn_sh M) (p_as1 : rn_isB as1)  (k1 : rn_ME 4 [rn_R as1, .inr (.inl (some rs0))] M (fun r M1 => rn_WP 1 92 [vl0, vl1, vl2] (r.toList ++ []) M1 Q)) : rn_WP 1 89 [vl0, vl1, vl2] [.inr (.inl (some rs0)), rn_R as1] M Q := by
  exact (rn_step (e := (.invokevirtual 68, 92, 4, 2, 563, 0, 1, [0])) rfl).mpr (And.intro ((rn_kB (M := M) hM p_as1)) (k1))
set_option maxRecDepth 4000 in
theorem rb_Bo_copyFrom_92 {M : rn_M} {Q : rn_Q} {vl0 : rn_V} {vl1 : rn_V} {xl2 : Int}   (hr1 : (-2147483648 : Int) ≤ xl2 + 1 ∧ xl2 + 1 ≤ 2147483647) (k1 : rn_WP 1 75 [vl0, vl1, rn_I (xl2 + 1)] [] M Q) : rn_WP 1 92 [vl0, vl1, rn_I xl2] [] M Q := by
  refine (rn_step (e := (.iinc 2 1, 95, 2, 0, 0, 0, 0, [])) rfl).mpr (rn_ci hr1.1 hr1.2 ?_)
  refine (rn_step (e := (.goto (-20), 98, 75, 0, 0, 0, 0, [])) rfl).mpr ?_
  exact k1
theorem re_Bo_copyRiver {M : rn_M} {Q : rn_Q} {v0 v1 : rn_V} (h : rn_WP 2 0 [v0, v1, rn_J] [] M Q) : rn_ME 2 [v0, v1] M Q := h
set_option maxRecDepth 4000 in
theorem rb_Bo_copyRiver_0 {M : rn_M} {Q : rn_Q} {al0 : Nat} {vl1 : rn_V} {vl2 : rn_V} (hM : rn_sh M) (p_al0 : rn_isB al0)  (k1 : rn_ME 8 [rn_R al0] M (fun r M1 => rn_WP 2 4 [rn_R al0, vl1, vl2] (r.toList ++ []) M1 Q)) : rn_WP 2 0 [rn_R al0, vl1, vl2] [] M Q := by
  refine (rn_step (e := (.aload_n 0, 1, 0, 0, 0, 0, 0, [])) rfl).mpr ?_
  exact (rn_step (e := (.invokevirtual 72, 4, 8, 1, 532, 0, 1, [0])) rfl).mpr (And.intro ((rn_kB (M := M) hM p_al0)) (k1))
set_option maxRecDepth 4000 in
theorem rb_Bo_copyRiver_4n {M : rn_M} {Q : rn_Q} {vl0 : rn_V} {vl1 : rn_V} {vl2 : rn_V}   (k1 : Q none M) : rn_WP 2 4 [vl0, vl1, vl2] [rn_N] M Q := by
  refine (rn_step (e := (.astore_n 2, 5, 2, 0, 0, 0, 0, [])) rfl).mpr ?_
  refine (rn_step (e := (.aload_n 2, 6, 2, 0, 0, 0, 0, [])) rfl).mpr ?_
  refine (rn_step (e := (.ifnull 12, 9, 18, 0, 0, 0, 0, [])) rfl).mpr ?_
  exact (rn_step (e := (.return_, 19, 0, 0, 0, 0, 0, [])) rfl).mpr k1
set_option maxRecDepth 4000 in
theorem rb_Bo_copyRiver_4sn {M : rn_M} {Q : rn_Q} {vl0 : rn_V} {vl2 : rn_V} {as0 : Nat}   (k1 : Q none M) : rn_WP 2 4 [vl0, rn_N, vl2] [rn_R as0] M Q := by
  refine (rn_step (e := (.astore_n 2, 5, 2, 0, 0, 0, 0, [])) rfl).mpr ?_
  refine (rn_step (e := (.aload_n 2, 6, 2, 0, 0, 0, 0, [])) rfl).mpr ?_
  refine (rn_step (e := (.ifnull 12, 9, 18, 0, 0, 0, 0, [])) rfl).mpr ?_
  refine (rn_step (e := (.aload_n 1, 10, 1, 0, 0, 0, 0, [])) rfl).mpr ?_
  refine (rn_step (e := (.ifnull 8, 13, 18, 0, 0, 0, 0, [])) rfl).mpr ?_
  exact (rn_step (e := (.return_, 19, 0, 0, 0, 0, 0, [])) rfl).mpr k1
set_option maxRecDepth 4000 in
theorem rb_Bo_copyRiver_4ss {M : rn_M} {Q : rn_Q} {vl0 : rn_V} {al1 : Nat} {vl2 : rn_V} {as0 : Nat} (hM : rn_sh M) (p_as0 : rn_isR as0)  (k1 : rn_ME 58 [rn_R as0, rn_R al1] M (fun r M1 => rn_WP 2 18 [vl0, rn_R al1, rn_R as0] (r.toList ++ []) M1 Q)) : rn_WP 2 4 [vl0, rn_R al1, vl2] [rn_R as0] M Q := by
  refine (rn_step (e := (.astore_n 2, 5, 2, 0, 0, 0, 0, [])) rfl).mpr ?_
  refine (rn_step (e := (.aload_n 2, 6, 2, 0, 0, 0, 0, [])) rfl).mpr ?_
  refine (rn_step (e := (.ifnull 12, 9, 18, 0, 0, 0, 0, [])) rfl).mpr ?_
  refine (rn_step (e := (.aload_n 1, 10, 1, 0, 0, 0, 0, [])) rfl).mpr ?_
  refine (rn_step (e := (.ifnull 8, 13, 18, 0, 0, 0, 0, [])) rfl).mpr ?_
  refine (rn_step (e := (.aload_n 2, 14, 2, 0, 0, 0, 0, [])) rfl).mpr ?_
  refine (rn_step (e := (.aload_n 1, 15, 1, 0, 0, 0, 0, [])) rfl).mpr ?_
  exact (rn_step (e := (.invokevirtual 76, 18, 58, 2, 540, 0, 6, [0])) rfl).mpr (And.intro ((rn_kR (M := M) hM p_as0)) (k1))
set_option maxRecDepth 4000 in
theorem rb_Bo_copyRiver_18 {M : rn_M} {Q : rn_Q} {vl0 : rn_V} {vl1 : rn_V} {vl2 : rn_V}   (k1 : Q none M) : rn_WP 2 18 [vl0, vl1, vl2] [] M Q := by
  exact (rn_step (e := (.return_, 19, 0, 0, 0, 0, 0, [])) rfl).mpr k1
theorem re_Bo_copyTown {M : rn_M} {Q : rn_Q} {v0 v1 : rn_V} (h : rn_WP 3 0 [v0, v1, rn_J] [] M Q) : rn_ME 3 [v0, v1] M Q := h
set_option maxRecDepth 4000 in
theorem rb_Bo_copyTown_0 {M : rn_M} {Q : rn_Q} {al0 : Nat} {vl1 : rn_V} {vl2 : rn_V} (hM : rn_sh M) (p_al0 : rn_isB al0)  (k1 : rn_ME 9 [rn_R al0] M (fun r M1 => rn_WP 3 4 [rn_R al0, vl1, vl2] (r.toList ++ []) M1 Q)) : rn_WP 3 0 [rn_R al0, vl1, vl2] [] M Q := by
  refine (rn_step (e := (.aload_n 0, 1, 0, 0, 0, 0, 0, [])) rfl).mpr ?_
  exact (rn_step (e := (.invokevirtual 79, 4, 9, 1, 551, 0, 1, [0])) rfl).mpr (And.intro ((rn_kB (M := M) hM p_al0)) (k1))
set_option maxRecDepth 4000 in
theorem rb_Bo_copyTown_4n {M : rn_M} {Q : rn_Q} {vl0 : rn_V} {vl1 : rn_V} {vl2 : rn_V}   (k1 : Q none M) : rn_WP 3 4 [vl0, vl1, vl2] [rn_N] M Q := by
  refine (rn_step (e := (.astore_n 2, 5, 2, 0, 0, 0, 0, [])) rfl).mpr ?_
  refine (rn_step (e := (.aload_n 2, 6, 2, 0, 0, 0, 0, [])) rfl).mpr ?_
  refine (rn_step (e := (.ifnull 12, 9, 18, 0, 0, 0, 0, [])) rfl).mpr ?_
  exact (rn_step (e := (.return_, 19, 0, 0, 0, 0, 0, [])) rfl).mpr k1
set_option maxRecDepth 4000 in
theorem rb_Bo_copyTown_4sn {M : rn_M} {Q : rn_Q} {vl0 : rn_V} {vl2 : rn_V} {as0 : Nat}   (k1 : Q none M) : rn_WP 3 4 [vl0, rn_N, vl2] [rn_R as0] M Q := by
  refine (rn_step (e := (.astore_n 2, 5, 2, 0, 0, 0, 0, [])) rfl).mpr ?_
  refine (rn_step (e := (.aload_n 2, 6, 2, 0, 0, 0, 0, [])) rfl).mpr ?_
  refine (rn_step (e := (.ifnull 12, 9, 18, 0, 0, 0, 0, [])) rfl).mpr ?_
  refine (rn_step (e := (.aload_n 1, 10, 1, 0, 0, 0, 0, [])) rfl).mpr ?_
  refine (rn_step (e := (.ifnull 8, 13, 18, 0, 0, 0, 0, [])) rfl).mpr ?_
  exact (rn_step (e := (.return_, 19, 0, 0, 0, 0, 0, [])) rfl).mpr k1
set_option maxRecDepth 4000 in
theorem rb_Bo_copyTown_4ss {M : rn_M} {Q : rn_Q} {vl0 : rn_V} {al1 : Nat} {vl2 : rn_V} {as0 : Nat} (hM : rn_sh M) (p_as0 : rn_isT as0)  (k1 : rn_ME 88 [rn_R as0, rn_R al1] M (fun r M1 => rn_WP 3 18 [vl0, rn_R al1, rn_R as0] (r.toList ++ []) M1 Q)) : rn_WP 3 4 [vl0, rn_R al1, vl2] [rn_R as0] M Q := by
  refine (rn_step (e := (.astore_n 2, 5, 2, 0, 0, 0, 0, [])) rfl).mpr ?_
  refine (rn_step (e := (.aload_n 2, 6, 2, 0, 0, 0, 0, [])) rfl).mpr ?_
  refine (rn_step (e := (.ifnull 12, 9, 18, 0, 0, 0, 0, [])) rfl).mpr ?_
  refine (rn_step (e := (.aload_n 1, 10, 1, 0, 0, 0, 0, [])) rfl).mpr ?_
  refine (rn_step (e := (.ifnull 8, 13, 18, 0, 0, 0, 0, [])) rfl).mpr ?_
  refine (rn_step (e := (.aload_n 2, 14, 2, 0, 0, 0, 0, [])) rfl).mpr ?_
  refine (rn_step (e := (.aload_n 1, 15, 1, 0, 0, 0, 0, [])) rfl).mpr ?_
  exact (rn_step (e := (.invokevirtual 83, 18, 88, 2, 555, 0, 9, [0])) rfl).mpr (And.intro ((rn_kT (M := M) hM p_as0)) (k1))
set_option maxRecDepth 4000 in
theorem rb_Bo_copyTown_18 {M : rn_M} {Q : rn_Q} {vl0 : rn_V} {vl1 : rn_V} {vl2 : rn_V}   (k1 : Q none M) : rn_WP 3 18 [vl0, vl1, vl2] [] M Q := by
  exact (rn_step (e := (.return_, 19, 0, 0, 0, 0, 0, [])) rfl).mpr k1
theorem re_Bo_copyLabel {M : rn_M} {Q : rn_Q} {v0 v1 : rn_V} (h : rn_WP 4 0 [v0, v1] [] M Q) : rn_ME 4 [v0, v1] M Q := h
set_option maxRecDepth 4000 in
theorem rb_Bo_copyLabel_0n {M : rn_M} {Q : rn_Q} {vl0 : rn_V}   (k1 : Q none M) : rn_WP 4 0 [vl0, rn_N] [] M Q := by
  refine (rn_step (e := (.aload_n 1, 1, 1, 0, 0, 0, 0, [])) rfl).mpr ?_
  refine (rn_step (e := (.ifnull 23, 4, 24, 0, 0, 0, 0, [])) rfl).mpr ?_
  exact (rn_step (e := (.return_, 25, 0, 0, 0, 0, 0, [])) rfl).mpr k1
set_option maxRecDepth 4000 in
theorem rb_Bo_copyLabel_0s {M : rn_M} {Q : rn_Q} {al0 : Nat} {al1 : Nat} (hM : rn_sh M) (p_al1 : rn_isL al1) (p_al0 : rn_isB al0)  (hr1 : rn_gr M al1 0 = some (rn_go M al1 0) ∧ rn_isR (rn_go M al1 0)) (k1 : rn_ME 5 [rn_R al0, rn_I (rn_gi M (rn_go M al1 0) 0)] M (fun r M1 => rn_WP 4 16 [rn_R al0, rn_R al1] (r.toList ++ [rn_R al0]) M1 Q)) : rn_WP 4 0 [rn_R al0, rn_R al1] [] M Q := by
  refine (rn_step (e := (.aload_n 1, 1, 1, 0, 0, 0, 0, [])) rfl).mpr ?_
  refine (rn_step (e := (.ifnull 23, 4, 24, 0, 0, 0, 0, [])) rfl).mpr ?_
  refine (rn_step (e := (.aload_n 0, 5, 0, 0, 0, 0, 0, [])) rfl).mpr ?_
  refine (rn_step (e := (.aload_n 0, 6, 0, 0, 0, 0, 0, [])) rfl).mpr ?_
  refine (rn_step (e := (.aload_n 1, 7, 1, 0, 0, 0, 0, [])) rfl).mpr ?_
  refine (rn_step (e := (.getfield 85, 10, 3, 0, 171, 2, 4, [])) rfl).mpr (And.intro ((rn_kL (M := M) hM p_al1)) (rn_cg hr1.1 ?_))
  refine (rn_step (e := (.getfield 89, 13, 5, 0, 97, 0, 6, [])) rfl).mpr (And.intro ((rn_kR (M := M) hM hr1.2)) (?_))
  exact (rn_step (e := (.invokevirtual 49, 16, 5, 2, 377, 0, 1, [0])) rfl).mpr (And.intro ((rn_kB (M := M) hM p_al0)) (k1))
set_option maxRecDepth 4000 in
theorem rb_Bo_copyLabel_16 {M : rn_M} {Q : rn_Q} {vl0 : rn_V} {al1 : Nat} {rs0 : Option Nat} {as1 : Nat} (hM : rn_sh M) (p_al1 : rn_isL al1) (p_as1 : rn_isB as1)  (k1 : rn_ME 10 [rn_R as1, .inr (.inl (some rs0)), rn_I (rn_gi M al1 1)] M (fun r M1 => rn_WP 4 23 [vl0, rn_R al1] (r.toList ++ []) M1 Q)) : rn_WP 4 16 [vl0, rn_R al1] [.inr (.inl (some rs0)), rn_R as1] M Q := by
  refine (rn_step (e := (.aload_n 1, 17, 1, 0, 0, 0, 0, [])) rfl).mpr ?_
  refine (rn_step (e := (.getfield 92, 20, 3, 1, 175, 0, 4, [])) rfl).mpr (And.intro ((rn_kL (M := M) hM p_al1)) (?_))
  exact (rn_step (e := (.invokevirtual 95, 23, 10, 3, 567, 0, 1, [0])) rfl).mpr (And.intro ((rn_kB (M := M) hM p_as1)) (k1))
set_option maxRecDepth 4000 in
theorem rb_Bo_copyLabel_23 {M : rn_M} {Q : rn_Q} {vl0 : rn_V} {vl1 : rn_V} {xs0 : Int}   (k1 : Q none M) : rn_WP 4 23 [vl0, vl1] [rn_I xs0] M Q := by
  refine (rn_step (e := (.pop, 24, 0, 0, 0, 0, 0, [])) rfl).mpr ?_
  exact (rn_step (e := (.return_, 25, 0, 0, 0, 0, 0, [])) rfl).mpr k1
theorem re_Bo_riverAt {M : rn_M} {Q : rn_Q} {v0 v1 : rn_V} (h : rn_WP 5 0 [v0, v1] [] M Q) : rn_ME 5 [v0, v1] M Q := h
set_option maxRecDepth 4000 in
theorem rb_Bo_riverAt_0 {M : rn_M} {Q : rn_Q} {al0 : Nat} {xl1 : Int} (hM : rn_sh M) (p_al0 : rn_isB al0)  (hr1 : (-2147483648 : Int) ≤ (rn_gi M al0 0) - 1 ∧ (rn_gi M al0 0) - 1 ≤ 2147483647) (hr2 : (0 ≤ xl1 ∧ xl1 ≤ (rn_gi M al0 0) - 1) → (0 : Int) ≤ xl1 ∧ xl1 < (6 : Int)) (k1 : (¬ (0 ≤ xl1 ∧ xl1 ≤ (rn_gi M al0 0) - 1)) → Q (some (rn_N)) M) (k2 : (0 ≤ xl1 ∧ xl1 ≤ (rn_gi M al0 0) - 1) → Q (some (rn_R (al0 + 4 + 5 * (xl1).toNat))) M) : rn_WP 5 0 [rn_R al0, rn_I xl1] [] M Q := by
  refine (rn_step (e := (.iload_n 1, 1, 1, 0, 0, 0, 0, [])) rfl).mpr ?_
  refine (rn_step (e := (.iconst 0, 2, 0, 0, 0, 0, 0, [])) rfl).mpr ?_
  refine (rn_step (e := (.aload_n 0, 3, 0, 0, 0, 0, 0, [])) rfl).mpr ?_
  refine (rn_step (e := (.getfield 40, 6, 0, 0, 182, 0, 1, [])) rfl).mpr (And.intro ((rn_kB (M := M) hM p_al0)) (?_))
  refine (rn_step (e := (.iconst 1, 7, 0, 0, 0, 0, 0, [])) rfl).mpr ?_
  refine (rn_step (e := (.isub, 8, 0, 0, 0, 0, 0, [])) rfl).mpr (rn_cw hr1.1 hr1.2 ?_)
  refine (rn_step (e := (.invokestatic 99, 11, 118, 3, 6, 0, 10, [1])) rfl).mpr (rc_RN_within  ?_)
  refine (rn_step (e := (.ifCond .eq 12, 14, 23, 0, 0, 0, 0, [])) rfl).mpr (And.intro (fun q => ?_) (fun q => ?_))
  · have c1 := rn_b0 q
    refine (rn_step (e := (.aconst_null, 24, 0, 0, 0, 0, 0, [])) rfl).mpr ?_
    exact (rn_step (e := (.areturn, 25, 0, 0, 0, 0, 0, [])) rfl).mpr (k1 c1)
  · have c1 := rn_b1 q
    refine (rn_step (e := (.aload_n 0, 15, 0, 0, 0, 0, 0, [])) rfl).mpr ?_
    refine (rn_step (e := (.getfield 17, 18, 0, 4, 194, 2, 1, [])) rfl).mpr (And.intro ((rn_kB (M := M) hM p_al0)) (rn_cg (rn_gB4 (M := M) hM p_al0) ?_))
    refine (rn_step (e := (.iload_n 1, 19, 1, 0, 0, 0, 0, [])) rfl).mpr ?_
    refine (rn_step (e := (.aaload, 20, 0, 0, 0, 0, 0, [])) rfl).mpr (And.intro (rn_q30 (rn_aB1 (M := M) hM p_al0).1) (And.intro ((And.intro ((hr2 c1).1) (rn_lt (rn_aB1 (M := M) hM p_al0).2 (hr2 c1).2))) (rn_cg (rn_eR (M := M) hM p_al0 (rn_tn (hr2 c1).1 (hr2 c1).2)) ?_)))
    refine (rn_step (e := (.goto 4, 23, 24, 0, 0, 0, 0, [])) rfl).mpr ?_
    exact (rn_step (e := (.areturn, 25, 0, 0, 0, 0, 0, [])) rfl).mpr (k2 c1)
theorem re_Bo_townAt {M : rn_M} {Q : rn_Q} {v0 v1 : rn_V} (h : rn_WP 6 0 [v0, v1] [] M Q) : rn_ME 6 [v0, v1] M Q := h
set_option maxRecDepth 4000 in
theorem rb_Bo_townAt_0 {M : rn_M} {Q : rn_Q} {al0 : Nat} {xl1 : Int} (hM : rn_sh M) (p_al0 : rn_isB al0)  (hr1 : (-2147483648 : Int) ≤ (rn_gi M al0 1) - 1 ∧ (rn_gi M al0 1) - 1 ≤ 2147483647) (hr2 : (0 ≤ xl1 ∧ xl1 ≤ (rn_gi M al0 1) - 1) → (0 : Int) ≤ xl1 ∧ xl1 < (10 : Int)) (k1 : (¬ (0 ≤ xl1 ∧ xl1 ≤ (rn_gi M al0 1) - 1)) → Q (some (rn_N)) M) (k2 : (0 ≤ xl1 ∧ xl1 ≤ (rn_gi M al0 1) - 1) → Q (some (rn_R (al0 + 34 + (xl1).toNat))) M) : rn_WP 6 0 [rn_R al0, rn_I xl1] [] M Q := by
  refine (rn_step (e := (.iload_n 1, 1, 1, 0, 0, 0, 0, [])) rfl).mpr ?_
  refine (rn_step (e := (.iconst 0, 2, 0, 0, 0, 0, 0, [])) rfl).mpr ?_
  refine (rn_step (e := (.aload_n 0, 3, 0, 0, 0, 0, 0, [])) rfl).mpr ?_
  refine (rn_step (e := (.getfield 43, 6, 0, 1, 185, 0, 1, [])) rfl).mpr (And.intro ((rn_kB (M := M) hM p_al0)) (?_))
  refine (rn_step (e := (.iconst 1, 7, 0, 0, 0, 0, 0, [])) rfl).mpr ?_
  refine (rn_step (e := (.isub, 8, 0, 0, 0, 0, 0, [])) rfl).mpr (rn_cw hr1.1 hr1.2 ?_)
  refine (rn_step (e := (.invokestatic 99, 11, 118, 3, 6, 0, 10, [1])) rfl).mpr (rc_RN_within  ?_)
  refine (rn_step (e := (.ifCond .eq 12, 14, 23, 0, 0, 0, 0, [])) rfl).mpr (And.intro (fun q => ?_) (fun q => ?_))
  · have c1 := rn_b0 q
    refine (rn_step (e := (.aconst_null, 24, 0, 0, 0, 0, 0, [])) rfl).mpr ?_
    exact (rn_step (e := (.areturn, 25, 0, 0, 0, 0, 0, [])) rfl).mpr (k1 c1)
  · have c1 := rn_b1 q
    refine (rn_step (e := (.aload_n 0, 15, 0, 0, 0, 0, 0, [])) rfl).mpr ?_
    refine (rn_step (e := (.getfield 23, 18, 0, 5, 195, 2, 1, [])) rfl).mpr (And.intro ((rn_kB (M := M) hM p_al0)) (rn_cg (rn_gB5 (M := M) hM p_al0) ?_))
    refine (rn_step (e := (.iload_n 1, 19, 1, 0, 0, 0, 0, [])) rfl).mpr ?_
    refine (rn_step (e := (.aaload, 20, 0, 0, 0, 0, 0, [])) rfl).mpr (And.intro (rn_q30 (rn_aB2 (M := M) hM p_al0).1) (And.intro ((And.intro ((hr2 c1).1) (rn_lt (rn_aB2 (M := M) hM p_al0).2 (hr2 c1).2))) (rn_cg (rn_eT (M := M) hM p_al0 (rn_tn (hr2 c1).1 (hr2 c1).2)) ?_)))
    refine (rn_step (e := (.goto 4, 23, 24, 0, 0, 0, 0, [])) rfl).mpr ?_
    exact (rn_step (e := (.areturn, 25, 0, 0, 0, 0, 0, [])) rfl).mpr (k2 c1)
theorem re_Bo_labelAt {M : rn_M} {Q : rn_Q} {v0 v1 : rn_V} (h : rn_WP 7 0 [v0, v1] [] M Q) : rn_ME 7 [v0, v1] M Q := h
set_option maxRecDepth 4000 in
theorem rb_Bo_labelAt_0 {M : rn_M} {Q : rn_Q} {al0 : Nat} {xl1 : Int} (hM : rn_sh M) (p_al0 : rn_isB al0)  (hr1 : (-2147483648 : Int) ≤ (rn_gi M al0 2) - 1 ∧ (rn_gi M al0 2) - 1 ≤ 2147483647) (hr2 : (0 ≤ xl1 ∧ xl1 ≤ (rn_gi M al0 2) - 1) → (0 : Int) ≤ xl1 ∧ xl1 < (20 : Int) ∧ rn_gr M (al0 + 3) (xl1).toNat = some (rn_go M (al0 + 3) (xl1).toNat)) (k1 : (¬ (0 ≤ xl1 ∧ xl1 ≤ (rn_gi M al0 2) - 1)) → Q (some (rn_N)) M) (k2 : (0 ≤ xl1 ∧ xl1 ≤ (rn_gi M al0 2) - 1) → Q (some (rn_R (rn_go M (al0 + 3) (xl1).toNat))) M) : rn_WP 7 0 [rn_R al0, rn_I xl1] [] M Q := by
  refine (rn_step (e := (.iload_n 1, 1, 1, 0, 0, 0, 0, [])) rfl).mpr ?_
  refine (rn_step (e := (.iconst 0, 2, 0, 0, 0, 0, 0, [])) rfl).mpr ?_
  refine (rn_step (e := (.aload_n 0, 3, 0, 0, 0, 0, 0, [])) rfl).mpr ?_
  refine (rn_step (e := (.getfield 46, 6, 0, 2, 188, 0, 1, [])) rfl).mpr (And.intro ((rn_kB (M := M) hM p_al0)) (?_))
  refine (rn_step (e := (.iconst 1, 7, 0, 0, 0, 0, 0, [])) rfl).mpr ?_
  refine (rn_step (e := (.isub, 8, 0, 0, 0, 0, 0, [])) rfl).mpr (rn_cw hr1.1 hr1.2 ?_)
  refine (rn_step (e := (.invokestatic 99, 11, 118, 3, 6, 0, 10, [1])) rfl).mpr (rc_RN_within  ?_)
  refine (rn_step (e := (.ifCond .eq 12, 14, 23, 0, 0, 0, 0, [])) rfl).mpr (And.intro (fun q => ?_) (fun q => ?_))
  · have c1 := rn_b0 q
    refine (rn_step (e := (.aconst_null, 24, 0, 0, 0, 0, 0, [])) rfl).mpr ?_
    exact (rn_step (e := (.areturn, 25, 0, 0, 0, 0, 0, [])) rfl).mpr (k1 c1)
  · have c1 := rn_b1 q
    refine (rn_step (e := (.aload_n 0, 15, 0, 0, 0, 0, 0, [])) rfl).mpr ?_
    refine (rn_step (e := (.getfield 29, 18, 0, 6, 196, 2, 1, [])) rfl).mpr (And.intro ((rn_kB (M := M) hM p_al0)) (rn_cg (rn_gB6 (M := M) hM p_al0) ?_))
    refine (rn_step (e := (.iload_n 1, 19, 1, 0, 0, 0, 0, [])) rfl).mpr ?_
    refine (rn_step (e := (.aaload, 20, 0, 0, 0, 0, 0, [])) rfl).mpr (And.intro (rn_q30 (rn_aB3 (M := M) hM p_al0).1) (And.intro ((And.intro ((hr2 c1).1) (rn_lt (rn_aB3 (M := M) hM p_al0).2 (hr2 c1).2.1))) (rn_cg (hr2 c1).2.2 ?_)))
    refine (rn_step (e := (.goto 4, 23, 24, 0, 0, 0, 0, [])) rfl).mpr ?_
    exact (rn_step (e := (.areturn, 25, 0, 0, 0, 0, 0, [])) rfl).mpr (k2 c1)
theorem re_Bo_nextRiver {M : rn_M} {Q : rn_Q} {v0 : rn_V} (h : rn_WP 8 0 [v0, rn_J] [] M Q) : rn_ME 8 [v0] M Q := h
set_option maxRecDepth 4000 in
theorem rb_Bo_nextRiver_0 {M : rn_M} {Q : rn_Q} {al0 : Nat} {vl1 : rn_V} (hM : rn_sh M) (p_al0 : rn_isB al0)  (hr1 : (0 ≤ rn_gi M al0 0 ∧ rn_gi M al0 0 ≤ 5) → (0 : Int) ≤ rn_gi M al0 0 ∧ rn_gi M al0 0 < (6 : Int)) (k1 : (¬ (0 ≤ rn_gi M al0 0 ∧ rn_gi M al0 0 ≤ 5)) → Q (some (rn_N)) M) (k2 : (0 ≤ rn_gi M al0 0 ∧ rn_gi M al0 0 ≤ 5) → rn_ME 59 [rn_R (al0 + 4 + 5 * (rn_gi M al0 0).toNat)] M (fun r M1 => rn_WP 8 32 [rn_R al0, rn_R (al0 + 4 + 5 * (rn_gi M al0 0).toNat)] (r.toList ++ []) M1 Q)) : rn_WP 8 0 [rn_R al0, vl1] [] M Q := by
  refine (rn_step (e := (.aload_n 0, 1, 0, 0, 0, 0, 0, [])) rfl).mpr ?_
  refine (rn_step (e := (.getfield 40, 4, 0, 0, 182, 0, 1, [])) rfl).mpr (And.intro ((rn_kB (M := M) hM p_al0)) (?_))
  refine (rn_step (e := (.iconst 0, 5, 0, 0, 0, 0, 0, [])) rfl).mpr ?_
  refine (rn_step (e := (.iconst 5, 6, 0, 0, 0, 0, 0, [])) rfl).mpr ?_
  refine (rn_step (e := (.invokestatic 99, 9, 118, 3, 6, 0, 10, [1])) rfl).mpr (rc_RN_within  ?_)
  refine (rn_step (e := (.ifCond .ne 5, 12, 14, 0, 0, 0, 0, [])) rfl).mpr (And.intro (fun q => ?_) (fun q => ?_))
  · have c1 := rn_b0 q
    refine (rn_step (e := (.aconst_null, 13, 0, 0, 0, 0, 0, [])) rfl).mpr ?_
    exact (rn_step (e := (.areturn, 14, 0, 0, 0, 0, 0, [])) rfl).mpr (k1 c1)
  · have c1 := rn_b1 q
    refine (rn_step (e := (.aload_n 0, 15, 0, 0, 0, 0, 0, [])) rfl).mpr ?_
    refine (rn_step (e := (.getfield 17, 18, 0, 4, 194, 2, 1, [])) rfl).mpr (And.intro ((rn_kB (M := M) hM p_al0)) (rn_cg (rn_gB4 (M := M) hM p_al0) ?_))
    refine (rn_step (e := (.aload_n 0, 19, 0, 0, 0, 0, 0, [])) rfl).mpr ?_
    refine (rn_step (e := (.getfield 40, 22, 0, 0, 182, 0, 1, [])) rfl).mpr (And.intro ((rn_kB (M := M) hM p_al0)) (?_))
    refine (rn_step (e := (.aaload, 23, 0, 0, 0, 0, 0, [])) rfl).mpr (And.intro (rn_q30 (rn_aB1 (M := M) hM p_al0).1) (And.intro ((And.intro ((hr1 c1).1) (rn_lt (rn_aB1 (M := M) hM p_al0).2 (hr1 c1).2))) (rn_cg (rn_eR (M := M) hM p_al0 (rn_tn (hr1 c1).1 (hr1 c1).2)) ?_)))
    refine (rn_step (e := (.astore_n 1, 24, 1, 0, 0, 0, 0, [])) rfl).mpr ?_
    refine (rn_step (e := (.aload_n 1, 25, 1, 0, 0, 0, 0, [])) rfl).mpr ?_
    refine (rn_step (e := (.ifnull 17, 28, 42, 0, 0, 0, 0, [])) rfl).mpr ?_
    refine (rn_step (e := (.aload_n 1, 29, 1, 0, 0, 0, 0, [])) rfl).mpr ?_
    exact (rn_step (e := (.invokevirtual 103, 32, 59, 1, 536, 0, 6, [0])) rfl).mpr (And.intro ((rn_kR (M := M) hM (rn_isR_of p_al0 (rn_tn (hr1 c1).1 (hr1 c1).2)))) ((k2 c1)))
set_option maxRecDepth 4000 in
theorem rb_Bo_nextRiver_32 {M : rn_M} {Q : rn_Q} {al0 : Nat} {rl1 : Option Nat} (hM : rn_sh M) (p_al0 : rn_isB al0)  (hr1 : (-2147483648 : Int) ≤ rn_gi M al0 0 + 1 ∧ rn_gi M al0 0 + 1 ≤ 2147483647) (k1 : Q (some (.inr (.inl (some rl1)))) (rn_si M al0 0 (rn_gi M al0 0 + 1))) : rn_WP 8 32 [rn_R al0, .inr (.inl (some rl1))] [] M Q := by
  refine (rn_step (e := (.aload_n 0, 33, 0, 0, 0, 0, 0, [])) rfl).mpr ?_
  refine (rn_step (e := (.dup, 34, 0, 0, 0, 0, 0, [])) rfl).mpr ?_
  refine (rn_step (e := (.getfield 40, 37, 0, 0, 182, 0, 1, [])) rfl).mpr (And.intro ((rn_kB (M := M) hM p_al0)) (?_))
  refine (rn_step (e := (.iconst 1, 38, 0, 0, 0, 0, 0, [])) rfl).mpr ?_
  refine (rn_step (e := (.iadd, 39, 0, 0, 0, 0, 0, [])) rfl).mpr (rn_cw hr1.1 hr1.2 ?_)
  refine (rn_step (e := (.putfield 40, 42, 0, 0, 182, 0, 1, [])) rfl).mpr (And.intro ((rn_kB (M := M) hM p_al0)) (?_))
  refine (rn_step (e := (.aload_n 1, 43, 1, 0, 0, 0, 0, [])) rfl).mpr ?_
  exact (rn_step (e := (.areturn, 44, 0, 0, 0, 0, 0, [])) rfl).mpr k1
theorem re_Bo_nextTown {M : rn_M} {Q : rn_Q} {v0 : rn_V} (h : rn_WP 9 0 [v0] [] M Q) : rn_ME 9 [v0] M Q := h
set_option maxRecDepth 4000 in
theorem rb_Bo_nextTown_0 {M : rn_M} {Q : rn_Q} {al0 : Nat} (hM : rn_sh M) (p_al0 : rn_isB al0)  (hr1 : (0 ≤ rn_gi M al0 1 ∧ rn_gi M al0 1 ≤ 9) → (-2147483648 : Int) ≤ rn_gi M al0 1 + 1 ∧ rn_gi M al0 1 + 1 ≤ 2147483647 ∧ (-2147483648 : Int) ≤ (rn_gi M al0 1 + 1) - 1 ∧ (rn_gi M al0 1 + 1) - 1 ≤ 2147483647 ∧ (0 : Int) ≤ (rn_gi M al0 1 + 1) - 1 ∧ (rn_gi M al0 1 + 1) - 1 < (10 : Int)) (k1 : (¬ (0 ≤ rn_gi M al0 1 ∧ rn_gi M al0 1 ≤ 9)) → Q (some (rn_N)) M) (k2 : (0 ≤ rn_gi M al0 1 ∧ rn_gi M al0 1 ≤ 9) → Q (some (rn_R (al0 + 34 + ((rn_gi M al0 1 + 1) - 1).toNat))) (rn_si M al0 1 (rn_gi M al0 1 + 1))) : rn_WP 9 0 [rn_R al0] [] M Q := by
  refine (rn_step (e := (.aload_n 0, 1, 0, 0, 0, 0, 0, [])) rfl).mpr ?_
  refine (rn_step (e := (.getfield 43, 4, 0, 1, 185, 0, 1, [])) rfl).mpr (And.intro ((rn_kB (M := M) hM p_al0)) (?_))
  refine (rn_step (e := (.iconst 0, 5, 0, 0, 0, 0, 0, [])) rfl).mpr ?_
  refine (rn_step (e := (.bipush 9, 7, 0, 0, 0, 0, 0, [])) rfl).mpr ?_
  refine (rn_step (e := (.invokestatic 99, 10, 118, 3, 6, 0, 10, [1])) rfl).mpr (rc_RN_within  ?_)
  refine (rn_step (e := (.ifCond .ne 5, 13, 15, 0, 0, 0, 0, [])) rfl).mpr (And.intro (fun q => ?_) (fun q => ?_))
  · have c1 := rn_b0 q
    refine (rn_step (e := (.aconst_null, 14, 0, 0, 0, 0, 0, [])) rfl).mpr ?_
    exact (rn_step (e := (.areturn, 15, 0, 0, 0, 0, 0, [])) rfl).mpr (k1 c1)
  · have c1 := rn_b1 q
    refine (rn_step (e := (.aload_n 0, 16, 0, 0, 0, 0, 0, [])) rfl).mpr ?_
    refine (rn_step (e := (.dup, 17, 0, 0, 0, 0, 0, [])) rfl).mpr ?_
    refine (rn_step (e := (.getfield 43, 20, 0, 1, 185, 0, 1, [])) rfl).mpr (And.intro ((rn_kB (M := M) hM p_al0)) (?_))
    refine (rn_step (e := (.iconst 1, 21, 0, 0, 0, 0, 0, [])) rfl).mpr ?_
    refine (rn_step (e := (.iadd, 22, 0, 0, 0, 0, 0, [])) rfl).mpr (rn_cw (hr1 c1).1 (hr1 c1).2.1 ?_)
    refine (rn_step (e := (.putfield 43, 25, 0, 1, 185, 0, 1, [])) rfl).mpr (And.intro ((rn_kB (M := M) hM p_al0)) (?_))
    refine (rn_step (e := (.aload_n 0, 26, 0, 0, 0, 0, 0, [])) rfl).mpr ?_
    refine (rn_step (e := (.getfield 23, 29, 0, 5, 195, 2, 1, [])) rfl).mpr (And.intro ((rn_kB (M := M) hM p_al0)) (rn_cg (rn_gB5 (M := M) hM p_al0) ?_))
    refine (rn_step (e := (.aload_n 0, 30, 0, 0, 0, 0, 0, [])) rfl).mpr ?_
    refine (rn_step (e := (.getfield 43, 33, 0, 1, 185, 0, 1, [])) rfl).mpr (And.intro ((rn_kB (M := M) hM p_al0)) (rn_cv (by rw [rn_si_eq]) ?_))
    refine (rn_step (e := (.iconst 1, 34, 0, 0, 0, 0, 0, [])) rfl).mpr ?_
    refine (rn_step (e := (.isub, 35, 0, 0, 0, 0, 0, [])) rfl).mpr (rn_cw (hr1 c1).2.2.1 (hr1 c1).2.2.2.1 ?_)
    refine (rn_step (e := (.aaload, 36, 0, 0, 0, 0, 0, [])) rfl).mpr (And.intro (rn_q30 (rn_aB2 (M := M) hM p_al0).1) (And.intro ((And.intro ((hr1 c1).2.2.2.2.1) (rn_lt (rn_aB2 (M := M) hM p_al0).2 (hr1 c1).2.2.2.2.2))) (rn_cg (rn_eT (M := M) hM p_al0 (rn_tn (hr1 c1).2.2.2.2.1 (hr1 c1).2.2.2.2.2)) ?_)))
    exact (rn_step (e := (.areturn, 37, 0, 0, 0, 0, 0, [])) rfl).mpr (k2 c1)
theorem re_Bo_addLabel {M : rn_M} {Q : rn_Q} {v0 v1 v2 : rn_V} (h : rn_WP 10 0 [v0, v1, v2, rn_J] [] M Q) : rn_ME 10 [v0, v1, v2] M Q := h
set_option maxRecDepth 4000 in
theorem rb_Bo_addLabel_0n {M : rn_M} {Q : rn_Q} {vl0 : rn_V} {vl2 : rn_V} {vl3 : rn_V}   (k1 : Q (some (rn_I 0)) M) : rn_WP 10 0 [vl0, rn_N, vl2, vl3] [] M Q := by
  refine (rn_step (e := (.aload_n 1, 1, 1, 0, 0, 0, 0, [])) rfl).mpr ?_
  refine (rn_step (e := (.ifnull 16, 4, 17, 0, 0, 0, 0, [])) rfl).mpr ?_
  refine (rn_step (e := (.iconst 0, 18, 0, 0, 0, 0, 0, [])) rfl).mpr ?_
  exact (rn_step (e := (.ireturn, 19, 0, 0, 0, 1, 0, [])) rfl).mpr (And.intro ((Or.inl rfl)) (k1))
set_option maxRecDepth 4000 in
theorem rb_Bo_addLabel_0s {M : rn_M} {Q : rn_Q} {al0 : Nat} {al1 : Nat} {xl2 : Int} {vl3 : rn_V} (hM : rn_sh M) (p_al0 : rn_isB al0)  (hr1 : (0 ≤ rn_gi M al0 2 ∧ rn_gi M al0 2 ≤ 19) → (0 : Int) ≤ rn_gi M al0 2 ∧ rn_gi M al0 2 < (20 : Int) ∧ rn_gr M (al0 + 3) (rn_gi M al0 2).toNat = some (rn_go M (al0 + 3) (rn_gi M al0 2).toNat) ∧ rn_isL (rn_go M (al0 + 3) (rn_gi M al0 2).toNat)) (k1 : (¬ (0 ≤ rn_gi M al0 2 ∧ rn_gi M al0 2 ≤ 19)) → Q (some (rn_I 0)) M) (k2 : (0 ≤ rn_gi M al0 2 ∧ rn_gi M al0 2 ≤ 19) → rn_ME 41 [rn_R (rn_go M (al0 + 3) (rn_gi M al0 2).toNat), rn_R al1, rn_I xl2] M (fun r M1 => rn_WP 10 41 [rn_R al0, rn_R al1, rn_I xl2, rn_R (rn_go M (al0 + 3) (rn_gi M al0 2).toNat)] (r.toList ++ []) M1 Q)) : rn_WP 10 0 [rn_R al0, rn_R al1, rn_I xl2, vl3] [] M Q := by
  refine (rn_step (e := (.aload_n 1, 1, 1, 0, 0, 0, 0, [])) rfl).mpr ?_
  refine (rn_step (e := (.ifnull 16, 4, 17, 0, 0, 0, 0, [])) rfl).mpr ?_
  refine (rn_step (e := (.aload_n 0, 5, 0, 0, 0, 0, 0, [])) rfl).mpr ?_
  refine (rn_step (e := (.getfield 46, 8, 0, 2, 188, 0, 1, [])) rfl).mpr (And.intro ((rn_kB (M := M) hM p_al0)) (?_))
  refine (rn_step (e := (.iconst 0, 9, 0, 0, 0, 0, 0, [])) rfl).mpr ?_
  refine (rn_step (e := (.bipush 19, 11, 0, 0, 0, 0, 0, [])) rfl).mpr ?_
  refine (rn_step (e := (.invokestatic 99, 14, 118, 3, 6, 0, 10, [1])) rfl).mpr (rc_RN_within  ?_)
  refine (rn_step (e := (.ifCond .ne 5, 17, 19, 0, 0, 0, 0, [])) rfl).mpr (And.intro (fun q => ?_) (fun q => ?_))
  · have c1 := rn_b0 q
    refine (rn_step (e := (.iconst 0, 18, 0, 0, 0, 0, 0, [])) rfl).mpr ?_
    exact (rn_step (e := (.ireturn, 19, 0, 0, 0, 1, 0, [])) rfl).mpr (And.intro ((Or.inl rfl)) ((k1 c1)))
  · have c1 := rn_b1 q
    refine (rn_step (e := (.aload_n 0, 20, 0, 0, 0, 0, 0, [])) rfl).mpr ?_
    refine (rn_step (e := (.getfield 29, 23, 0, 6, 196, 2, 1, [])) rfl).mpr (And.intro ((rn_kB (M := M) hM p_al0)) (rn_cg (rn_gB6 (M := M) hM p_al0) ?_))
    refine (rn_step (e := (.aload_n 0, 24, 0, 0, 0, 0, 0, [])) rfl).mpr ?_
    refine (rn_step (e := (.getfield 46, 27, 0, 2, 188, 0, 1, [])) rfl).mpr (And.intro ((rn_kB (M := M) hM p_al0)) (?_))
    refine (rn_step (e := (.aaload, 28, 0, 0, 0, 0, 0, [])) rfl).mpr (And.intro (rn_q30 (rn_aB3 (M := M) hM p_al0).1) (And.intro ((And.intro ((hr1 c1).1) (rn_lt (rn_aB3 (M := M) hM p_al0).2 (hr1 c1).2.1))) (rn_cg (hr1 c1).2.2.1 ?_)))
    refine (rn_step (e := (.astore_n 3, 29, 3, 0, 0, 0, 0, [])) rfl).mpr ?_
    refine (rn_step (e := (.aload_n 3, 30, 3, 0, 0, 0, 0, [])) rfl).mpr ?_
    refine (rn_step (e := (.ifnonnull 5, 33, 35, 0, 0, 0, 0, [])) rfl).mpr ?_
    refine (rn_step (e := (.aload_n 3, 36, 3, 0, 0, 0, 0, [])) rfl).mpr ?_
    refine (rn_step (e := (.aload_n 1, 37, 1, 0, 0, 0, 0, [])) rfl).mpr ?_
    refine (rn_step (e := (.iload_n 2, 38, 2, 0, 0, 0, 0, [])) rfl).mpr ?_
    exact (rn_step (e := (.invokevirtual 106, 41, 41, 3, 571, 0, 4, [0])) rfl).mpr (And.intro ((rn_kL (M := M) hM (hr1 c1).2.2.2)) ((k2 c1)))
set_option maxRecDepth 4000 in
theorem rb_Bo_addLabel_41 {M : rn_M} {Q : rn_Q} {al0 : Nat} {vl1 : rn_V} {vl2 : rn_V} {vl3 : rn_V} (hM : rn_sh M) (p_al0 : rn_isB al0)  (hr1 : (-2147483648 : Int) ≤ rn_gi M al0 2 + 1 ∧ rn_gi M al0 2 + 1 ≤ 2147483647) (k1 : Q (some (rn_I 1)) (rn_si M al0 2 (rn_gi M al0 2 + 1))) : rn_WP 10 41 [rn_R al0, vl1, vl2, vl3] [] M Q := by
  refine (rn_step (e := (.aload_n 0, 42, 0, 0, 0, 0, 0, [])) rfl).mpr ?_
  refine (rn_step (e := (.dup, 43, 0, 0, 0, 0, 0, [])) rfl).mpr ?_
  refine (rn_step (e := (.getfield 46, 46, 0, 2, 188, 0, 1, [])) rfl).mpr (And.intro ((rn_kB (M := M) hM p_al0)) (?_))
  refine (rn_step (e := (.iconst 1, 47, 0, 0, 0, 0, 0, [])) rfl).mpr ?_
  refine (rn_step (e := (.iadd, 48, 0, 0, 0, 0, 0, [])) rfl).mpr (rn_cw hr1.1 hr1.2 ?_)
  refine (rn_step (e := (.putfield 46, 51, 0, 2, 188, 0, 1, [])) rfl).mpr (And.intro ((rn_kB (M := M) hM p_al0)) (?_))
  refine (rn_step (e := (.iconst 1, 52, 0, 0, 0, 0, 0, [])) rfl).mpr ?_
  exact (rn_step (e := (.ireturn, 53, 0, 0, 0, 1, 0, [])) rfl).mpr (And.intro ((Or.inr rfl)) (k1))
theorem re_Bo_dropLabel {M : rn_M} {Q : rn_Q} {v0 v1 : rn_V} (h : rn_WP 11 0 [v0, v1, rn_J, rn_J] [] M Q) : rn_ME 11 [v0, v1] M Q := h
set_option maxRecDepth 4000 in
theorem rb_Bo_dropLabel_0 {M : rn_M} {Q : rn_Q} {al0 : Nat} {xl1 : Int} {vl2 : rn_V} {vl3 : rn_V} (hM : rn_sh M) (p_al0 : rn_isB al0)  (k1 : rn_ME 7 [rn_R al0, rn_I xl1] M (fun r M1 => rn_WP 11 5 [rn_R al0, rn_I xl1, vl2, vl3] (r.toList ++ []) M1 Q)) : rn_WP 11 0 [rn_R al0, rn_I xl1, vl2, vl3] [] M Q := by
  refine (rn_step (e := (.aload_n 0, 1, 0, 0, 0, 0, 0, [])) rfl).mpr ?_
  refine (rn_step (e := (.iload_n 1, 2, 1, 0, 0, 0, 0, [])) rfl).mpr ?_
  exact (rn_step (e := (.invokevirtual 64, 5, 7, 2, 288, 0, 1, [0])) rfl).mpr (And.intro ((rn_kB (M := M) hM p_al0)) (k1))
set_option maxRecDepth 4000 in
theorem rb_Bo_dropLabel_5n {M : rn_M} {Q : rn_Q} {vl0 : rn_V} {vl1 : rn_V} {vl2 : rn_V} {vl3 : rn_V}   (k1 : Q (some (rn_I 0)) M) : rn_WP 11 5 [vl0, vl1, vl2, vl3] [rn_N] M Q := by
  refine (rn_step (e := (.astore_n 2, 6, 2, 0, 0, 0, 0, [])) rfl).mpr ?_
  refine (rn_step (e := (.aload_n 2, 7, 2, 0, 0, 0, 0, [])) rfl).mpr ?_
  refine (rn_step (e := (.ifnonnull 5, 10, 12, 0, 0, 0, 0, [])) rfl).mpr ?_
  refine (rn_step (e := (.iconst 0, 11, 0, 0, 0, 0, 0, [])) rfl).mpr ?_
  exact (rn_step (e := (.ireturn, 12, 0, 0, 0, 1, 0, [])) rfl).mpr (And.intro ((Or.inl rfl)) (k1))
set_option maxRecDepth 4000 in
theorem rb_Bo_dropLabel_5s {M : rn_M} {Q : rn_Q} {vl0 : rn_V} {xl1 : Int} {vl2 : rn_V} {vl3 : rn_V} {as0 : Nat}   (k1 : rn_WP 11 14 [vl0, rn_I xl1, rn_R as0, rn_I xl1] [] M Q) : rn_WP 11 5 [vl0, rn_I xl1, vl2, vl3] [rn_R as0] M Q := by
  refine (rn_step (e := (.astore_n 2, 6, 2, 0, 0, 0, 0, [])) rfl).mpr ?_
  refine (rn_step (e := (.aload_n 2, 7, 2, 0, 0, 0, 0, [])) rfl).mpr ?_
  refine (rn_step (e := (.ifnonnull 5, 10, 12, 0, 0, 0, 0, [])) rfl).mpr ?_
  refine (rn_step (e := (.iload_n 1, 13, 1, 0, 0, 0, 0, [])) rfl).mpr ?_
  refine (rn_step (e := (.istore_n 3, 14, 3, 0, 0, 0, 0, [])) rfl).mpr ?_
  exact k1
set_option maxRecDepth 4000 in
theorem rb_Bo_dropLabel_14 {M : rn_M} {Q : rn_Q} {al0 : Nat} {vl1 : rn_V} {al2 : Nat} {xl3 : Int} (hM : rn_sh M) (p_al0 : rn_isB al0) (p_al2 : rn_isL al2)  (hr1 : (-2147483648 : Int) ≤ (rn_gi M al0 2) - 1 ∧ (rn_gi M al0 2) - 1 ≤ 2147483647) (hr2 : (xl3 < (rn_gi M al0 2) - 1) → (-2147483648 : Int) ≤ xl3 + 1 ∧ xl3 + 1 ≤ 2147483647 ∧ (0 : Int) ≤ xl3 + 1 ∧ xl3 + 1 < (20 : Int) ∧ rn_gr M (al0 + 3) (xl3 + 1).toNat = some (rn_go M (al0 + 3) (xl3 + 1).toNat) ∧ rn_isL (rn_go M (al0 + 3) (xl3 + 1).toNat) ∧ (0 : Int) ≤ xl3 ∧ xl3 < (20 : Int)) (hr3 : (¬ (xl3 < (rn_gi M al0 2) - 1)) → (-2147483648 : Int) ≤ (rn_gi M al0 2) - 1 ∧ (rn_gi M al0 2) - 1 ≤ 2147483647 ∧ (0 : Int) ≤ (rn_gi M al0 2) - 1 ∧ (rn_gi M al0 2) - 1 < (20 : Int)) (k1 : (xl3 < (rn_gi M al0 2) - 1) → rn_WP 11 14 [rn_R al0, vl1, rn_R al2, rn_I (xl3 + 1)] [] (rn_sr M (al0 + 3) (xl3).toNat (some (rn_go M (al0 + 3) (xl3 + 1).toNat))) Q) (k2 : (¬ (xl3 < (rn_gi M al0 2) - 1)) → Q (some (rn_I 1)) (rn_si (rn_sr M (al0 + 3) ((rn_gi M al0 2) - 1).toNat (some al2)) al0 2 ((rn_gi M al0 2) - 1))) : rn_WP 11 14 [rn_R al0, vl1, rn_R al2, rn_I xl3] [] M Q := by
  refine (rn_step (e := (.iload_n 3, 15, 3, 0, 0, 0, 0, [])) rfl).mpr ?_
  refine (rn_step (e := (.aload_n 0, 16, 0, 0, 0, 0, 0, [])) rfl).mpr ?_
  refine (rn_step (e := (.getfield 46, 19, 0, 2, 188, 0, 1, [])) rfl).mpr (And.intro ((rn_kB (M := M) hM p_al0)) (?_))
  refine (rn_step (e := (.iconst 1, 20, 0, 0, 0, 0, 0, [])) rfl).mpr ?_
  refine (rn_step (e := (.isub, 21, 0, 0, 0, 0, 0, [])) rfl).mpr (rn_cw hr1.1 hr1.2 ?_)
  refine (rn_step (e := (.if_icmp .ge 23, 24, 44, 0, 0, 0, 0, [])) rfl).mpr (And.intro (fun c1 => ?_) (fun c1 => ?_))
  ·
    refine (rn_step (e := (.aload_n 0, 25, 0, 0, 0, 0, 0, [])) rfl).mpr ?_
    refine (rn_step (e := (.getfield 29, 28, 0, 6, 196, 2, 1, [])) rfl).mpr (And.intro ((rn_kB (M := M) hM p_al0)) (rn_cg (rn_gB6 (M := M) hM p_al0) ?_))
    refine (rn_step (e := (.iload_n 3, 29, 3, 0, 0, 0, 0, [])) rfl).mpr ?_
    refine (rn_step (e := (.aload_n 0, 30, 0, 0, 0, 0, 0, [])) rfl).mpr ?_
    refine (rn_step (e := (.getfield 29, 33, 0, 6, 196, 2, 1, [])) rfl).mpr (And.intro ((rn_kB (M := M) hM p_al0)) (rn_cg (rn_gB6 (M := M) hM p_al0) ?_))
    refine (rn_step (e := (.iload_n 3, 34, 3, 0, 0, 0, 0, [])) rfl).mpr ?_
    refine (rn_step (e := (.iconst 1, 35, 0, 0, 0, 0, 0, [])) rfl).mpr ?_
    refine (rn_step (e := (.iadd, 36, 0, 0, 0, 0, 0, [])) rfl).mpr (rn_cw (hr2 c1).1 (hr2 c1).2.1 ?_)
    refine (rn_step (e := (.aaload, 37, 0, 0, 0, 0, 0, [])) rfl).mpr (And.intro (rn_q30 (rn_aB3 (M := M) hM p_al0).1) (And.intro ((And.intro ((hr2 c1).2.2.1) (rn_lt (rn_aB3 (M := M) hM p_al0).2 (hr2 c1).2.2.2.1))) (rn_cg (hr2 c1).2.2.2.2.1 ?_)))
    refine (rn_step (e := (.aastore, 38, 0, 0, 0, 0, 0, [])) rfl).mpr (And.intro (rn_q30 (rn_aB3 (M := M) hM p_al0).1) (And.intro (rn_q29 (rn_aB3 (M := M) hM p_al0).1 (rn_kL (M := M) hM (hr2 c1).2.2.2.2.2.1)) (And.intro ((And.intro ((hr2 c1).2.2.2.2.2.2.1) (rn_lt (rn_aB3 (M := M) hM p_al0).2 (hr2 c1).2.2.2.2.2.2.2))) (?_))))
    refine (rn_step (e := (.iinc 3 1, 41, 3, 0, 0, 0, 0, [])) rfl).mpr (rn_ci (hr2 c1).1 (hr2 c1).2.1 ?_)
    refine (rn_step (e := (.goto (-27), 44, 14, 0, 0, 0, 0, [])) rfl).mpr ?_
    exact (k1 c1)
  ·
    refine (rn_step (e := (.aload_n 0, 45, 0, 0, 0, 0, 0, [])) rfl).mpr ?_
    refine (rn_step (e := (.getfield 29, 48, 0, 6, 196, 2, 1, [])) rfl).mpr (And.intro ((rn_kB (M := M) hM p_al0)) (rn_cg (rn_gB6 (M := M) hM p_al0) ?_))
    refine (rn_step (e := (.aload_n 0, 49, 0, 0, 0, 0, 0, [])) rfl).mpr ?_
    refine (rn_step (e := (.getfield 46, 52, 0, 2, 188, 0, 1, [])) rfl).mpr (And.intro ((rn_kB (M := M) hM p_al0)) (?_))
    refine (rn_step (e := (.iconst 1, 53, 0, 0, 0, 0, 0, [])) rfl).mpr ?_
    refine (rn_step (e := (.isub, 54, 0, 0, 0, 0, 0, [])) rfl).mpr (rn_cw (hr3 c1).1 (hr3 c1).2.1 ?_)
    refine (rn_step (e := (.aload_n 2, 55, 2, 0, 0, 0, 0, [])) rfl).mpr ?_
    refine (rn_step (e := (.aastore, 56, 0, 0, 0, 0, 0, [])) rfl).mpr (And.intro (rn_q30 (rn_aB3 (M := M) hM p_al0).1) (And.intro (rn_q29 (rn_aB3 (M := M) hM p_al0).1 (rn_kL (M := M) hM p_al2)) (And.intro ((And.intro ((hr3 c1).2.2.1) (rn_lt (rn_aB3 (M := M) hM p_al0).2 (hr3 c1).2.2.2))) (?_))))
    refine (rn_step (e := (.aload_n 0, 57, 0, 0, 0, 0, 0, [])) rfl).mpr ?_
    refine (rn_step (e := (.dup, 58, 0, 0, 0, 0, 0, [])) rfl).mpr ?_
    refine (rn_step (e := (.getfield 46, 61, 0, 2, 188, 0, 1, [])) rfl).mpr (And.intro ((rn_kB (M := M) hM p_al0)) (rn_cv (by rw [rn_sr_gif]) ?_))
    refine (rn_step (e := (.iconst 1, 62, 0, 0, 0, 0, 0, [])) rfl).mpr ?_
    refine (rn_step (e := (.isub, 63, 0, 0, 0, 0, 0, [])) rfl).mpr (rn_cw (hr3 c1).1 (hr3 c1).2.1 ?_)
    refine (rn_step (e := (.putfield 46, 66, 0, 2, 188, 0, 1, [])) rfl).mpr (And.intro ((rn_kB (M := M) hM p_al0)) (?_))
    refine (rn_step (e := (.iconst 1, 67, 0, 0, 0, 0, 0, [])) rfl).mpr ?_
    exact (rn_step (e := (.ireturn, 68, 0, 0, 0, 1, 0, [])) rfl).mpr (And.intro ((Or.inr rfl)) ((k2 c1)))
theorem re_Bo_labelsOf {M : rn_M} {Q : rn_Q} {v0 v1 : rn_V} (h : rn_WP 12 0 [v0, v1, rn_J, rn_J, rn_J] [] M Q) : rn_ME 12 [v0, v1] M Q := h
set_option maxRecDepth 4000 in
theorem rb_Bo_labelsOf_0 {M : rn_M} {Q : rn_Q} {vl0 : rn_V} {vl1 : rn_V} {vl2 : rn_V} {vl3 : rn_V} {vl4 : rn_V}   (k1 : rn_WP 12 4 [vl0, vl1, rn_I 0, rn_I 0, vl4] [] M Q) : rn_WP 12 0 [vl0, vl1, vl2, vl3, vl4] [] M Q := by
  refine (rn_step (e := (.iconst 0, 1, 0, 0, 0, 0, 0, [])) rfl).mpr ?_
  refine (rn_step (e := (.istore_n 2, 2, 2, 0, 0, 0, 0, [])) rfl).mpr ?_
  refine (rn_step (e := (.iconst 0, 3, 0, 0, 0, 0, 0, [])) rfl).mpr ?_
  refine (rn_step (e := (.istore_n 3, 4, 3, 0, 0, 0, 0, [])) rfl).mpr ?_
  exact k1
set_option maxRecDepth 4000 in
theorem rb_Bo_labelsOf_4 {M : rn_M} {Q : rn_Q} {al0 : Nat} {vl1 : rn_V} {xl2 : Int} {xl3 : Int} {vl4 : rn_V} (hM : rn_sh M) (p_al0 : rn_isB al0)  (k1 : (xl3 < rn_gi M al0 2) → rn_ME 7 [rn_R al0, rn_I xl3] M (fun r M1 => rn_WP 12 17 [rn_R al0, vl1, rn_I xl2, rn_I xl3, vl4] (r.toList ++ []) M1 Q)) (k2 : (¬ (xl3 < rn_gi M al0 2)) → Q (some (rn_I xl2)) M) : rn_WP 12 4 [rn_R al0, vl1, rn_I xl2, rn_I xl3, vl4] [] M Q := by
  refine (rn_step (e := (.iload_n 3, 5, 3, 0, 0, 0, 0, [])) rfl).mpr ?_
  refine (rn_step (e := (.aload_n 0, 6, 0, 0, 0, 0, 0, [])) rfl).mpr ?_
  refine (rn_step (e := (.getfield 46, 9, 0, 2, 188, 0, 1, [])) rfl).mpr (And.intro ((rn_kB (M := M) hM p_al0)) (?_))
  refine (rn_step (e := (.if_icmp .ge 39, 12, 48, 0, 0, 0, 0, [])) rfl).mpr (And.intro (fun c1 => ?_) (fun c1 => ?_))
  ·
    refine (rn_step (e := (.aload_n 0, 13, 0, 0, 0, 0, 0, [])) rfl).mpr ?_
    refine (rn_step (e := (.iload_n 3, 14, 3, 0, 0, 0, 0, [])) rfl).mpr ?_
    exact (rn_step (e := (.invokevirtual 64, 17, 7, 2, 288, 0, 1, [0])) rfl).mpr (And.intro ((rn_kB (M := M) hM p_al0)) ((k1 c1)))
  ·
    refine (rn_step (e := (.iload_n 2, 49, 2, 0, 0, 0, 0, [])) rfl).mpr ?_
    exact (rn_step (e := (.ireturn, 50, 0, 0, 0, 0, 0, [])) rfl).mpr (And.intro (trivial) ((k2 c1)))
set_option maxRecDepth 4000 in
theorem rb_Bo_labelsOf_17n {M : rn_M} {Q : rn_Q} {vl0 : rn_V} {vl1 : rn_V} {vl2 : rn_V} {xl3 : Int} {vl4 : rn_V}   (hr1 : (-2147483648 : Int) ≤ xl3 + 1 ∧ xl3 + 1 ≤ 2147483647) (k1 : rn_WP 12 4 [vl0, vl1, vl2, rn_I (xl3 + 1), rn_N] [] M Q) : rn_WP 12 17 [vl0, vl1, vl2, rn_I xl3, vl4] [rn_N] M Q := by
  refine (rn_step (e := (.astore 4, 19, 4, 0, 0, 0, 0, [])) rfl).mpr ?_
  refine (rn_step (e := (.aload 4, 21, 4, 0, 0, 0, 0, [])) rfl).mpr ?_
  refine (rn_step (e := (.ifnull 21, 24, 42, 0, 0, 0, 0, [])) rfl).mpr ?_
  refine (rn_step (e := (.iinc 3 1, 45, 3, 0, 0, 0, 0, [])) rfl).mpr (rn_ci hr1.1 hr1.2 ?_)
  refine (rn_step (e := (.goto (-41), 48, 4, 0, 0, 0, 0, [])) rfl).mpr ?_
  exact k1
set_option maxRecDepth 4000 in
theorem rb_Bo_labelsOf_17s {M : rn_M} {Q : rn_Q} {vl0 : rn_V} {al1 : Nat} {xl2 : Int} {xl3 : Int} {vl4 : rn_V} {as0 : Nat} (hM : rn_sh M) (p_as0 : rn_isL as0) (p_al1 : rn_isR al1)  (hr1 : rn_gr M as0 0 = some (rn_go M as0 0) ∧ rn_isR (rn_go M as0 0)) (hr2 : (rn_gi M (rn_go M as0 0) 0 = rn_gi M al1 0) → (-2147483648 : Int) ≤ xl2 + 1 ∧ xl2 + 1 ≤ 2147483647 ∧ (-2147483648 : Int) ≤ xl3 + 1 ∧ xl3 + 1 ≤ 2147483647) (hr3 : (¬ (rn_gi M (rn_go M as0 0) 0 = rn_gi M al1 0)) → (-2147483648 : Int) ≤ xl3 + 1 ∧ xl3 + 1 ≤ 2147483647) (k1 : (rn_gi M (rn_go M as0 0) 0 = rn_gi M al1 0) → rn_WP 12 4 [vl0, rn_R al1, rn_I (xl2 + 1), rn_I (xl3 + 1), rn_R as0] [] M Q) (k2 : (¬ (rn_gi M (rn_go M as0 0) 0 = rn_gi M al1 0)) → rn_WP 12 4 [vl0, rn_R al1, rn_I xl2, rn_I (xl3 + 1), rn_R as0] [] M Q) : rn_WP 12 17 [vl0, rn_R al1, rn_I xl2, rn_I xl3, vl4] [rn_R as0] M Q := by
  refine (rn_step (e := (.astore 4, 19, 4, 0, 0, 0, 0, [])) rfl).mpr ?_
  refine (rn_step (e := (.aload 4, 21, 4, 0, 0, 0, 0, [])) rfl).mpr ?_
  refine (rn_step (e := (.ifnull 21, 24, 42, 0, 0, 0, 0, [])) rfl).mpr ?_
  refine (rn_step (e := (.aload 4, 26, 4, 0, 0, 0, 0, [])) rfl).mpr ?_
  refine (rn_step (e := (.getfield 85, 29, 3, 0, 171, 2, 4, [])) rfl).mpr (And.intro ((rn_kL (M := M) hM p_as0)) (rn_cg hr1.1 ?_))
  refine (rn_step (e := (.getfield 89, 32, 5, 0, 97, 0, 6, [])) rfl).mpr (And.intro ((rn_kR (M := M) hM hr1.2)) (?_))
  refine (rn_step (e := (.aload_n 1, 33, 1, 0, 0, 0, 0, [])) rfl).mpr ?_
  refine (rn_step (e := (.getfield 89, 36, 5, 0, 97, 0, 6, [])) rfl).mpr (And.intro ((rn_kR (M := M) hM p_al1)) (?_))
  refine (rn_step (e := (.if_icmp .ne 6, 39, 42, 0, 0, 0, 0, [])) rfl).mpr (And.intro (fun c1 => ?_) (fun c1 => ?_))
  ·
    refine (rn_step (e := (.iinc 2 1, 42, 2, 0, 0, 0, 0, [])) rfl).mpr (rn_ci (hr2 c1).1 (hr2 c1).2.1 ?_)
    refine (rn_step (e := (.iinc 3 1, 45, 3, 0, 0, 0, 0, [])) rfl).mpr (rn_ci (hr2 c1).2.2.1 (hr2 c1).2.2.2 ?_)
    refine (rn_step (e := (.goto (-41), 48, 4, 0, 0, 0, 0, [])) rfl).mpr ?_
    exact (k1 c1)
  ·
    refine (rn_step (e := (.iinc 3 1, 45, 3, 0, 0, 0, 0, [])) rfl).mpr (rn_ci (hr3 c1).1 (hr3 c1).2 ?_)
    refine (rn_step (e := (.goto (-41), 48, 4, 0, 0, 0, 0, [])) rfl).mpr ?_
    exact (k2 c1)
theorem re_Bo_labelsOver {M : rn_M} {Q : rn_Q} {v0 v1 : rn_V} (h : rn_WP 13 0 [v0, v1, rn_J, rn_J, rn_J] [] M Q) : rn_ME 13 [v0, v1] M Q := h
set_option maxRecDepth 4000 in
theorem rb_Bo_labelsOver_0 {M : rn_M} {Q : rn_Q} {vl0 : rn_V} {vl1 : rn_V} {vl2 : rn_V} {vl3 : rn_V} {vl4 : rn_V}   (k1 : rn_WP 13 4 [vl0, vl1, rn_I 0, rn_I 0, vl4] [] M Q) : rn_WP 13 0 [vl0, vl1, vl2, vl3, vl4] [] M Q := by
  refine (rn_step (e := (.iconst 0, 1, 0, 0, 0, 0, 0, [])) rfl).mpr ?_
  refine (rn_step (e := (.istore_n 2, 2, 2, 0, 0, 0, 0, [])) rfl).mpr ?_
  refine (rn_step (e := (.iconst 0, 3, 0, 0, 0, 0, 0, [])) rfl).mpr ?_
  refine (rn_step (e := (.istore_n 3, 4, 3, 0, 0, 0, 0, [])) rfl).mpr ?_
  exact k1
set_option maxRecDepth 4000 in
theorem rb_Bo_labelsOver_4 {M : rn_M} {Q : rn_Q} {al0 : Nat} {vl1 : rn_V} {xl2 : Int} {xl3 : Int} {vl4 : rn_V} (hM : rn_sh M) (p_al0 : rn_isB al0)  (k1 : (xl3 < rn_gi M al0 2) → rn_ME 7 [rn_R al0, rn_I xl3] M (fun r M1 => rn_WP 13 17 [rn_R al0, vl1, rn_I xl2, rn_I xl3, vl4] (r.toList ++ []) M1 Q)) (k2 : (¬ (xl3 < rn_gi M al0 2)) → Q (some (rn_I xl2)) M) : rn_WP 13 4 [rn_R al0, vl1, rn_I xl2, rn_I xl3, vl4] [] M Q := by
  refine (rn_step (e := (.iload_n 3, 5, 3, 0, 0, 0, 0, [])) rfl).mpr ?_
  refine (rn_step (e := (.aload_n 0, 6, 0, 0, 0, 0, 0, [])) rfl).mpr ?_
  refine (rn_step (e := (.getfield 46, 9, 0, 2, 188, 0, 1, [])) rfl).mpr (And.intro ((rn_kB (M := M) hM p_al0)) (?_))
  refine (rn_step (e := (.if_icmp .ge 33, 12, 42, 0, 0, 0, 0, [])) rfl).mpr (And.intro (fun c1 => ?_) (fun c1 => ?_))
  ·
    refine (rn_step (e := (.aload_n 0, 13, 0, 0, 0, 0, 0, [])) rfl).mpr ?_
    refine (rn_step (e := (.iload_n 3, 14, 3, 0, 0, 0, 0, [])) rfl).mpr ?_
    exact (rn_step (e := (.invokevirtual 64, 17, 7, 2, 288, 0, 1, [0])) rfl).mpr (And.intro ((rn_kB (M := M) hM p_al0)) ((k1 c1)))
  ·
    refine (rn_step (e := (.iload_n 2, 43, 2, 0, 0, 0, 0, [])) rfl).mpr ?_
    exact (rn_step (e := (.ireturn, 44, 0, 0, 0, 0, 0, [])) rfl).mpr (And.intro (trivial) ((k2 c1)))
set_option maxRecDepth 4000 in
theorem rb_Bo_labelsOver_17n {M : rn_M} {Q : rn_Q} {vl0 : rn_V} {vl1 : rn_V} {vl2 : rn_V} {xl3 : Int} {vl4 : rn_V}   (hr1 : (-2147483648 : Int) ≤ xl3 + 1 ∧ xl3 + 1 ≤ 2147483647) (k1 : rn_WP 13 4 [vl0, vl1, vl2, rn_I (xl3 + 1), rn_N] [] M Q) : rn_WP 13 17 [vl0, vl1, vl2, rn_I xl3, vl4] [rn_N] M Q := by
  refine (rn_step (e := (.astore 4, 19, 4, 0, 0, 0, 0, [])) rfl).mpr ?_
  refine (rn_step (e := (.aload 4, 21, 4, 0, 0, 0, 0, [])) rfl).mpr ?_
  refine (rn_step (e := (.ifnull 15, 24, 36, 0, 0, 0, 0, [])) rfl).mpr ?_
  refine (rn_step (e := (.iinc 3 1, 39, 3, 0, 0, 0, 0, [])) rfl).mpr (rn_ci hr1.1 hr1.2 ?_)
  refine (rn_step (e := (.goto (-35), 42, 4, 0, 0, 0, 0, [])) rfl).mpr ?_
  exact k1
set_option maxRecDepth 4000 in
theorem rb_Bo_labelsOver_17s {M : rn_M} {Q : rn_Q} {vl0 : rn_V} {rl1 : Option Nat} {vl2 : rn_V} {vl3 : rn_V} {vl4 : rn_V} {as0 : Nat} (hM : rn_sh M) (p_as0 : rn_isL as0)  (k1 : rn_ME 42 [rn_R as0, .inr (.inl (some rl1))] M (fun r M1 => rn_WP 13 30 [vl0, .inr (.inl (some rl1)), vl2, vl3, rn_R as0] (r.toList ++ []) M1 Q)) : rn_WP 13 17 [vl0, .inr (.inl (some rl1)), vl2, vl3, vl4] [rn_R as0] M Q := by
  refine (rn_step (e := (.astore 4, 19, 4, 0, 0, 0, 0, [])) rfl).mpr ?_
  refine (rn_step (e := (.aload 4, 21, 4, 0, 0, 0, 0, [])) rfl).mpr ?_
  refine (rn_step (e := (.ifnull 15, 24, 36, 0, 0, 0, 0, [])) rfl).mpr ?_
  refine (rn_step (e := (.aload 4, 26, 4, 0, 0, 0, 0, [])) rfl).mpr ?_
  refine (rn_step (e := (.aload_n 1, 27, 1, 0, 0, 0, 0, [])) rfl).mpr ?_
  exact (rn_step (e := (.invokevirtual 110, 30, 42, 2, 483, 0, 4, [0])) rfl).mpr (And.intro ((rn_kL (M := M) hM p_as0)) (k1))
set_option maxRecDepth 4000 in
theorem rb_Bo_labelsOver_30 {M : rn_M} {Q : rn_Q} {vl0 : rn_V} {vl1 : rn_V} {xl2 : Int} {xl3 : Int} {vl4 : rn_V} {xs0 : Int}   (hr1 : (xs0 = 0) → (-2147483648 : Int) ≤ xl3 + 1 ∧ xl3 + 1 ≤ 2147483647) (hr2 : (¬ (xs0 = 0)) → (-2147483648 : Int) ≤ xl2 + 1 ∧ xl2 + 1 ≤ 2147483647 ∧ (-2147483648 : Int) ≤ xl3 + 1 ∧ xl3 + 1 ≤ 2147483647) (k1 : (xs0 = 0) → rn_WP 13 4 [vl0, vl1, rn_I xl2, rn_I (xl3 + 1), vl4] [] M Q) (k2 : (¬ (xs0 = 0)) → rn_WP 13 4 [vl0, vl1, rn_I (xl2 + 1), rn_I (xl3 + 1), vl4] [] M Q) : rn_WP 13 30 [vl0, vl1, rn_I xl2, rn_I xl3, vl4] [rn_I xs0] M Q := by
  refine (rn_step (e := (.ifCond .eq 6, 33, 36, 0, 0, 0, 0, [])) rfl).mpr (And.intro (fun c1 => ?_) (fun c1 => ?_))
  ·
    refine (rn_step (e := (.iinc 3 1, 39, 3, 0, 0, 0, 0, [])) rfl).mpr (rn_ci (hr1 c1).1 (hr1 c1).2 ?_)
    refine (rn_step (e := (.goto (-35), 42, 4, 0, 0, 0, 0, [])) rfl).mpr ?_
    exact (k1 c1)
  ·
    refine (rn_step (e := (.iinc 2 1, 36, 2, 0, 0, 0, 0, [])) rfl).mpr (rn_ci (hr2 c1).1 (hr2 c1).2.1 ?_)
    refine (rn_step (e := (.iinc 3 1, 39, 3, 0, 0, 0, 0, [])) rfl).mpr (rn_ci (hr2 c1).2.2.1 (hr2 c1).2.2.2 ?_)
    refine (rn_step (e := (.goto (-35), 42, 4, 0, 0, 0, 0, [])) rfl).mpr ?_
    exact (k2 c1)
theorem re_Bo_townsUnder {M : rn_M} {Q : rn_Q} {v0 v1 : rn_V} (h : rn_WP 14 0 [v0, v1, rn_J, rn_J, rn_J] [] M Q) : rn_ME 14 [v0, v1] M Q := h
set_option maxRecDepth 4000 in
theorem rb_Bo_townsUnder_0 {M : rn_M} {Q : rn_Q} {vl0 : rn_V} {vl1 : rn_V} {vl2 : rn_V} {vl3 : rn_V} {vl4 : rn_V}   (k1 : rn_WP 14 4 [vl0, vl1, rn_I 0, rn_I 0, vl4] [] M Q) : rn_WP 14 0 [vl0, vl1, vl2, vl3, vl4] [] M Q := by
  refine (rn_step (e := (.iconst 0, 1, 0, 0, 0, 0, 0, [])) rfl).mpr ?_
  refine (rn_step (e := (.istore_n 2, 2, 2, 0, 0, 0, 0, [])) rfl).mpr ?_
  refine (rn_step (e := (.iconst 0, 3, 0, 0, 0, 0, 0, [])) rfl).mpr ?_
  refine (rn_step (e := (.istore_n 3, 4, 3, 0, 0, 0, 0, [])) rfl).mpr ?_
  exact k1
set_option maxRecDepth 4000 in
theorem rb_Bo_townsUnder_4 {M : rn_M} {Q : rn_Q} {al0 : Nat} {vl1 : rn_V} {xl2 : Int} {xl3 : Int} {vl4 : rn_V} (hM : rn_sh M) (p_al0 : rn_isB al0)  (k1 : (xl3 < rn_gi M al0 1) → rn_ME 6 [rn_R al0, rn_I xl3] M (fun r M1 => rn_WP 14 17 [rn_R al0, vl1, rn_I xl2, rn_I xl3, vl4] (r.toList ++ []) M1 Q)) (k2 : (¬ (xl3 < rn_gi M al0 1)) → Q (some (rn_I xl2)) M) : rn_WP 14 4 [rn_R al0, vl1, rn_I xl2, rn_I xl3, vl4] [] M Q := by
  refine (rn_step (e := (.iload_n 3, 5, 3, 0, 0, 0, 0, [])) rfl).mpr ?_
  refine (rn_step (e := (.aload_n 0, 6, 0, 0, 0, 0, 0, [])) rfl).mpr ?_
  refine (rn_step (e := (.getfield 43, 9, 0, 1, 185, 0, 1, [])) rfl).mpr (And.intro ((rn_kB (M := M) hM p_al0)) (?_))
  refine (rn_step (e := (.if_icmp .ge 33, 12, 42, 0, 0, 0, 0, [])) rfl).mpr (And.intro (fun c1 => ?_) (fun c1 => ?_))
  ·
    refine (rn_step (e := (.aload_n 0, 13, 0, 0, 0, 0, 0, [])) rfl).mpr ?_
    refine (rn_step (e := (.iload_n 3, 14, 3, 0, 0, 0, 0, [])) rfl).mpr ?_
    exact (rn_step (e := (.invokevirtual 56, 17, 6, 2, 482, 0, 1, [0])) rfl).mpr (And.intro ((rn_kB (M := M) hM p_al0)) ((k1 c1)))
  ·
    refine (rn_step (e := (.iload_n 2, 43, 2, 0, 0, 0, 0, [])) rfl).mpr ?_
    exact (rn_step (e := (.ireturn, 44, 0, 0, 0, 0, 0, [])) rfl).mpr (And.intro (trivial) ((k2 c1)))
set_option maxRecDepth 4000 in
theorem rb_Bo_townsUnder_17n {M : rn_M} {Q : rn_Q} {vl0 : rn_V} {vl1 : rn_V} {vl2 : rn_V} {xl3 : Int} {vl4 : rn_V}   (hr1 : (-2147483648 : Int) ≤ xl3 + 1 ∧ xl3 + 1 ≤ 2147483647) (k1 : rn_WP 14 4 [vl0, vl1, vl2, rn_I (xl3 + 1), rn_N] [] M Q) : rn_WP 14 17 [vl0, vl1, vl2, rn_I xl3, vl4] [rn_N] M Q := by
  refine (rn_step (e := (.astore 4, 19, 4, 0, 0, 0, 0, [])) rfl).mpr ?_
  refine (rn_step (e := (.aload 4, 21, 4, 0, 0, 0, 0, [])) rfl).mpr ?_
  refine (rn_step (e := (.ifnull 15, 24, 36, 0, 0, 0, 0, [])) rfl).mpr ?_
  refine (rn_step (e := (.iinc 3 1, 39, 3, 0, 0, 0, 0, [])) rfl).mpr (rn_ci hr1.1 hr1.2 ?_)
  refine (rn_step (e := (.goto (-35), 42, 4, 0, 0, 0, 0, [])) rfl).mpr ?_
  exact k1
set_option maxRecDepth 4000 in
theorem rb_Bo_townsUnder_17s {M : rn_M} {Q : rn_Q} {vl0 : rn_V} {al1 : Nat} {vl2 : rn_V} {vl3 : rn_V} {vl4 : rn_V} {as0 : Nat} (hM : rn_sh M) (p_al1 : rn_isL al1)  (k1 : rn_ME 42 [rn_R al1, rn_R as0] M (fun r M1 => rn_WP 14 30 [vl0, rn_R al1, vl2, vl3, rn_R as0] (r.toList ++ []) M1 Q)) : rn_WP 14 17 [vl0, rn_R al1, vl2, vl3, vl4] [rn_R as0] M Q := by
  refine (rn_step (e := (.astore 4, 19, 4, 0, 0, 0, 0, [])) rfl).mpr ?_
  refine (rn_step (e := (.aload 4, 21, 4, 0, 0, 0, 0, [])) rfl).mpr ?_
  refine (rn_step (e := (.ifnull 15, 24, 36, 0, 0, 0, 0, [])) rfl).mpr ?_
  refine (rn_step (e := (.aload_n 1, 25, 1, 0, 0, 0, 0, [])) rfl).mpr ?_
  refine (rn_step (e := (.aload 4, 27, 4, 0, 0, 0, 0, [])) rfl).mpr ?_
  exact (rn_step (e := (.invokevirtual 110, 30, 42, 2, 483, 0, 4, [0])) rfl).mpr (And.intro ((rn_kL (M := M) hM p_al1)) (k1))
set_option maxRecDepth 4000 in
theorem rb_Bo_townsUnder_30 {M : rn_M} {Q : rn_Q} {vl0 : rn_V} {vl1 : rn_V} {xl2 : Int} {xl3 : Int} {vl4 : rn_V} {xs0 : Int}   (hr1 : (xs0 = 0) → (-2147483648 : Int) ≤ xl3 + 1 ∧ xl3 + 1 ≤ 2147483647) (hr2 : (¬ (xs0 = 0)) → (-2147483648 : Int) ≤ xl2 + 1 ∧ xl2 + 1 ≤ 2147483647 ∧ (-2147483648 : Int) ≤ xl3 + 1 ∧ xl3 + 1 ≤ 2147483647) (k1 : (xs0 = 0) → rn_WP 14 4 [vl0, vl1, rn_I xl2, rn_I (xl3 + 1), vl4] [] M Q) (k2 : (¬ (xs0 = 0)) → rn_WP 14 4 [vl0, vl1, rn_I (xl2 + 1), rn_I (xl3 + 1), vl4] [] M Q) : rn_WP 14 30 [vl0, vl1, rn_I xl2, rn_I xl3, vl4] [rn_I xs0] M Q := by
  refine (rn_step (e := (.ifCond .eq 6, 33, 36, 0, 0, 0, 0, [])) rfl).mpr (And.intro (fun c1 => ?_) (fun c1 => ?_))
  ·
    refine (rn_step (e := (.iinc 3 1, 39, 3, 0, 0, 0, 0, [])) rfl).mpr (rn_ci (hr1 c1).1 (hr1 c1).2 ?_)
    refine (rn_step (e := (.goto (-35), 42, 4, 0, 0, 0, 0, [])) rfl).mpr ?_
    exact (k1 c1)
  ·
    refine (rn_step (e := (.iinc 2 1, 36, 2, 0, 0, 0, 0, [])) rfl).mpr (rn_ci (hr2 c1).1 (hr2 c1).2.1 ?_)
    refine (rn_step (e := (.iinc 3 1, 39, 3, 0, 0, 0, 0, [])) rfl).mpr (rn_ci (hr2 c1).2.2.1 (hr2 c1).2.2.2 ?_)
    refine (rn_step (e := (.goto (-35), 42, 4, 0, 0, 0, 0, [])) rfl).mpr ?_
    exact (k2 c1)
theorem re_Bo_costOfLabels {M : rn_M} {Q : rn_Q} {v0 : rn_V} (h : rn_WP 15 0 [v0, rn_J, rn_J, rn_J] [] M Q) : rn_ME 15 [v0] M Q := h
set_option maxRecDepth 4000 in
theorem rb_Bo_costOfLabels_0 {M : rn_M} {Q : rn_Q} {vl0 : rn_V} {vl1 : rn_V} {vl2 : rn_V} {vl3 : rn_V}   (k1 : rn_WP 15 4 [vl0, rn_I 0, rn_I 0, vl3] [] M Q) : rn_WP 15 0 [vl0, vl1, vl2, vl3] [] M Q := by
  refine (rn_step (e := (.iconst 0, 1, 0, 0, 0, 0, 0, [])) rfl).mpr ?_
  refine (rn_step (e := (.istore_n 1, 2, 1, 0, 0, 0, 0, [])) rfl).mpr ?_
  refine (rn_step (e := (.iconst 0, 3, 0, 0, 0, 0, 0, [])) rfl).mpr ?_
  refine (rn_step (e := (.istore_n 2, 4, 2, 0, 0, 0, 0, [])) rfl).mpr ?_
  exact k1
set_option maxRecDepth 4000 in
theorem rb_Bo_costOfLabels_4 {M : rn_M} {Q : rn_Q} {al0 : Nat} {xl1 : Int} {xl2 : Int} {vl3 : rn_V} (hM : rn_sh M) (p_al0 : rn_isB al0)  (k1 : (xl2 < rn_gi M al0 2) → rn_ME 7 [rn_R al0, rn_I xl2] M (fun r M1 => rn_WP 15 17 [rn_R al0, rn_I xl1, rn_I xl2, vl3] (r.toList ++ []) M1 Q)) (k2 : (¬ (xl2 < rn_gi M al0 2)) → Q (some (rn_I xl1)) M) : rn_WP 15 4 [rn_R al0, rn_I xl1, rn_I xl2, vl3] [] M Q := by
  refine (rn_step (e := (.iload_n 2, 5, 2, 0, 0, 0, 0, [])) rfl).mpr ?_
  refine (rn_step (e := (.aload_n 0, 6, 0, 0, 0, 0, 0, [])) rfl).mpr ?_
  refine (rn_step (e := (.getfield 46, 9, 0, 2, 188, 0, 1, [])) rfl).mpr (And.intro ((rn_kB (M := M) hM p_al0)) (?_))
  refine (rn_step (e := (.if_icmp .ge 33, 12, 42, 0, 0, 0, 0, [])) rfl).mpr (And.intro (fun c1 => ?_) (fun c1 => ?_))
  ·
    refine (rn_step (e := (.aload_n 0, 13, 0, 0, 0, 0, 0, [])) rfl).mpr ?_
    refine (rn_step (e := (.iload_n 2, 14, 2, 0, 0, 0, 0, [])) rfl).mpr ?_
    exact (rn_step (e := (.invokevirtual 64, 17, 7, 2, 288, 0, 1, [0])) rfl).mpr (And.intro ((rn_kB (M := M) hM p_al0)) ((k1 c1)))
  ·
    refine (rn_step (e := (.iload_n 1, 43, 1, 0, 0, 0, 0, [])) rfl).mpr ?_
    exact (rn_step (e := (.ireturn, 44, 0, 0, 0, 0, 0, [])) rfl).mpr (And.intro (trivial) ((k2 c1)))
set_option maxRecDepth 4000 in
theorem rb_Bo_costOfLabels_17n {M : rn_M} {Q : rn_Q} {vl0 : rn_V} {vl1 : rn_V} {xl2 : Int} {vl3 : rn_V}   (hr1 : (-2147483648 : Int) ≤ xl2 + 1 ∧ xl2 + 1 ≤ 2147483647) (k1 : rn_WP 15 4 [vl0, vl1, rn_I (xl2 + 1), rn_N] [] M Q) : rn_WP 15 17 [vl0, vl1, rn_I xl2, vl3] [rn_N] M Q := by
  refine (rn_step (e := (.astore_n 3, 18, 3, 0, 0, 0, 0, [])) rfl).mpr ?_
  refine (rn_step (e := (.aload_n 3, 19, 3, 0, 0, 0, 0, [])) rfl).mpr ?_
  refine (rn_step (e := (.ifnull 17, 22, 36, 0, 0, 0, 0, [])) rfl).mpr ?_
  refine (rn_step (e := (.iinc 2 1, 39, 2, 0, 0, 0, 0, [])) rfl).mpr (rn_ci hr1.1 hr1.2 ?_)
  refine (rn_step (e := (.goto (-35), 42, 4, 0, 0, 0, 0, [])) rfl).mpr ?_
  exact k1
set_option maxRecDepth 4000 in
theorem rb_Bo_costOfLabels_17s {M : rn_M} {Q : rn_Q} {vl0 : rn_V} {xl1 : Int} {vl2 : rn_V} {vl3 : rn_V} {as0 : Nat} (hM : rn_sh M) (p_as0 : rn_isL as0)  (hr1 : rn_gr M as0 0 = some (rn_go M as0 0) ∧ rn_isR (rn_go M as0 0)) (k1 : rn_ME 72 [rn_R (rn_go M as0 0), rn_I (rn_gi M as0 1)] M (fun r M1 => rn_WP 15 34 [vl0, rn_I xl1, vl2, rn_R as0] (r.toList ++ [rn_I xl1]) M1 Q)) : rn_WP 15 17 [vl0, rn_I xl1, vl2, vl3] [rn_R as0] M Q := by
  refine (rn_step (e := (.astore_n 3, 18, 3, 0, 0, 0, 0, [])) rfl).mpr ?_
  refine (rn_step (e := (.aload_n 3, 19, 3, 0, 0, 0, 0, [])) rfl).mpr ?_
  refine (rn_step (e := (.ifnull 17, 22, 36, 0, 0, 0, 0, [])) rfl).mpr ?_
  refine (rn_step (e := (.iload_n 1, 23, 1, 0, 0, 0, 0, [])) rfl).mpr ?_
  refine (rn_step (e := (.aload_n 3, 24, 3, 0, 0, 0, 0, [])) rfl).mpr ?_
  refine (rn_step (e := (.getfield 85, 27, 3, 0, 171, 2, 4, [])) rfl).mpr (And.intro ((rn_kL (M := M) hM p_as0)) (rn_cg hr1.1 ?_))
  refine (rn_step (e := (.aload_n 3, 28, 3, 0, 0, 0, 0, [])) rfl).mpr ?_
  refine (rn_step (e := (.getfield 92, 31, 3, 1, 175, 0, 4, [])) rfl).mpr (And.intro ((rn_kL (M := M) hM p_as0)) (?_))
  exact (rn_step (e := (.invokevirtual 114, 34, 72, 2, 293, 0, 6, [0])) rfl).mpr (And.intro ((rn_kR (M := M) hM hr1.2)) (k1))
set_option maxRecDepth 4000 in
theorem rb_Bo_costOfLabels_34 {M : rn_M} {Q : rn_Q} {vl0 : rn_V} {vl1 : rn_V} {xl2 : Int} {vl3 : rn_V} {xs0 : Int} {xs1 : Int}   (hr1 : (-2147483648 : Int) ≤ xs1 + xs0 ∧ xs1 + xs0 ≤ 2147483647 ∧ (-2147483648 : Int) ≤ xl2 + 1 ∧ xl2 + 1 ≤ 2147483647) (k1 : rn_WP 15 4 [vl0, rn_I (xs1 + xs0), rn_I (xl2 + 1), vl3] [] M Q) : rn_WP 15 34 [vl0, vl1, rn_I xl2, vl3] [rn_I xs0, rn_I xs1] M Q := by
  refine (rn_step (e := (.iadd, 35, 0, 0, 0, 0, 0, [])) rfl).mpr (rn_cw hr1.1 hr1.2.1 ?_)
  refine (rn_step (e := (.istore_n 1, 36, 1, 0, 0, 0, 0, [])) rfl).mpr ?_
  refine (rn_step (e := (.iinc 2 1, 39, 2, 0, 0, 0, 0, [])) rfl).mpr (rn_ci hr1.2.2.1 hr1.2.2.2 ?_)
  refine (rn_step (e := (.goto (-35), 42, 4, 0, 0, 0, 0, [])) rfl).mpr ?_
  exact k1
theorem re_Bo_cellsOfLabels {M : rn_M} {Q : rn_Q} {v0 v1 : rn_V} (h : rn_WP 16 0 [v0, v1, rn_J, rn_J] [] M Q) : rn_ME 16 [v0, v1] M Q := h
set_option maxRecDepth 4000 in
theorem rb_Bo_cellsOfLabels_0 {M : rn_M} {Q : rn_Q} {vl0 : rn_V} {vl2 : rn_V} {vl3 : rn_V} (hM : rn_sh M)   (k1 : rn_ME 79 [rn_R 464] M (fun r M1 => rn_WP 16 4 [vl0, rn_R 464, vl2, vl3] (r.toList ++ []) M1 Q)) : rn_WP 16 0 [vl0, rn_R 464, vl2, vl3] [] M Q := by
  refine (rn_step (e := (.aload_n 1, 1, 1, 0, 0, 0, 0, [])) rfl).mpr ?_
  exact (rn_step (e := (.invokevirtual 118, 4, 79, 1, 389, 0, 7, [0])) rfl).mpr (And.intro ((rn_ks464 (M := M) hM)) (k1))
set_option maxRecDepth 4000 in
theorem rb_Bo_cellsOfLabels_4 {M : rn_M} {Q : rn_Q} {vl0 : rn_V} {vl1 : rn_V} {vl2 : rn_V} {vl3 : rn_V}   (k1 : rn_WP 16 6 [vl0, vl1, rn_I 0, vl3] [] M Q) : rn_WP 16 4 [vl0, vl1, vl2, vl3] [] M Q := by
  refine (rn_step (e := (.iconst 0, 5, 0, 0, 0, 0, 0, [])) rfl).mpr ?_
  refine (rn_step (e := (.istore_n 2, 6, 2, 0, 0, 0, 0, [])) rfl).mpr ?_
  exact k1
set_option maxRecDepth 4000 in
theorem rb_Bo_cellsOfLabels_6 {M : rn_M} {Q : rn_Q} {al0 : Nat} {xl2 : Int} {vl3 : rn_V} (hM : rn_sh M) (p_al0 : rn_isB al0)  (k1 : (xl2 < rn_gi M al0 2) → rn_ME 7 [rn_R al0, rn_I xl2] M (fun r M1 => rn_WP 16 19 [rn_R al0, rn_R 464, rn_I xl2, vl3] (r.toList ++ []) M1 Q)) (k2 : (¬ (xl2 < rn_gi M al0 2)) → Q (some (rn_I (rn_gi M 464 0))) M) : rn_WP 16 6 [rn_R al0, rn_R 464, rn_I xl2, vl3] [] M Q := by
  refine (rn_step (e := (.iload_n 2, 7, 2, 0, 0, 0, 0, [])) rfl).mpr ?_
  refine (rn_step (e := (.aload_n 0, 8, 0, 0, 0, 0, 0, [])) rfl).mpr ?_
  refine (rn_step (e := (.getfield 46, 11, 0, 2, 188, 0, 1, [])) rfl).mpr (And.intro ((rn_kB (M := M) hM p_al0)) (?_))
  refine (rn_step (e := (.if_icmp .ge 24, 14, 35, 0, 0, 0, 0, [])) rfl).mpr (And.intro (fun c1 => ?_) (fun c1 => ?_))
  ·
    refine (rn_step (e := (.aload_n 0, 15, 0, 0, 0, 0, 0, [])) rfl).mpr ?_
    refine (rn_step (e := (.iload_n 2, 16, 2, 0, 0, 0, 0, [])) rfl).mpr ?_
    exact (rn_step (e := (.invokevirtual 64, 19, 7, 2, 288, 0, 1, [0])) rfl).mpr (And.intro ((rn_kB (M := M) hM p_al0)) ((k1 c1)))
  ·
    refine (rn_step (e := (.aload_n 1, 36, 1, 0, 0, 0, 0, [])) rfl).mpr ?_
    refine (rn_step (e := (.getfield 127, 39, 6, 0, 244, 0, 7, [])) rfl).mpr (And.intro ((rn_ks464 (M := M) hM)) (?_))
    exact (rn_step (e := (.ireturn, 40, 0, 0, 0, 0, 0, [])) rfl).mpr (And.intro (trivial) ((k2 c1)))
set_option maxRecDepth 4000 in
theorem rb_Bo_cellsOfLabels_19n {M : rn_M} {Q : rn_Q} {vl0 : rn_V} {vl1 : rn_V} {xl2 : Int} {vl3 : rn_V}   (hr1 : (-2147483648 : Int) ≤ xl2 + 1 ∧ xl2 + 1 ≤ 2147483647) (k1 : rn_WP 16 6 [vl0, vl1, rn_I (xl2 + 1), rn_N] [] M Q) : rn_WP 16 19 [vl0, vl1, rn_I xl2, vl3] [rn_N] M Q := by
  refine (rn_step (e := (.astore_n 3, 20, 3, 0, 0, 0, 0, [])) rfl).mpr ?_
  refine (rn_step (e := (.aload_n 3, 21, 3, 0, 0, 0, 0, [])) rfl).mpr ?_
  refine (rn_step (e := (.ifnull 8, 24, 29, 0, 0, 0, 0, [])) rfl).mpr ?_
  refine (rn_step (e := (.iinc 2 1, 32, 2, 0, 0, 0, 0, [])) rfl).mpr (rn_ci hr1.1 hr1.2 ?_)
  refine (rn_step (e := (.goto (-26), 35, 6, 0, 0, 0, 0, [])) rfl).mpr ?_
  exact k1
set_option maxRecDepth 4000 in
theorem rb_Bo_cellsOfLabels_19s {M : rn_M} {Q : rn_Q} {vl0 : rn_V} {rl1 : Option Nat} {vl2 : rn_V} {vl3 : rn_V} {as0 : Nat} (hM : rn_sh M) (p_as0 : rn_isL as0)  (k1 : rn_ME 43 [rn_R as0, .inr (.inl (some rl1))] M (fun r M1 => rn_WP 16 29 [vl0, .inr (.inl (some rl1)), vl2, rn_R as0] (r.toList ++ []) M1 Q)) : rn_WP 16 19 [vl0, .inr (.inl (some rl1)), vl2, vl3] [rn_R as0] M Q := by
  refine (rn_step (e := (.astore_n 3, 20, 3, 0, 0, 0, 0, [])) rfl).mpr ?_
  refine (rn_step (e := (.aload_n 3, 21, 3, 0, 0, 0, 0, [])) rfl).mpr ?_
  refine (rn_step (e := (.ifnull 8, 24, 29, 0, 0, 0, 0, [])) rfl).mpr ?_
  refine (rn_step (e := (.aload_n 3, 25, 3, 0, 0, 0, 0, [])) rfl).mpr ?_
  refine (rn_step (e := (.aload_n 1, 26, 1, 0, 0, 0, 0, [])) rfl).mpr ?_
  exact (rn_step (e := (.invokevirtual 123, 29, 43, 2, 396, 0, 4, [0])) rfl).mpr (And.intro ((rn_kL (M := M) hM p_as0)) (k1))
set_option maxRecDepth 4000 in
theorem rb_Bo_cellsOfLabels_29 {M : rn_M} {Q : rn_Q} {vl0 : rn_V} {vl1 : rn_V} {xl2 : Int} {vl3 : rn_V}   (hr1 : (-2147483648 : Int) ≤ xl2 + 1 ∧ xl2 + 1 ≤ 2147483647) (k1 : rn_WP 16 6 [vl0, vl1, rn_I (xl2 + 1), vl3] [] M Q) : rn_WP 16 29 [vl0, vl1, rn_I xl2, vl3] [] M Q := by
  refine (rn_step (e := (.iinc 2 1, 32, 2, 0, 0, 0, 0, [])) rfl).mpr (rn_ci hr1.1 hr1.2 ?_)
  refine (rn_step (e := (.goto (-26), 35, 6, 0, 0, 0, 0, [])) rfl).mpr ?_
  exact k1
theorem re_Bo_riversWithoutLabel {M : rn_M} {Q : rn_Q} {v0 : rn_V} (h : rn_WP 17 0 [v0, rn_J, rn_J, rn_J] [] M Q) : rn_ME 17 [v0] M Q := h
set_option maxRecDepth 4000 in
theorem rb_Bo_riversWithoutLabel_0 {M : rn_M} {Q : rn_Q} {vl0 : rn_V} {vl1 : rn_V} {vl2 : rn_V} {vl3 : rn_V}   (k1 : rn_WP 17 4 [vl0, rn_I 0, rn_I 0, vl3] [] M Q) : rn_WP 17 0 [vl0, vl1, vl2, vl3] [] M Q := by
  refine (rn_step (e := (.iconst 0, 1, 0, 0, 0, 0, 0, [])) rfl).mpr ?_
  refine (rn_step (e := (.istore_n 1, 2, 1, 0, 0, 0, 0, [])) rfl).mpr ?_
  refine (rn_step (e := (.iconst 0, 3, 0, 0, 0, 0, 0, [])) rfl).mpr ?_
  refine (rn_step (e := (.istore_n 2, 4, 2, 0, 0, 0, 0, [])) rfl).mpr ?_
  exact k1
set_option maxRecDepth 4000 in
theorem rb_Bo_riversWithoutLabel_4 {M : rn_M} {Q : rn_Q} {al0 : Nat} {xl1 : Int} {xl2 : Int} {vl3 : rn_V} (hM : rn_sh M) (p_al0 : rn_isB al0)  (k1 : (xl2 < rn_gi M al0 0) → rn_ME 5 [rn_R al0, rn_I xl2] M (fun r M1 => rn_WP 17 17 [rn_R al0, rn_I xl1, rn_I xl2, vl3] (r.toList ++ []) M1 Q)) (k2 : (¬ (xl2 < rn_gi M al0 0)) → Q (some (rn_I xl1)) M) : rn_WP 17 4 [rn_R al0, rn_I xl1, rn_I xl2, vl3] [] M Q := by
  refine (rn_step (e := (.iload_n 2, 5, 2, 0, 0, 0, 0, [])) rfl).mpr ?_
  refine (rn_step (e := (.aload_n 0, 6, 0, 0, 0, 0, 0, [])) rfl).mpr ?_
  refine (rn_step (e := (.getfield 40, 9, 0, 0, 182, 0, 1, [])) rfl).mpr (And.intro ((rn_kB (M := M) hM p_al0)) (?_))
  refine (rn_step (e := (.if_icmp .ge 33, 12, 42, 0, 0, 0, 0, [])) rfl).mpr (And.intro (fun c1 => ?_) (fun c1 => ?_))
  ·
    refine (rn_step (e := (.aload_n 0, 13, 0, 0, 0, 0, 0, [])) rfl).mpr ?_
    refine (rn_step (e := (.iload_n 2, 14, 2, 0, 0, 0, 0, [])) rfl).mpr ?_
    exact (rn_step (e := (.invokevirtual 49, 17, 5, 2, 377, 0, 1, [0])) rfl).mpr (And.intro ((rn_kB (M := M) hM p_al0)) ((k1 c1)))
  ·
    refine (rn_step (e := (.iload_n 1, 43, 1, 0, 0, 0, 0, [])) rfl).mpr ?_
    exact (rn_step (e := (.ireturn, 44, 0, 0, 0, 0, 0, [])) rfl).mpr (And.intro (trivial) ((k2 c1)))
set_option maxRecDepth 4000 in
theorem rb_Bo_riversWithoutLabel_17n {M : rn_M} {Q : rn_Q} {vl0 : rn_V} {vl1 : rn_V} {xl2 : Int} {vl3 : rn_V}   (hr1 : (-2147483648 : Int) ≤ xl2 + 1 ∧ xl2 + 1 ≤ 2147483647) (k1 : rn_WP 17 4 [vl0, vl1, rn_I (xl2 + 1), rn_N] [] M Q) : rn_WP 17 17 [vl0, vl1, rn_I xl2, vl3] [rn_N] M Q := by
  refine (rn_step (e := (.astore_n 3, 18, 3, 0, 0, 0, 0, [])) rfl).mpr ?_
  refine (rn_step (e := (.aload_n 3, 19, 3, 0, 0, 0, 0, [])) rfl).mpr ?_
  refine (rn_step (e := (.ifnull 17, 22, 36, 0, 0, 0, 0, [])) rfl).mpr ?_
  refine (rn_step (e := (.iinc 2 1, 39, 2, 0, 0, 0, 0, [])) rfl).mpr (rn_ci hr1.1 hr1.2 ?_)
  refine (rn_step (e := (.goto (-35), 42, 4, 0, 0, 0, 0, [])) rfl).mpr ?_
  exact k1
set_option maxRecDepth 4000 in
theorem rb_Bo_riversWithoutLabel_17s {M : rn_M} {Q : rn_Q} {al0 : Nat} {vl1 : rn_V} {vl2 : rn_V} {vl3 : rn_V} {as0 : Nat} (hM : rn_sh M) (p_al0 : rn_isB al0)  (k1 : rn_ME 12 [rn_R al0, rn_R as0] M (fun r M1 => rn_WP 17 27 [rn_R al0, vl1, vl2, rn_R as0] (r.toList ++ []) M1 Q)) : rn_WP 17 17 [rn_R al0, vl1, vl2, vl3] [rn_R as0] M Q := by
  refine (rn_step (e := (.astore_n 3, 18, 3, 0, 0, 0, 0, [])) rfl).mpr ?_
  refine (rn_step (e := (.aload_n 3, 19, 3, 0, 0, 0, 0, [])) rfl).mpr ?_
  refine (rn_step (e := (.ifnull 17, 22, 36, 0, 0, 0, 0, [])) rfl).mpr ?_
  refine (rn_step (e := (.aload_n 0, 23, 0, 0, 0, 0, 0, [])) rfl).mpr ?_
  refine (rn_step (e := (.aload_n 3, 24, 3, 0, 0, 0, 0, [])) rfl).mpr ?_
  exact (rn_step (e := (.invokevirtual 130, 27, 12, 2, 381, 0, 1, [0])) rfl).mpr (And.intro ((rn_kB (M := M) hM p_al0)) (k1))
set_option maxRecDepth 4000 in
theorem rb_Bo_riversWithoutLabel_27 {M : rn_M} {Q : rn_Q} {vl0 : rn_V} {xl1 : Int} {xl2 : Int} {vl3 : rn_V} {xs0 : Int}   (hr1 : (xs0 = 0) → (-2147483648 : Int) ≤ xl2 + 1 ∧ xl2 + 1 ≤ 2147483647) (hr2 : (¬ (xs0 = 0)) → (-2147483648 : Int) ≤ xl2 + 1 ∧ xl2 + 1 ≤ 2147483647) (k1 : (xs0 = 0) → rn_WP 17 4 [vl0, rn_I (rn_or xl1 (rn_shl 1 xl2)), rn_I (xl2 + 1), vl3] [] M Q) (k2 : (¬ (xs0 = 0)) → rn_WP 17 4 [vl0, rn_I xl1, rn_I (xl2 + 1), vl3] [] M Q) : rn_WP 17 27 [vl0, rn_I xl1, rn_I xl2, vl3] [rn_I xs0] M Q := by
  refine (rn_step (e := (.ifCond .ne 9, 30, 36, 0, 0, 0, 0, [])) rfl).mpr (And.intro (fun c1 => ?_) (fun c1 => ?_))
  ·
    refine (rn_step (e := (.iload_n 1, 31, 1, 0, 0, 0, 0, [])) rfl).mpr ?_
    refine (rn_step (e := (.iconst 1, 32, 0, 0, 0, 0, 0, [])) rfl).mpr ?_
    refine (rn_step (e := (.iload_n 2, 33, 2, 0, 0, 0, 0, [])) rfl).mpr ?_
    refine (rn_step (e := (.ishl, 34, 0, 0, 0, 0, 0, [])) rfl).mpr ?_
    refine (rn_step (e := (.ior, 35, 0, 0, 0, 0, 0, [])) rfl).mpr ?_
    refine (rn_step (e := (.istore_n 1, 36, 1, 0, 0, 0, 0, [])) rfl).mpr ?_
    refine (rn_step (e := (.iinc 2 1, 39, 2, 0, 0, 0, 0, [])) rfl).mpr (rn_ci (hr1 c1).1 (hr1 c1).2 ?_)
    refine (rn_step (e := (.goto (-35), 42, 4, 0, 0, 0, 0, [])) rfl).mpr ?_
    exact (k1 c1)
  ·
    refine (rn_step (e := (.iinc 2 1, 39, 2, 0, 0, 0, 0, [])) rfl).mpr (rn_ci (hr2 c1).1 (hr2 c1).2 ?_)
    refine (rn_step (e := (.goto (-35), 42, 4, 0, 0, 0, 0, [])) rfl).mpr ?_
    exact (k2 c1)
theorem re_Bo_signOn {M : rn_M} {Q : rn_Q} {v0 v1 v2 : rn_V} (h : rn_WP 18 0 [v0, v1, v2, rn_J, rn_J, rn_J, rn_J, rn_J] [] M Q) : rn_ME 18 [v0, v1, v2] M Q := h
set_option maxRecDepth 4000 in
theorem rb_Bo_signOn_0 {M : rn_M} {Q : rn_Q} {vl0 : rn_V} {vl1 : rn_V} {vl2 : rn_V} {vl3 : rn_V} {vl4 : rn_V} {vl5 : rn_V} {vl6 : rn_V} {vl7 : rn_V}   (k1 : rn_WP 18 9 [vl0, vl1, vl2, rn_I (-9), rn_I 0, rn_I 0, vl6, vl7] [] M Q) : rn_WP 18 0 [vl0, vl1, vl2, vl3, vl4, vl5, vl6, vl7] [] M Q := by
  refine (rn_step (e := (.bipush (-9), 2, 0, 0, 0, 0, 0, [])) rfl).mpr ?_
  refine (rn_step (e := (.istore_n 3, 3, 3, 0, 0, 0, 0, [])) rfl).mpr ?_
  refine (rn_step (e := (.iconst 0, 4, 0, 0, 0, 0, 0, [])) rfl).mpr ?_
  refine (rn_step (e := (.istore 4, 6, 4, 0, 0, 0, 0, [])) rfl).mpr ?_
  refine (rn_step (e := (.iconst 0, 7, 0, 0, 0, 0, 0, [])) rfl).mpr ?_
  refine (rn_step (e := (.istore 5, 9, 5, 0, 0, 0, 0, [])) rfl).mpr ?_
  exact k1
set_option maxRecDepth 4000 in
theorem rb_Bo_signOn_9 {M : rn_M} {Q : rn_Q} {al0 : Nat} {vl1 : rn_V} {vl2 : rn_V} {xl3 : Int} {vl4 : rn_V} {xl5 : Int} {vl6 : rn_V} {vl7 : rn_V} (hM : rn_sh M) (p_al0 : rn_isB al0)  (k1 : (xl5 < rn_gi M al0 2) → rn_ME 7 [rn_R al0, rn_I xl5] M (fun r M1 => rn_WP 18 24 [rn_R al0, vl1, vl2, rn_I xl3, vl4, rn_I xl5, vl6, vl7] (r.toList ++ []) M1 Q)) (k2 : (¬ (xl5 < rn_gi M al0 2)) → Q (some (rn_I xl3)) M) : rn_WP 18 9 [rn_R al0, vl1, vl2, rn_I xl3, vl4, rn_I xl5, vl6, vl7] [] M Q := by
  refine (rn_step (e := (.iload 5, 11, 5, 0, 0, 0, 0, [])) rfl).mpr ?_
  refine (rn_step (e := (.aload_n 0, 12, 0, 0, 0, 0, 0, [])) rfl).mpr ?_
  refine (rn_step (e := (.getfield 46, 15, 0, 2, 188, 0, 1, [])) rfl).mpr (And.intro ((rn_kB (M := M) hM p_al0)) (?_))
  refine (rn_step (e := (.if_icmp .ge 72, 18, 87, 0, 0, 0, 0, [])) rfl).mpr (And.intro (fun c1 => ?_) (fun c1 => ?_))
  ·
    refine (rn_step (e := (.aload_n 0, 19, 0, 0, 0, 0, 0, [])) rfl).mpr ?_
    refine (rn_step (e := (.iload 5, 21, 5, 0, 0, 0, 0, [])) rfl).mpr ?_
    exact (rn_step (e := (.invokevirtual 64, 24, 7, 2, 288, 0, 1, [0])) rfl).mpr (And.intro ((rn_kB (M := M) hM p_al0)) ((k1 c1)))
  ·
    refine (rn_step (e := (.iload_n 3, 88, 3, 0, 0, 0, 0, [])) rfl).mpr ?_
    exact (rn_step (e := (.ireturn, 89, 0, 0, 0, 0, 0, [])) rfl).mpr (And.intro (trivial) ((k2 c1)))
set_option maxRecDepth 4000 in
theorem rb_Bo_signOn_24n {M : rn_M} {Q : rn_Q} {vl0 : rn_V} {vl1 : rn_V} {vl2 : rn_V} {vl3 : rn_V} {vl4 : rn_V} {xl5 : Int} {vl6 : rn_V} {vl7 : rn_V}   (hr1 : (-2147483648 : Int) ≤ xl5 + 1 ∧ xl5 + 1 ≤ 2147483647) (k1 : rn_WP 18 9 [vl0, vl1, vl2, vl3, vl4, rn_I (xl5 + 1), rn_N, vl7] [] M Q) : rn_WP 18 24 [vl0, vl1, vl2, vl3, vl4, rn_I xl5, vl6, vl7] [rn_N] M Q := by
  refine (rn_step (e := (.astore 6, 26, 6, 0, 0, 0, 0, [])) rfl).mpr ?_
  refine (rn_step (e := (.aload 6, 28, 6, 0, 0, 0, 0, [])) rfl).mpr ?_
  refine (rn_step (e := (.ifnull 53, 31, 81, 0, 0, 0, 0, [])) rfl).mpr ?_
  refine (rn_step (e := (.iinc 5 1, 84, 5, 0, 0, 0, 0, [])) rfl).mpr (rn_ci hr1.1 hr1.2 ?_)
  refine (rn_step (e := (.goto (-75), 87, 9, 0, 0, 0, 0, [])) rfl).mpr ?_
  exact k1
set_option maxRecDepth 4000 in
theorem rb_Bo_signOn_24s {M : rn_M} {Q : rn_Q} {vl0 : rn_V} {xl1 : Int} {xl2 : Int} {vl3 : rn_V} {xl4 : Int} {xl5 : Int} {vl6 : rn_V} {vl7 : rn_V} {as0 : Nat} (hM : rn_sh M) (p_as0 : rn_isL as0)  (hr1 : rn_gr M as0 0 = some (rn_go M as0 0) ∧ rn_isR (rn_go M as0 0)) (hr2 : (rn_gi M (rn_go M as0 0) 1 ≤ xl4) → (-2147483648 : Int) ≤ xl5 + 1 ∧ xl5 + 1 ≤ 2147483647) (hr3 : (¬ (rn_gi M (rn_go M as0 0) 1 ≤ xl4)) → rn_gr M as0 0 = some (rn_go M as0 0) ∧ rn_isR (rn_go M as0 0)) (k1 : (rn_gi M (rn_go M as0 0) 1 ≤ xl4) → rn_WP 18 9 [vl0, rn_I xl1, rn_I xl2, vl3, rn_I xl4, rn_I (xl5 + 1), rn_R as0, vl7] [] M Q) (k2 : (¬ (rn_gi M (rn_go M as0 0) 1 ≤ xl4)) → rn_ME 76 [rn_R (rn_go M as0 0), rn_I (rn_gi M as0 1), rn_I xl1, rn_I xl2] M (fun r M1 => rn_WP 18 59 [vl0, rn_I xl1, rn_I xl2, vl3, rn_I xl4, rn_I xl5, rn_R as0, vl7] (r.toList ++ []) M1 Q)) : rn_WP 18 24 [vl0, rn_I xl1, rn_I xl2, vl3, rn_I xl4, rn_I xl5, vl6, vl7] [rn_R as0] M Q := by
  refine (rn_step (e := (.astore 6, 26, 6, 0, 0, 0, 0, [])) rfl).mpr ?_
  refine (rn_step (e := (.aload 6, 28, 6, 0, 0, 0, 0, [])) rfl).mpr ?_
  refine (rn_step (e := (.ifnull 53, 31, 81, 0, 0, 0, 0, [])) rfl).mpr ?_
  refine (rn_step (e := (.aload 6, 33, 6, 0, 0, 0, 0, [])) rfl).mpr ?_
  refine (rn_step (e := (.getfield 85, 36, 3, 0, 171, 2, 4, [])) rfl).mpr (And.intro ((rn_kL (M := M) hM p_as0)) (rn_cg hr1.1 ?_))
  refine (rn_step (e := (.getfield 134, 39, 5, 1, 102, 0, 6, [])) rfl).mpr (And.intro ((rn_kR (M := M) hM hr1.2)) (?_))
  refine (rn_step (e := (.iload 4, 41, 4, 0, 0, 0, 0, [])) rfl).mpr ?_
  refine (rn_step (e := (.if_icmp .le 40, 44, 81, 0, 0, 0, 0, [])) rfl).mpr (And.intro (fun c1 => ?_) (fun c1 => ?_))
  ·
    refine (rn_step (e := (.iinc 5 1, 84, 5, 0, 0, 0, 0, [])) rfl).mpr (rn_ci (hr2 c1).1 (hr2 c1).2 ?_)
    refine (rn_step (e := (.goto (-75), 87, 9, 0, 0, 0, 0, [])) rfl).mpr ?_
    exact (k1 c1)
  ·
    refine (rn_step (e := (.aload 6, 46, 6, 0, 0, 0, 0, [])) rfl).mpr ?_
    refine (rn_step (e := (.getfield 85, 49, 3, 0, 171, 2, 4, [])) rfl).mpr (And.intro ((rn_kL (M := M) hM p_as0)) (rn_cg (hr3 c1).1 ?_))
    refine (rn_step (e := (.aload 6, 51, 6, 0, 0, 0, 0, [])) rfl).mpr ?_
    refine (rn_step (e := (.getfield 92, 54, 3, 1, 175, 0, 4, [])) rfl).mpr (And.intro ((rn_kL (M := M) hM p_as0)) (?_))
    refine (rn_step (e := (.iload_n 1, 55, 1, 0, 0, 0, 0, [])) rfl).mpr ?_
    refine (rn_step (e := (.iload_n 2, 56, 2, 0, 0, 0, 0, [])) rfl).mpr ?_
    exact (rn_step (e := (.invokevirtual 137, 59, 76, 4, 681, 0, 6, [0])) rfl).mpr (And.intro ((rn_kR (M := M) hM (hr3 c1).2)) ((k2 c1)))
set_option maxRecDepth 4000 in
theorem rb_Bo_signOn_59 {M : rn_M} {Q : rn_Q} {vl0 : rn_V} {vl1 : rn_V} {vl2 : rn_V} {vl3 : rn_V} {vl4 : rn_V} {xl5 : Int} {al6 : Nat} {vl7 : rn_V} {xs0 : Int} (hM : rn_sh M) (p_al6 : rn_isL al6)  (hr1 : (xs0 = (-9)) → (-2147483648 : Int) ≤ xl5 + 1 ∧ xl5 + 1 ≤ 2147483647) (hr2 : (¬ (xs0 = (-9))) → rn_gr M al6 0 = some (rn_go M al6 0) ∧ rn_isR (rn_go M al6 0) ∧ (-2147483648 : Int) ≤ xl5 + 1 ∧ xl5 + 1 ≤ 2147483647) (k1 : (xs0 = (-9)) → rn_WP 18 9 [vl0, vl1, vl2, vl3, vl4, rn_I (xl5 + 1), rn_R al6, rn_I xs0] [] M Q) (k2 : (¬ (xs0 = (-9))) → rn_WP 18 9 [vl0, vl1, vl2, rn_I xs0, rn_I (rn_gi M (rn_go M al6 0) 1), rn_I (xl5 + 1), rn_R al6, rn_I xs0] [] M Q) : rn_WP 18 59 [vl0, vl1, vl2, vl3, vl4, rn_I xl5, rn_R al6, vl7] [rn_I xs0] M Q := by
  refine (rn_step (e := (.istore 7, 61, 7, 0, 0, 0, 0, [])) rfl).mpr ?_
  refine (rn_step (e := (.iload 7, 63, 7, 0, 0, 0, 0, [])) rfl).mpr ?_
  refine (rn_step (e := (.bipush (-9), 65, 0, 0, 0, 0, 0, [])) rfl).mpr ?_
  refine (rn_step (e := (.if_icmp .eq 16, 68, 81, 0, 0, 0, 0, [])) rfl).mpr (And.intro (fun c1 => ?_) (fun c1 => ?_))
  ·
    refine (rn_step (e := (.iinc 5 1, 84, 5, 0, 0, 0, 0, [])) rfl).mpr (rn_ci (hr1 c1).1 (hr1 c1).2 ?_)
    refine (rn_step (e := (.goto (-75), 87, 9, 0, 0, 0, 0, [])) rfl).mpr ?_
    exact (k1 c1)
  ·
    refine (rn_step (e := (.iload 7, 70, 7, 0, 0, 0, 0, [])) rfl).mpr ?_
    refine (rn_step (e := (.istore_n 3, 71, 3, 0, 0, 0, 0, [])) rfl).mpr ?_
    refine (rn_step (e := (.aload 6, 73, 6, 0, 0, 0, 0, [])) rfl).mpr ?_
    refine (rn_step (e := (.getfield 85, 76, 3, 0, 171, 2, 4, [])) rfl).mpr (And.intro ((rn_kL (M := M) hM p_al6)) (rn_cg (hr2 c1).1 ?_))
    refine (rn_step (e := (.getfield 134, 79, 5, 1, 102, 0, 6, [])) rfl).mpr (And.intro ((rn_kR (M := M) hM (hr2 c1).2.1)) (?_))
    refine (rn_step (e := (.istore 4, 81, 4, 0, 0, 0, 0, [])) rfl).mpr ?_
    refine (rn_step (e := (.iinc 5 1, 84, 5, 0, 0, 0, 0, [])) rfl).mpr (rn_ci (hr2 c1).2.2.1 (hr2 c1).2.2.2 ?_)
    refine (rn_step (e := (.goto (-75), 87, 9, 0, 0, 0, 0, [])) rfl).mpr ?_
    exact (k2 c1)
