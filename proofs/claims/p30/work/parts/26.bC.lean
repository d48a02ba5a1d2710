theorem re_Hi_newDraft {M : rn_M} {Q : rn_Q} {v0 : rn_V} (h : rn_WP 21 0 [v0] [] M Q) : rn_ME 21 [v0] M Q := h
set_option maxRecDepth 4000 in
theorem rb_Hi_newDraft_0 {M : rn_M} {Q : rn_Q}  (hM : rn_sh M)   (hr1 : rn_gr M 12 3 = some (rn_go M 12 3) ∧ rn_gr M 12 2 = some (rn_go M 12 2) ∧ rn_isB (rn_go M 12 3)) (k1 : rn_ME 1 [rn_R (rn_go M 12 3), rn_R (rn_go M 12 2)] M (fun r M1 => rn_WP 21 11 [rn_R 12] (r.toList ++ []) M1 Q)) : rn_WP 21 0 [rn_R 12] [] M Q := by
  refine (rn_step (e := (.aload_n 0, 1, 0, 0, 0, 0, 0, [])) rfl).mpr ?_
  refine (rn_step (e := (.getfield 22, 4, 1, 3, 216, 2, 2, [])) rfl).mpr (And.intro ((rn_ks12 (M := M) hM)) (rn_cg hr1.1 ?_))
  refine (rn_step (e := (.aload_n 0, 5, 0, 0, 0, 0, 0, [])) rfl).mpr ?_
  refine (rn_step (e := (.getfield 18, 8, 1, 2, 215, 2, 2, [])) rfl).mpr (And.intro ((rn_ks12 (M := M) hM)) (rn_cg hr1.2.1 ?_))
  exact (rn_step (e := (.invokevirtual 25, 11, 1, 2, 524, 0, 1, [0])) rfl).mpr (And.intro ((rn_kB (M := M) hM hr1.2.2)) (k1))
set_option maxRecDepth 4000 in
theorem rb_Hi_newDraft_11 {M : rn_M} {Q : rn_Q}  (hM : rn_sh M)   (hr1 : rn_gr M 12 3 = some (rn_go M 12 3)) (k1 : Q (some (rn_R (rn_go M 12 3))) M) : rn_WP 21 11 [rn_R 12] [] M Q := by
  refine (rn_step (e := (.aload_n 0, 12, 0, 0, 0, 0, 0, [])) rfl).mpr ?_
  refine (rn_step (e := (.getfield 22, 15, 1, 3, 216, 2, 2, [])) rfl).mpr (And.intro ((rn_ks12 (M := M) hM)) (rn_cg hr1 ?_))
  exact (rn_step (e := (.areturn, 16, 0, 0, 0, 0, 0, [])) rfl).mpr k1
theorem re_Hi_enterDraft {M : rn_M} {Q : rn_Q} {v0 : rn_V} (h : rn_WP 22 0 [v0, rn_J] [] M Q) : rn_ME 22 [v0] M Q := h
set_option maxRecDepth 4000 in
theorem rb_Hi_enterDraft_0 {M : rn_M} {Q : rn_Q} {vl1 : rn_V} (hM : rn_sh M)   (hr1 : (rn_gi M 12 0 < 5) → (0 ≤ rn_gi M 12 0 ∧ rn_gi M 12 0 ≤ 4) → (0 : Int) ≤ rn_gi M 12 0 ∧ rn_gi M 12 0 < (5 : Int) ∧ rn_gr M 13 (rn_gi M 12 0).toNat = some (rn_go M 13 (rn_gi M 12 0).toNat) ∧ rn_gr M 12 2 = some (rn_go M 12 2) ∧ rn_isB (rn_go M 12 2) ∧ rn_gr (rn_sr M 13 (rn_gi M 12 0).toNat (some (rn_go M 12 2))) 12 3 = some (rn_go (rn_sr M 13 (rn_gi M 12 0).toNat (some (rn_go M 12 2))) 12 3) ∧ (-2147483648 : Int) ≤ rn_gi M 12 0 + 1 ∧ rn_gi M 12 0 + 1 ≤ 2147483647) (k1 : (rn_gi M 12 0 < 5) → (¬ (0 ≤ rn_gi M 12 0 ∧ rn_gi M 12 0 ≤ 4)) → Q none M) (k2 : (rn_gi M 12 0 < 5) → (0 ≤ rn_gi M 12 0 ∧ rn_gi M 12 0 ≤ 4) → Q none (rn_si (rn_sr (rn_sr (rn_sr M 13 (rn_gi M 12 0).toNat (some (rn_go M 12 2))) 12 2 (some (rn_go (rn_sr M 13 (rn_gi M 12 0).toNat (some (rn_go M 12 2))) 12 3))) 12 3 (some (rn_go M 13 (rn_gi M 12 0).toNat))) 12 0 (rn_gi M 12 0 + 1))) (k3 : (¬ (rn_gi M 12 0 < 5)) → rn_ME 23 [rn_R 12] M (fun r M1 => rn_WP 22 12 [rn_R 12, vl1] (r.toList ++ []) M1 Q)) : rn_WP 22 0 [rn_R 12, vl1] [] M Q := by
  refine (rn_step (e := (.aload_n 0, 1, 0, 0, 0, 0, 0, [])) rfl).mpr ?_
  refine (rn_step (e := (.getfield 29, 4, 1, 0, 212, 0, 2, [])) rfl).mpr (And.intro ((rn_ks12 (M := M) hM)) (?_))
  refine (rn_step (e := (.iconst 5, 5, 0, 0, 0, 0, 0, [])) rfl).mpr ?_
  refine (rn_step (e := (.if_icmp .lt 7, 8, 12, 0, 0, 0, 0, [])) rfl).mpr (And.intro (fun c1 => ?_) (fun c1 => ?_))
  ·
    refine (rn_step (e := (.aload_n 0, 13, 0, 0, 0, 0, 0, [])) rfl).mpr ?_
    refine (rn_step (e := (.getfield 29, 16, 1, 0, 212, 0, 2, [])) rfl).mpr (And.intro ((rn_ks12 (M := M) hM)) (?_))
    refine (rn_step (e := (.iconst 0, 17, 0, 0, 0, 0, 0, [])) rfl).mpr ?_
    refine (rn_step (e := (.iconst 4, 18, 0, 0, 0, 0, 0, [])) rfl).mpr ?_
    refine (rn_step (e := (.invokestatic 36, 21, 118, 3, 5, 0, 10, [1])) rfl).mpr (rc_RN_within  ?_)
    refine (rn_step (e := (.ifCond .ne 4, 24, 25, 0, 0, 0, 0, [])) rfl).mpr (And.intro (fun q => ?_) (fun q => ?_))
    · have c2 := rn_b0 q
      exact (rn_step (e := (.return_, 25, 0, 0, 0, 0, 0, [])) rfl).mpr (k1 c1 c2)
    · have c2 := rn_b1 q
      refine (rn_step (e := (.aload_n 0, 26, 0, 0, 0, 0, 0, [])) rfl).mpr ?_
      refine (rn_step (e := (.getfield 11, 29, 1, 1, 214, 2, 2, [])) rfl).mpr (And.intro ((rn_ks12 (M := M) hM)) (rn_cg (rn_g12_1 (M := M) hM) ?_))
      refine (rn_step (e := (.aload_n 0, 30, 0, 0, 0, 0, 0, [])) rfl).mpr ?_
      refine (rn_step (e := (.getfield 29, 33, 1, 0, 212, 0, 2, [])) rfl).mpr (And.intro ((rn_ks12 (M := M) hM)) (?_))
      refine (rn_step (e := (.aaload, 34, 0, 0, 0, 0, 0, [])) rfl).mpr (And.intro (rn_q30 (rn_q13 (M := M) hM).1) (And.intro ((And.intro ((hr1 c1 c2).1) (rn_lt (rn_q13 (M := M) hM).2 (hr1 c1 c2).2.1))) (rn_cg (hr1 c1 c2).2.2.1 ?_)))
      refine (rn_step (e := (.astore_n 1, 35, 1, 0, 0, 0, 0, [])) rfl).mpr ?_
      refine (rn_step (e := (.aload_n 1, 36, 1, 0, 0, 0, 0, [])) rfl).mpr ?_
      refine (rn_step (e := (.ifnull 39, 39, 75, 0, 0, 0, 0, [])) rfl).mpr ?_
      refine (rn_step (e := (.aload_n 0, 40, 0, 0, 0, 0, 0, [])) rfl).mpr ?_
      refine (rn_step (e := (.getfield 11, 43, 1, 1, 214, 2, 2, [])) rfl).mpr (And.intro ((rn_ks12 (M := M) hM)) (rn_cg (rn_g12_1 (M := M) hM) ?_))
      refine (rn_step (e := (.aload_n 0, 44, 0, 0, 0, 0, 0, [])) rfl).mpr ?_
      refine (rn_step (e := (.getfield 29, 47, 1, 0, 212, 0, 2, [])) rfl).mpr (And.intro ((rn_ks12 (M := M) hM)) (?_))
      refine (rn_step (e := (.aload_n 0, 48, 0, 0, 0, 0, 0, [])) rfl).mpr ?_
      refine (rn_step (e := (.getfield 18, 51, 1, 2, 215, 2, 2, [])) rfl).mpr (And.intro ((rn_ks12 (M := M) hM)) (rn_cg (hr1 c1 c2).2.2.2.1 ?_))
      refine (rn_step (e := (.aastore, 52, 0, 0, 0, 0, 0, [])) rfl).mpr (And.intro (rn_q30 (rn_q13 (M := M) hM).1) (And.intro (rn_q29 (rn_q13 (M := M) hM).1 (rn_kB (M := M) hM (hr1 c1 c2).2.2.2.2.1)) (And.intro ((And.intro ((hr1 c1 c2).1) (rn_lt (rn_q13 (M := M) hM).2 (hr1 c1 c2).2.1))) (?_))))
      refine (rn_step (e := (.aload_n 0, 53, 0, 0, 0, 0, 0, [])) rfl).mpr ?_
      refine (rn_step (e := (.aload_n 0, 54, 0, 0, 0, 0, 0, [])) rfl).mpr ?_
      refine (rn_step (e := (.getfield 22, 57, 1, 3, 216, 2, 2, [])) rfl).mpr (And.intro ((rn_ks12 (M := M) hM)) (rn_cg (hr1 c1 c2).2.2.2.2.2.1 ?_))
      refine (rn_step (e := (.putfield 18, 60, 1, 2, 215, 2, 2, [])) rfl).mpr (And.intro ((rn_ks12 (M := M) hM)) (?_))
      refine (rn_step (e := (.aload_n 0, 61, 0, 0, 0, 0, 0, [])) rfl).mpr ?_
      refine (rn_step (e := (.aload_n 1, 62, 1, 0, 0, 0, 0, [])) rfl).mpr ?_
      refine (rn_step (e := (.putfield 22, 65, 1, 3, 216, 2, 2, [])) rfl).mpr (And.intro ((rn_ks12 (M := M) hM)) (?_))
      refine (rn_step (e := (.aload_n 0, 66, 0, 0, 0, 0, 0, [])) rfl).mpr ?_
      refine (rn_step (e := (.dup, 67, 0, 0, 0, 0, 0, [])) rfl).mpr ?_
      refine (rn_step (e := (.getfield 29, 70, 1, 0, 212, 0, 2, [])) rfl).mpr (And.intro ((rn_ks12 (M := M) hM)) (rn_cv (by rw [rn_sr_gif, rn_sr_gif, rn_sr_gif]) ?_))
      refine (rn_step (e := (.iconst 1, 71, 0, 0, 0, 0, 0, [])) rfl).mpr ?_
      refine (rn_step (e := (.iadd, 72, 0, 0, 0, 0, 0, [])) rfl).mpr (rn_cw (hr1 c1 c2).2.2.2.2.2.2.1 (hr1 c1 c2).2.2.2.2.2.2.2 ?_)
      refine (rn_step (e := (.putfield 29, 75, 1, 0, 212, 0, 2, [])) rfl).mpr (And.intro ((rn_ks12 (M := M) hM)) (?_))
      exact (rn_step (e := (.return_, 76, 0, 0, 0, 0, 0, [])) rfl).mpr (k2 c1 c2)
  ·
    refine (rn_step (e := (.aload_n 0, 9, 0, 0, 0, 0, 0, [])) rfl).mpr ?_
    exact (rn_step (e := (.invokevirtual 33, 12, 23, 1, 588, 0, 2, [0])) rfl).mpr (And.intro ((rn_ks12 (M := M) hM)) ((k3 c1)))
set_option maxRecDepth 4000 in
theorem rb_Hi_enterDraft_12 {M : rn_M} {Q : rn_Q} {vl1 : rn_V} (hM : rn_sh M)   (hr1 : (0 ≤ rn_gi M 12 0 ∧ rn_gi M 12 0 ≤ 4) → (0 : Int) ≤ rn_gi M 12 0 ∧ rn_gi M 12 0 < (5 : Int) ∧ rn_gr M 13 (rn_gi M 12 0).toNat = some (rn_go M 13 (rn_gi M 12 0).toNat) ∧ rn_gr M 12 2 = some (rn_go M 12 2) ∧ rn_isB (rn_go M 12 2) ∧ rn_gr (rn_sr M 13 (rn_gi M 12 0).toNat (some (rn_go M 12 2))) 12 3 = some (rn_go (rn_sr M 13 (rn_gi M 12 0).toNat (some (rn_go M 12 2))) 12 3) ∧ (-2147483648 : Int) ≤ rn_gi M 12 0 + 1 ∧ rn_gi M 12 0 + 1 ≤ 2147483647) (k1 : (¬ (0 ≤ rn_gi M 12 0 ∧ rn_gi M 12 0 ≤ 4)) → Q none M) (k2 : (0 ≤ rn_gi M 12 0 ∧ rn_gi M 12 0 ≤ 4) → Q none (rn_si (rn_sr (rn_sr (rn_sr M 13 (rn_gi M 12 0).toNat (some (rn_go M 12 2))) 12 2 (some (rn_go (rn_sr M 13 (rn_gi M 12 0).toNat (some (rn_go M 12 2))) 12 3))) 12 3 (some (rn_go M 13 (rn_gi M 12 0).toNat))) 12 0 (rn_gi M 12 0 + 1))) : rn_WP 22 12 [rn_R 12, vl1] [] M Q := by
  refine (rn_step (e := (.aload_n 0, 13, 0, 0, 0, 0, 0, [])) rfl).mpr ?_
  refine (rn_step (e := (.getfield 29, 16, 1, 0, 212, 0, 2, [])) rfl).mpr (And.intro ((rn_ks12 (M := M) hM)) (?_))
  refine (rn_step (e := (.iconst 0, 17, 0, 0, 0, 0, 0, [])) rfl).mpr ?_
  refine (rn_step (e := (.iconst 4, 18, 0, 0, 0, 0, 0, [])) rfl).mpr ?_
  refine (rn_step (e := (.invokestatic 36, 21, 118, 3, 5, 0, 10, [1])) rfl).mpr (rc_RN_within  ?_)
  refine (rn_step (e := (.ifCond .ne 4, 24, 25, 0, 0, 0, 0, [])) rfl).mpr (And.intro (fun q => ?_) (fun q => ?_))
  · have c1 := rn_b0 q
    exact (rn_step (e := (.return_, 25, 0, 0, 0, 0, 0, [])) rfl).mpr (k1 c1)
  · have c1 := rn_b1 q
    refine (rn_step (e := (.aload_n 0, 26, 0, 0, 0, 0, 0, [])) rfl).mpr ?_
    refine (rn_step (e := (.getfield 11, 29, 1, 1, 214, 2, 2, [])) rfl).mpr (And.intro ((rn_ks12 (M := M) hM)) (rn_cg (rn_g12_1 (M := M) hM) ?_))
    refine (rn_step (e := (.aload_n 0, 30, 0, 0, 0, 0, 0, [])) rfl).mpr ?_
    refine (rn_step (e := (.getfield 29, 33, 1, 0, 212, 0, 2, [])) rfl).mpr (And.intro ((rn_ks12 (M := M) hM)) (?_))
    refine (rn_step (e := (.aaload, 34, 0, 0, 0, 0, 0, [])) rfl).mpr (And.intro (rn_q30 (rn_q13 (M := M) hM).1) (And.intro ((And.intro ((hr1 c1).1) (rn_lt (rn_q13 (M := M) hM).2 (hr1 c1).2.1))) (rn_cg (hr1 c1).2.2.1 ?_)))
    refine (rn_step (e := (.astore_n 1, 35, 1, 0, 0, 0, 0, [])) rfl).mpr ?_
    refine (rn_step (e := (.aload_n 1, 36, 1, 0, 0, 0, 0, [])) rfl).mpr ?_
    refine (rn_step (e := (.ifnull 39, 39, 75, 0, 0, 0, 0, [])) rfl).mpr ?_
    refine (rn_step (e := (.aload_n 0, 40, 0, 0, 0, 0, 0, [])) rfl).mpr ?_
    refine (rn_step (e := (.getfield 11, 43, 1, 1, 214, 2, 2, [])) rfl).mpr (And.intro ((rn_ks12 (M := M) hM)) (rn_cg (rn_g12_1 (M := M) hM) ?_))
    refine (rn_step (e := (.aload_n 0, 44, 0, 0, 0, 0, 0, [])) rfl).mpr ?_
    refine (rn_step (e := (.getfield 29, 47, 1, 0, 212, 0, 2, [])) rfl).mpr (And.intro ((rn_ks12 (M := M) hM)) (?_))
    refine (rn_step (e := (.aload_n 0, 48, 0, 0, 0, 0, 0, [])) rfl).mpr ?_
    refine (rn_step (e := (.getfield 18, 51, 1, 2, 215, 2, 2, [])) rfl).mpr (And.intro ((rn_ks12 (M := M) hM)) (rn_cg (hr1 c1).2.2.2.1 ?_))
    refine (rn_step (e := (.aastore, 52, 0, 0, 0, 0, 0, [])) rfl).mpr (And.intro (rn_q30 (rn_q13 (M := M) hM).1) (And.intro (rn_q29 (rn_q13 (M := M) hM).1 (rn_kB (M := M) hM (hr1 c1).2.2.2.2.1)) (And.intro ((And.intro ((hr1 c1).1) (rn_lt (rn_q13 (M := M) hM).2 (hr1 c1).2.1))) (?_))))
    refine (rn_step (e := (.aload_n 0, 53, 0, 0, 0, 0, 0, [])) rfl).mpr ?_
    refine (rn_step (e := (.aload_n 0, 54, 0, 0, 0, 0, 0, [])) rfl).mpr ?_
    refine (rn_step (e := (.getfield 22, 57, 1, 3, 216, 2, 2, [])) rfl).mpr (And.intro ((rn_ks12 (M := M) hM)) (rn_cg (hr1 c1).2.2.2.2.2.1 ?_))
    refine (rn_step (e := (.putfield 18, 60, 1, 2, 215, 2, 2, [])) rfl).mpr (And.intro ((rn_ks12 (M := M) hM)) (?_))
    refine (rn_step (e := (.aload_n 0, 61, 0, 0, 0, 0, 0, [])) rfl).mpr ?_
    refine (rn_step (e := (.aload_n 1, 62, 1, 0, 0, 0, 0, [])) rfl).mpr ?_
    refine (rn_step (e := (.putfield 22, 65, 1, 3, 216, 2, 2, [])) rfl).mpr (And.intro ((rn_ks12 (M := M) hM)) (?_))
    refine (rn_step (e := (.aload_n 0, 66, 0, 0, 0, 0, 0, [])) rfl).mpr ?_
    refine (rn_step (e := (.dup, 67, 0, 0, 0, 0, 0, [])) rfl).mpr ?_
    refine (rn_step (e := (.getfield 29, 70, 1, 0, 212, 0, 2, [])) rfl).mpr (And.intro ((rn_ks12 (M := M) hM)) (rn_cv (by rw [rn_sr_gif, rn_sr_gif, rn_sr_gif]) ?_))
    refine (rn_step (e := (.iconst 1, 71, 0, 0, 0, 0, 0, [])) rfl).mpr ?_
    refine (rn_step (e := (.iadd, 72, 0, 0, 0, 0, 0, [])) rfl).mpr (rn_cw (hr1 c1).2.2.2.2.2.2.1 (hr1 c1).2.2.2.2.2.2.2 ?_)
    refine (rn_step (e := (.putfield 29, 75, 1, 0, 212, 0, 2, [])) rfl).mpr (And.intro ((rn_ks12 (M := M) hM)) (?_))
    exact (rn_step (e := (.return_, 76, 0, 0, 0, 0, 0, [])) rfl).mpr (k2 c1)
theorem re_Hi_dropOldest {M : rn_M} {Q : rn_Q} {v0 : rn_V} (h : rn_WP 23 0 [v0, rn_J, rn_J] [] M Q) : rn_ME 23 [v0] M Q := h
set_option maxRecDepth 4000 in
theorem rb_Hi_dropOldest_0 {M : rn_M} {Q : rn_Q} {vl1 : rn_V} {vl2 : rn_V} (hM : rn_sh M)   (hr1 : rn_gr M 13 0 = some (rn_go M 13 0)) (k1 : rn_WP 23 9 [rn_R 12, rn_R (rn_go M 13 0), rn_I 1] [] M Q) : rn_WP 23 0 [rn_R 12, vl1, vl2] [] M Q := by
  refine (rn_step (e := (.aload_n 0, 1, 0, 0, 0, 0, 0, [])) rfl).mpr ?_
  refine (rn_step (e := (.getfield 11, 4, 1, 1, 214, 2, 2, [])) rfl).mpr (And.intro ((rn_ks12 (M := M) hM)) (rn_cg (rn_g12_1 (M := M) hM) ?_))
  refine (rn_step (e := (.iconst 0, 5, 0, 0, 0, 0, 0, [])) rfl).mpr ?_
  refine (rn_step (e := (.aaload, 6, 0, 0, 0, 0, 0, [])) rfl).mpr (And.intro (rn_q30 (rn_q13 (M := M) hM).1) (And.intro ((And.intro ((by decide)) (rn_lt (rn_q13 (M := M) hM).2 (by decide)))) (rn_cg hr1 ?_)))
  refine (rn_step (e := (.astore_n 1, 7, 1, 0, 0, 0, 0, [])) rfl).mpr ?_
  refine (rn_step (e := (.iconst 1, 8, 0, 0, 0, 0, 0, [])) rfl).mpr ?_
  refine (rn_step (e := (.istore_n 2, 9, 2, 0, 0, 0, 0, [])) rfl).mpr ?_
  exact k1
set_option maxRecDepth 4000 in
theorem rb_Hi_dropOldest_9 {M : rn_M} {Q : rn_Q} {al1 : Nat} {xl2 : Int} (hM : rn_sh M) (p_al1 : rn_isB al1)  (hr1 : (xl2 < 5) → (-2147483648 : Int) ≤ xl2 - 1 ∧ xl2 - 1 ≤ 2147483647 ∧ (0 : Int) ≤ xl2 ∧ xl2 < (5 : Int) ∧ rn_gr M 13 (xl2).toNat = some (rn_go M 13 (xl2).toNat) ∧ rn_isB (rn_go M 13 (xl2).toNat) ∧ (0 : Int) ≤ xl2 - 1 ∧ xl2 - 1 < (5 : Int) ∧ (-2147483648 : Int) ≤ xl2 + 1 ∧ xl2 + 1 ≤ 2147483647) (k1 : (xl2 < 5) → rn_WP 23 9 [rn_R 12, rn_R al1, rn_I (xl2 + 1)] [] (rn_sr M 13 (xl2 - 1).toNat (some (rn_go M 13 (xl2).toNat))) Q) (k2 : (¬ (xl2 < 5)) → Q none (rn_si (rn_sr M 13 4 (some al1)) 12 0 4)) : rn_WP 23 9 [rn_R 12, rn_R al1, rn_I xl2] [] M Q := by
  refine (rn_step (e := (.iload_n 2, 10, 2, 0, 0, 0, 0, [])) rfl).mpr ?_
  refine (rn_step (e := (.iconst 5, 11, 0, 0, 0, 0, 0, [])) rfl).mpr ?_
  refine (rn_step (e := (.if_icmp .ge 23, 14, 34, 0, 0, 0, 0, [])) rfl).mpr (And.intro (fun c1 => ?_) (fun c1 => ?_))
  ·
    refine (rn_step (e := (.aload_n 0, 15, 0, 0, 0, 0, 0, [])) rfl).mpr ?_
    refine (rn_step (e := (.getfield 11, 18, 1, 1, 214, 2, 2, [])) rfl).mpr (And.intro ((rn_ks12 (M := M) hM)) (rn_cg (rn_g12_1 (M := M) hM) ?_))
    refine (rn_step (e := (.iload_n 2, 19, 2, 0, 0, 0, 0, [])) rfl).mpr ?_
    refine (rn_step (e := (.iconst 1, 20, 0, 0, 0, 0, 0, [])) rfl).mpr ?_
    refine (rn_step (e := (.isub, 21, 0, 0, 0, 0, 0, [])) rfl).mpr (rn_cw (hr1 c1).1 (hr1 c1).2.1 ?_)
    refine (rn_step (e := (.aload_n 0, 22, 0, 0, 0, 0, 0, [])) rfl).mpr ?_
    refine (rn_step (e := (.getfield 11, 25, 1, 1, 214, 2, 2, [])) rfl).mpr (And.intro ((rn_ks12 (M := M) hM)) (rn_cg (rn_g12_1 (M := M) hM) ?_))
    refine (rn_step (e := (.iload_n 2, 26, 2, 0, 0, 0, 0, [])) rfl).mpr ?_
    refine (rn_step (e := (.aaload, 27, 0, 0, 0, 0, 0, [])) rfl).mpr (And.intro (rn_q30 (rn_q13 (M := M) hM).1) (And.intro ((And.intro ((hr1 c1).2.2.1) (rn_lt (rn_q13 (M := M) hM).2 (hr1 c1).2.2.2.1))) (rn_cg (hr1 c1).2.2.2.2.1 ?_)))
    refine (rn_step (e := (.aastore, 28, 0, 0, 0, 0, 0, [])) rfl).mpr (And.intro (rn_q30 (rn_q13 (M := M) hM).1) (And.intro (rn_q29 (rn_q13 (M := M) hM).1 (rn_kB (M := M) hM (hr1 c1).2.2.2.2.2.1)) (And.intro ((And.intro ((hr1 c1).2.2.2.2.2.2.1) (rn_lt (rn_q13 (M := M) hM).2 (hr1 c1).2.2.2.2.2.2.2.1))) (?_))))
    refine (rn_step (e := (.iinc 2 1, 31, 2, 0, 0, 0, 0, [])) rfl).mpr (rn_ci (hr1 c1).2.2.2.2.2.2.2.2.1 (hr1 c1).2.2.2.2.2.2.2.2.2 ?_)
    refine (rn_step (e := (.goto (-22), 34, 9, 0, 0, 0, 0, [])) rfl).mpr ?_
    exact (k1 c1)
  ·
    refine (rn_step (e := (.aload_n 0, 35, 0, 0, 0, 0, 0, [])) rfl).mpr ?_
    refine (rn_step (e := (.getfield 11, 38, 1, 1, 214, 2, 2, [])) rfl).mpr (And.intro ((rn_ks12 (M := M) hM)) (rn_cg (rn_g12_1 (M := M) hM) ?_))
    refine (rn_step (e := (.iconst 4, 39, 0, 0, 0, 0, 0, [])) rfl).mpr ?_
    refine (rn_step (e := (.aload_n 1, 40, 1, 0, 0, 0, 0, [])) rfl).mpr ?_
    refine (rn_step (e := (.aastore, 41, 0, 0, 0, 0, 0, [])) rfl).mpr (And.intro (rn_q30 (rn_q13 (M := M) hM).1) (And.intro (rn_q29 (rn_q13 (M := M) hM).1 (rn_kB (M := M) hM p_al1)) (And.intro ((And.intro ((by decide)) (rn_lt (rn_q13 (M := M) hM).2 (by decide)))) (?_))))
    refine (rn_step (e := (.aload_n 0, 42, 0, 0, 0, 0, 0, [])) rfl).mpr ?_
    refine (rn_step (e := (.iconst 4, 43, 0, 0, 0, 0, 0, [])) rfl).mpr ?_
    refine (rn_step (e := (.putfield 29, 46, 1, 0, 212, 0, 2, [])) rfl).mpr (And.intro ((rn_ks12 (M := M) hM)) (?_))
    exact (rn_step (e := (.return_, 47, 0, 0, 0, 0, 0, [])) rfl).mpr (k2 c1)
theorem re_Hi_stepBack {M : rn_M} {Q : rn_Q} {v0 : rn_V} (h : rn_WP 24 0 [v0, rn_J] [] M Q) : rn_ME 24 [v0] M Q := h
set_option maxRecDepth 4000 in
theorem rb_Hi_stepBack_0 {M : rn_M} {Q : rn_Q} {vl1 : rn_V} (hM : rn_sh M)   (hr1 : (1 ≤ rn_gi M 12 0 ∧ rn_gi M 12 0 ≤ 5) → (-2147483648 : Int) ≤ (rn_gi M 12 0) - 1 ∧ (rn_gi M 12 0) - 1 ≤ 2147483647 ∧ (0 : Int) ≤ (rn_gi M 12 0) - 1 ∧ (rn_gi M 12 0) - 1 < (5 : Int) ∧ rn_gr M 13 ((rn_gi M 12 0) - 1).toNat = some (rn_go M 13 ((rn_gi M 12 0) - 1).toNat) ∧ rn_gr M 12 2 = some (rn_go M 12 2) ∧ rn_isB (rn_go M 12 2)) (k1 : (¬ (1 ≤ rn_gi M 12 0 ∧ rn_gi M 12 0 ≤ 5)) → Q (some (rn_I (-2))) M) (k2 : (1 ≤ rn_gi M 12 0 ∧ rn_gi M 12 0 ≤ 5) → Q (some (rn_I ((rn_gi M 12 0) - 1))) (rn_si (rn_sr (rn_sr M 13 ((rn_gi M 12 0) - 1).toNat (some (rn_go M 12 2))) 12 2 (some (rn_go M 13 ((rn_gi M 12 0) - 1).toNat))) 12 0 ((rn_gi M 12 0) - 1))) : rn_WP 24 0 [rn_R 12, vl1] [] M Q := by
  refine (rn_step (e := (.aload_n 0, 1, 0, 0, 0, 0, 0, [])) rfl).mpr ?_
  refine (rn_step (e := (.getfield 29, 4, 1, 0, 212, 0, 2, [])) rfl).mpr (And.intro ((rn_ks12 (M := M) hM)) (?_))
  refine (rn_step (e := (.iconst 1, 5, 0, 0, 0, 0, 0, [])) rfl).mpr ?_
  refine (rn_step (e := (.iconst 5, 6, 0, 0, 0, 0, 0, [])) rfl).mpr ?_
  refine (rn_step (e := (.invokestatic 36, 9, 118, 3, 5, 0, 10, [1])) rfl).mpr (rc_RN_within  ?_)
  refine (rn_step (e := (.ifCond .ne 6, 12, 15, 0, 0, 0, 0, [])) rfl).mpr (And.intro (fun q => ?_) (fun q => ?_))
  · have c1 := rn_b0 q
    refine (rn_step (e := (.bipush (-2), 14, 0, 0, 0, 0, 0, [])) rfl).mpr ?_
    exact (rn_step (e := (.ireturn, 15, 0, 0, 0, 0, 0, [])) rfl).mpr (And.intro (trivial) ((k1 c1)))
  · have c1 := rn_b1 q
    refine (rn_step (e := (.aload_n 0, 16, 0, 0, 0, 0, 0, [])) rfl).mpr ?_
    refine (rn_step (e := (.getfield 11, 19, 1, 1, 214, 2, 2, [])) rfl).mpr (And.intro ((rn_ks12 (M := M) hM)) (rn_cg (rn_g12_1 (M := M) hM) ?_))
    refine (rn_step (e := (.aload_n 0, 20, 0, 0, 0, 0, 0, [])) rfl).mpr ?_
    refine (rn_step (e := (.getfield 29, 23, 1, 0, 212, 0, 2, [])) rfl).mpr (And.intro ((rn_ks12 (M := M) hM)) (?_))
    refine (rn_step (e := (.iconst 1, 24, 0, 0, 0, 0, 0, [])) rfl).mpr ?_
    refine (rn_step (e := (.isub, 25, 0, 0, 0, 0, 0, [])) rfl).mpr (rn_cw (hr1 c1).1 (hr1 c1).2.1 ?_)
    refine (rn_step (e := (.aaload, 26, 0, 0, 0, 0, 0, [])) rfl).mpr (And.intro (rn_q30 (rn_q13 (M := M) hM).1) (And.intro ((And.intro ((hr1 c1).2.2.1) (rn_lt (rn_q13 (M := M) hM).2 (hr1 c1).2.2.2.1))) (rn_cg (hr1 c1).2.2.2.2.1 ?_)))
    refine (rn_step (e := (.astore_n 1, 27, 1, 0, 0, 0, 0, [])) rfl).mpr ?_
    refine (rn_step (e := (.aload_n 1, 28, 1, 0, 0, 0, 0, [])) rfl).mpr ?_
    refine (rn_step (e := (.ifnonnull 6, 31, 34, 0, 0, 0, 0, [])) rfl).mpr ?_
    refine (rn_step (e := (.aload_n 0, 35, 0, 0, 0, 0, 0, [])) rfl).mpr ?_
    refine (rn_step (e := (.getfield 11, 38, 1, 1, 214, 2, 2, [])) rfl).mpr (And.intro ((rn_ks12 (M := M) hM)) (rn_cg (rn_g12_1 (M := M) hM) ?_))
    refine (rn_step (e := (.aload_n 0, 39, 0, 0, 0, 0, 0, [])) rfl).mpr ?_
    refine (rn_step (e := (.getfield 29, 42, 1, 0, 212, 0, 2, [])) rfl).mpr (And.intro ((rn_ks12 (M := M) hM)) (?_))
    refine (rn_step (e := (.iconst 1, 43, 0, 0, 0, 0, 0, [])) rfl).mpr ?_
    refine (rn_step (e := (.isub, 44, 0, 0, 0, 0, 0, [])) rfl).mpr (rn_cw (hr1 c1).1 (hr1 c1).2.1 ?_)
    refine (rn_step (e := (.aload_n 0, 45, 0, 0, 0, 0, 0, [])) rfl).mpr ?_
    refine (rn_step (e := (.getfield 18, 48, 1, 2, 215, 2, 2, [])) rfl).mpr (And.intro ((rn_ks12 (M := M) hM)) (rn_cg (hr1 c1).2.2.2.2.2.1 ?_))
    refine (rn_step (e := (.aastore, 49, 0, 0, 0, 0, 0, [])) rfl).mpr (And.intro (rn_q30 (rn_q13 (M := M) hM).1) (And.intro (rn_q29 (rn_q13 (M := M) hM).1 (rn_kB (M := M) hM (hr1 c1).2.2.2.2.2.2)) (And.intro ((And.intro ((hr1 c1).2.2.1) (rn_lt (rn_q13 (M := M) hM).2 (hr1 c1).2.2.2.1))) (?_))))
    refine (rn_step (e := (.aload_n 0, 50, 0, 0, 0, 0, 0, [])) rfl).mpr ?_
    refine (rn_step (e := (.aload_n 1, 51, 1, 0, 0, 0, 0, [])) rfl).mpr ?_
    refine (rn_step (e := (.putfield 18, 54, 1, 2, 215, 2, 2, [])) rfl).mpr (And.intro ((rn_ks12 (M := M) hM)) (?_))
    refine (rn_step (e := (.aload_n 0, 55, 0, 0, 0, 0, 0, [])) rfl).mpr ?_
    refine (rn_step (e := (.dup, 56, 0, 0, 0, 0, 0, [])) rfl).mpr ?_
    refine (rn_step (e := (.getfield 29, 59, 1, 0, 212, 0, 2, [])) rfl).mpr (And.intro ((rn_ks12 (M := M) hM)) (rn_cv (by rw [rn_sr_gif, rn_sr_gif]) ?_))
    refine (rn_step (e := (.iconst 1, 60, 0, 0, 0, 0, 0, [])) rfl).mpr ?_
    refine (rn_step (e := (.isub, 61, 0, 0, 0, 0, 0, [])) rfl).mpr (rn_cw (hr1 c1).1 (hr1 c1).2.1 ?_)
    refine (rn_step (e := (.putfield 29, 64, 1, 0, 212, 0, 2, [])) rfl).mpr (And.intro ((rn_ks12 (M := M) hM)) (?_))
    refine (rn_step (e := (.aload_n 0, 65, 0, 0, 0, 0, 0, [])) rfl).mpr ?_
    refine (rn_step (e := (.getfield 29, 68, 1, 0, 212, 0, 2, [])) rfl).mpr (And.intro ((rn_ks12 (M := M) hM)) (rn_cv (by rw [rn_si_eq]) ?_))
    exact (rn_step (e := (.ireturn, 69, 0, 0, 0, 0, 0, [])) rfl).mpr (And.intro (trivial) ((k2 c1)))
theorem re_Ju_reasonAgainst {M : rn_M} {Q : rn_Q} {v0 v1 v2 v3 v4 : rn_V} (h : rn_WP 26 0 [v0, v1, v2, v3, v4, rn_J, rn_J] [] M Q) : rn_ME 26 [v0, v1, v2, v3, v4] M Q := h
set_option maxRecDepth 4000 in
theorem rb_Ju_reasonAgainst_0 {M : rn_M} {Q : rn_Q} {rl1 : Option Nat} {al2 : Nat} {xl3 : Int} {xl4 : Int} {vl5 : rn_V} {vl6 : rn_V} (hM : rn_sh M) (p_al2 : rn_isR al2)  (hr1 : ((-1000 : Int) ≤ rn_gi M al2 3 ∧ (rn_gi M al2 3 : Int) ≤ 1000) ∧ (-1000 ≤ rn_gi M al2 4 ∧ rn_gi M al2 4 ≤ 1000)) (k1 : (xl3 ≤ rn_gi M al2 4 + 1 - (rn_gi M al2 3)) → rn_ME 27 [rn_R 462, .inr (.inl (some rl1)), rn_R al2, rn_I xl3, rn_I xl4] M (fun r M1 => rn_WP 26 23 [rn_R 462, .inr (.inl (some rl1)), rn_R al2, rn_I xl3, rn_I xl4, vl5, vl6] (r.toList ++ []) M1 Q)) (k2 : (¬ (xl3 ≤ rn_gi M al2 4 + 1 - (rn_gi M al2 3))) → Q (some (rn_I 1)) M) : rn_WP 26 0 [rn_R 462, .inr (.inl (some rl1)), rn_R al2, rn_I xl3, rn_I xl4, vl5, vl6] [] M Q := by
  refine (rn_step (e := (.iload_n 3, 1, 3, 0, 0, 0, 0, [])) rfl).mpr ?_
  refine (rn_step (e := (.aload_n 2, 2, 2, 0, 0, 0, 0, [])) rfl).mpr ?_
  refine (rn_step (e := (.aload_n 2, 3, 2, 0, 0, 0, 0, [])) rfl).mpr ?_
  refine (rn_step (e := (.getfield 15, 6, 5, 3, 107, 0, 6, [])) rfl).mpr (And.intro ((rn_kR (M := M) hM p_al2)) (?_))
  refine (rn_step (e := (.invokevirtual 21, 9, 68, 2, 324, 0, 6, [0])) rfl).mpr (And.intro ((rn_kR (M := M) hM p_al2)) ((rc_Ri_lastStart hM p_al2 (hr1.1) (hr1.2) ?_)))
  refine (rn_step (e := (.if_icmp .le 5, 12, 14, 0, 0, 0, 0, [])) rfl).mpr (And.intro (fun c1 => ?_) (fun c1 => ?_))
  ·
    refine (rn_step (e := (.aload_n 0, 15, 0, 0, 0, 0, 0, [])) rfl).mpr ?_
    refine (rn_step (e := (.aload_n 1, 16, 1, 0, 0, 0, 0, [])) rfl).mpr ?_
    refine (rn_step (e := (.aload_n 2, 17, 2, 0, 0, 0, 0, [])) rfl).mpr ?_
    refine (rn_step (e := (.iload_n 3, 18, 3, 0, 0, 0, 0, [])) rfl).mpr ?_
    refine (rn_step (e := (.iload 4, 20, 4, 0, 0, 0, 0, [])) rfl).mpr ?_
    exact (rn_step (e := (.invokevirtual 25, 23, 27, 5, 328, 0, 3, [0])) rfl).mpr (And.intro ((rn_ks462 (M := M) hM)) ((k1 c1)))
  ·
    refine (rn_step (e := (.iconst 1, 13, 0, 0, 0, 0, 0, [])) rfl).mpr ?_
    exact (rn_step (e := (.ireturn, 14, 0, 0, 0, 0, 0, [])) rfl).mpr (And.intro (trivial) ((k2 c1)))
set_option maxRecDepth 4000 in
theorem rb_Ju_reasonAgainst_23 {M : rn_M} {Q : rn_Q} {vl0 : rn_V} {vl1 : rn_V} {vl2 : rn_V} {xl3 : Int} {vl4 : rn_V} {vl5 : rn_V} {vl6 : rn_V} {xs0 : Int}   (k1 : (xs0 = 0) → rn_WP 26 34 [vl0, vl1, vl2, rn_I xl3, vl4, rn_I 0, rn_I xl3] [] M Q) (k2 : (¬ (xs0 = 0)) → Q (some (rn_I 2)) M) : rn_WP 26 23 [vl0, vl1, vl2, rn_I xl3, vl4, vl5, vl6] [rn_I xs0] M Q := by
  refine (rn_step (e := (.ifCond .eq 5, 26, 28, 0, 0, 0, 0, [])) rfl).mpr (And.intro (fun c1 => ?_) (fun c1 => ?_))
  ·
    refine (rn_step (e := (.iconst 0, 29, 0, 0, 0, 0, 0, [])) rfl).mpr ?_
    refine (rn_step (e := (.istore 5, 31, 5, 0, 0, 0, 0, [])) rfl).mpr ?_
    refine (rn_step (e := (.iload_n 3, 32, 3, 0, 0, 0, 0, [])) rfl).mpr ?_
    refine (rn_step (e := (.istore 6, 34, 6, 0, 0, 0, 0, [])) rfl).mpr ?_
    exact (k1 c1)
  ·
    refine (rn_step (e := (.iconst 2, 27, 0, 0, 0, 0, 0, [])) rfl).mpr ?_
    exact (rn_step (e := (.ireturn, 28, 0, 0, 0, 0, 0, [])) rfl).mpr (And.intro (trivial) ((k2 c1)))
set_option maxRecDepth 4000 in
theorem rb_Ju_reasonAgainst_34 {M : rn_M} {Q : rn_Q} {rl1 : Option Nat} {al2 : Nat} {xl3 : Int} {vl4 : rn_V} {xl5 : Int} {xl6 : Int} (hM : rn_sh M) (p_al2 : rn_isR al2)  (hr1 : (-2147483648 : Int) ≤ xl3 + (rn_gi M al2 3) ∧ xl3 + (rn_gi M al2 3) ≤ 2147483647) (k1 : (xl6 < xl3 + (rn_gi M al2 3)) → rn_ME 28 [rn_R 462, .inr (.inl (some rl1)), rn_R al2, rn_I xl6] M (fun r M1 => rn_WP 26 53 [rn_R 462, .inr (.inl (some rl1)), rn_R al2, rn_I xl3, vl4, rn_I xl5, rn_I xl6] (r.toList ++ []) M1 Q)) (k2 : (¬ (xl6 < xl3 + (rn_gi M al2 3))) → (xl5 < rn_gi M al2 1) → Q (some (rn_I 0)) M) (k3 : (¬ (xl6 < xl3 + (rn_gi M al2 3))) → (¬ (xl5 < rn_gi M al2 1)) → Q (some (rn_I 4)) M) : rn_WP 26 34 [rn_R 462, .inr (.inl (some rl1)), rn_R al2, rn_I xl3, vl4, rn_I xl5, rn_I xl6] [] M Q := by
  refine (rn_step (e := (.iload 6, 36, 6, 0, 0, 0, 0, [])) rfl).mpr ?_
  refine (rn_step (e := (.iload_n 3, 37, 3, 0, 0, 0, 0, [])) rfl).mpr ?_
  refine (rn_step (e := (.aload_n 2, 38, 2, 0, 0, 0, 0, [])) rfl).mpr ?_
  refine (rn_step (e := (.getfield 15, 41, 5, 3, 107, 0, 6, [])) rfl).mpr (And.intro ((rn_kR (M := M) hM p_al2)) (?_))
  refine (rn_step (e := (.iadd, 42, 0, 0, 0, 0, 0, [])) rfl).mpr (rn_cw hr1.1 hr1.2 ?_)
  refine (rn_step (e := (.if_icmp .ge 41, 45, 83, 0, 0, 0, 0, [])) rfl).mpr (And.intro (fun c1 => ?_) (fun c1 => ?_))
  ·
    refine (rn_step (e := (.aload_n 0, 46, 0, 0, 0, 0, 0, [])) rfl).mpr ?_
    refine (rn_step (e := (.aload_n 1, 47, 1, 0, 0, 0, 0, [])) rfl).mpr ?_
    refine (rn_step (e := (.aload_n 2, 48, 2, 0, 0, 0, 0, [])) rfl).mpr ?_
    refine (rn_step (e := (.iload 6, 50, 6, 0, 0, 0, 0, [])) rfl).mpr ?_
    exact (rn_step (e := (.invokevirtual 29, 53, 28, 4, 333, 0, 3, [0])) rfl).mpr (And.intro ((rn_ks462 (M := M) hM)) ((k1 c1)))
  ·
    refine (rn_step (e := (.iload 5, 85, 5, 0, 0, 0, 0, [])) rfl).mpr ?_
    refine (rn_step (e := (.aload_n 2, 86, 2, 0, 0, 0, 0, [])) rfl).mpr ?_
    refine (rn_step (e := (.getfield 33, 89, 5, 1, 100, 0, 6, [])) rfl).mpr (And.intro ((rn_kR (M := M) hM p_al2)) (?_))
    refine (rn_step (e := (.if_icmp .lt 7, 92, 96, 0, 0, 0, 0, [])) rfl).mpr (And.intro (fun c2 => ?_) (fun c2 => ?_))
    ·
      refine (rn_step (e := (.iconst 0, 97, 0, 0, 0, 0, 0, [])) rfl).mpr ?_
      exact (rn_step (e := (.ireturn, 98, 0, 0, 0, 0, 0, [])) rfl).mpr (And.intro (trivial) ((k2 c1 c2)))
    ·
      refine (rn_step (e := (.iconst 4, 93, 0, 0, 0, 0, 0, [])) rfl).mpr ?_
      refine (rn_step (e := (.goto 4, 96, 97, 0, 0, 0, 0, [])) rfl).mpr ?_
      exact (rn_step (e := (.ireturn, 98, 0, 0, 0, 0, 0, [])) rfl).mpr (And.intro (trivial) ((k3 c1 c2)))
set_option maxRecDepth 4000 in
theorem rb_Ju_reasonAgainst_53 {M : rn_M} {Q : rn_Q} {rl1 : Option Nat} {al2 : Nat} {vl3 : rn_V} {vl4 : rn_V} {xl5 : Int} {xl6 : Int} {xs0 : Int} (hM : rn_sh M) (p_al2 : rn_isR al2)  (k1 : (xs0 < rn_gi M al2 1) → rn_ME 29 [rn_R 462, .inr (.inl (some rl1)), rn_R al2, rn_I xl6] M (fun r M1 => rn_WP 26 72 [rn_R 462, .inr (.inl (some rl1)), rn_R al2, vl3, vl4, rn_I xl5, rn_I xl6] (r.toList ++ [rn_I xl5]) M1 Q)) (k2 : (¬ (xs0 < rn_gi M al2 1)) → Q (some (rn_I 3)) M) : rn_WP 26 53 [rn_R 462, .inr (.inl (some rl1)), rn_R al2, vl3, vl4, rn_I xl5, rn_I xl6] [rn_I xs0] M Q := by
  refine (rn_step (e := (.aload_n 2, 54, 2, 0, 0, 0, 0, [])) rfl).mpr ?_
  refine (rn_step (e := (.getfield 33, 57, 5, 1, 100, 0, 6, [])) rfl).mpr (And.intro ((rn_kR (M := M) hM p_al2)) (?_))
  refine (rn_step (e := (.if_icmp .lt 5, 60, 62, 0, 0, 0, 0, [])) rfl).mpr (And.intro (fun c1 => ?_) (fun c1 => ?_))
  ·
    refine (rn_step (e := (.iload 5, 64, 5, 0, 0, 0, 0, [])) rfl).mpr ?_
    refine (rn_step (e := (.aload_n 0, 65, 0, 0, 0, 0, 0, [])) rfl).mpr ?_
    refine (rn_step (e := (.aload_n 1, 66, 1, 0, 0, 0, 0, [])) rfl).mpr ?_
    refine (rn_step (e := (.aload_n 2, 67, 2, 0, 0, 0, 0, [])) rfl).mpr ?_
    refine (rn_step (e := (.iload 6, 69, 6, 0, 0, 0, 0, [])) rfl).mpr ?_
    exact (rn_step (e := (.invokevirtual 36, 72, 29, 4, 358, 0, 3, [0])) rfl).mpr (And.intro ((rn_ks462 (M := M) hM)) ((k1 c1)))
  ·
    refine (rn_step (e := (.iconst 3, 61, 0, 0, 0, 0, 0, [])) rfl).mpr ?_
    exact (rn_step (e := (.ireturn, 62, 0, 0, 0, 0, 0, [])) rfl).mpr (And.intro (trivial) ((k2 c1)))
set_option maxRecDepth 4000 in
theorem rb_Ju_reasonAgainst_72 {M : rn_M} {Q : rn_Q} {vl0 : rn_V} {vl1 : rn_V} {vl2 : rn_V} {vl3 : rn_V} {vl4 : rn_V} {vl5 : rn_V} {xl6 : Int} {xs0 : Int} {xs1 : Int}   (hr1 : (-2147483648 : Int) ≤ xl6 + 1 ∧ xl6 + 1 ≤ 2147483647) (k1 : rn_WP 26 34 [vl0, vl1, vl2, vl3, vl4, rn_I (max xs1 xs0), rn_I (xl6 + 1)] [] M Q) : rn_WP 26 72 [vl0, vl1, vl2, vl3, vl4, vl5, rn_I xl6] [rn_I xs0, rn_I xs1] M Q := by
  refine (rn_step (e := (.invokestatic 39, 75, 205, 2, 370, 5, 0, [0])) rfl).mpr ?_
  refine (rn_step (e := (.istore 5, 77, 5, 0, 0, 0, 0, [])) rfl).mpr ?_
  refine (rn_step (e := (.iinc 6 1, 80, 6, 0, 0, 0, 0, [])) rfl).mpr (rn_ci hr1.1 hr1.2 ?_)
  refine (rn_step (e := (.goto (-46), 83, 34, 0, 0, 0, 0, [])) rfl).mpr ?_
  exact k1
theorem re_Ju_isCrowded {M : rn_M} {Q : rn_Q} {v0 v1 v2 v3 v4 : rn_V} (h : rn_WP 27 0 [v0, v1, v2, v3, v4, rn_J, rn_J] [] M Q) : rn_ME 27 [v0, v1, v2, v3, v4] M Q := h
set_option maxRecDepth 4000 in
theorem rb_Ju_isCrowded_0 {M : rn_M} {Q : rn_Q} {vl0 : rn_V} {vl1 : rn_V} {vl2 : rn_V} {vl3 : rn_V} {vl4 : rn_V} {vl5 : rn_V} {vl6 : rn_V}   (k1 : rn_WP 27 3 [vl0, vl1, vl2, vl3, vl4, rn_I 0, vl6] [] M Q) : rn_WP 27 0 [vl0, vl1, vl2, vl3, vl4, vl5, vl6] [] M Q := by
  refine (rn_step (e := (.iconst 0, 1, 0, 0, 0, 0, 0, [])) rfl).mpr ?_
  refine (rn_step (e := (.istore 5, 3, 5, 0, 0, 0, 0, [])) rfl).mpr ?_
  exact k1
set_option maxRecDepth 4000 in
theorem rb_Ju_isCrowded_3 {M : rn_M} {Q : rn_Q} {vl0 : rn_V} {al1 : Nat} {vl2 : rn_V} {vl3 : rn_V} {vl4 : rn_V} {xl5 : Int} {vl6 : rn_V} (hM : rn_sh M) (p_al1 : rn_isB al1)  (k1 : (xl5 < rn_gi M al1 2) → rn_ME 7 [rn_R al1, rn_I xl5] M (fun r M1 => rn_WP 27 18 [vl0, rn_R al1, vl2, vl3, vl4, rn_I xl5, vl6] (r.toList ++ []) M1 Q)) (k2 : (¬ (xl5 < rn_gi M al1 2)) → Q (some (rn_I 0)) M) : rn_WP 27 3 [vl0, rn_R al1, vl2, vl3, vl4, rn_I xl5, vl6] [] M Q := by
  refine (rn_step (e := (.iload 5, 5, 5, 0, 0, 0, 0, [])) rfl).mpr ?_
  refine (rn_step (e := (.aload_n 1, 6, 1, 0, 0, 0, 0, [])) rfl).mpr ?_
  refine (rn_step (e := (.getfield 45, 9, 0, 2, 189, 0, 1, [])) rfl).mpr (And.intro ((rn_kB (M := M) hM p_al1)) (?_))
  refine (rn_step (e := (.if_icmp .ge 68, 12, 77, 0, 0, 0, 0, [])) rfl).mpr (And.intro (fun c1 => ?_) (fun c1 => ?_))
  ·
    refine (rn_step (e := (.aload_n 1, 13, 1, 0, 0, 0, 0, [])) rfl).mpr ?_
    refine (rn_step (e := (.iload 5, 15, 5, 0, 0, 0, 0, [])) rfl).mpr ?_
    exact (rn_step (e := (.invokevirtual 50, 18, 7, 2, 319, 0, 1, [0])) rfl).mpr (And.intro ((rn_kB (M := M) hM p_al1)) ((k1 c1)))
  ·
    refine (rn_step (e := (.iconst 0, 78, 0, 0, 0, 0, 0, [])) rfl).mpr ?_
    exact (rn_step (e := (.ireturn, 79, 0, 0, 0, 1, 0, [])) rfl).mpr (And.intro ((Or.inl rfl)) ((k2 c1)))
set_option maxRecDepth 4000 in
theorem rb_Ju_isCrowded_18n {M : rn_M} {Q : rn_Q} {vl0 : rn_V} {vl1 : rn_V} {vl2 : rn_V} {vl3 : rn_V} {vl4 : rn_V} {xl5 : Int} {vl6 : rn_V}   (hr1 : (-2147483648 : Int) ≤ xl5 + 1 ∧ xl5 + 1 ≤ 2147483647) (k1 : rn_WP 27 3 [vl0, vl1, vl2, vl3, vl4, rn_I (xl5 + 1), rn_N] [] M Q) : rn_WP 27 18 [vl0, vl1, vl2, vl3, vl4, rn_I xl5, vl6] [rn_N] M Q := by
  refine (rn_step (e := (.astore 6, 20, 6, 0, 0, 0, 0, [])) rfl).mpr ?_
  refine (rn_step (e := (.aload 6, 22, 6, 0, 0, 0, 0, [])) rfl).mpr ?_
  refine (rn_step (e := (.ifnull 49, 25, 71, 0, 0, 0, 0, [])) rfl).mpr ?_
  refine (rn_step (e := (.iinc 5 1, 74, 5, 0, 0, 0, 0, [])) rfl).mpr (rn_ci hr1.1 hr1.2 ?_)
  refine (rn_step (e := (.goto (-71), 77, 3, 0, 0, 0, 0, [])) rfl).mpr ?_
  exact k1
set_option maxRecDepth 4000 in
theorem rb_Ju_isCrowded_18s {M : rn_M} {Q : rn_Q} {vl0 : rn_V} {al1 : Nat} {al2 : Nat} {xl3 : Int} {xl4 : Int} {xl5 : Int} {vl6 : rn_V} {as0 : Nat} (hM : rn_sh M) (p_as0 : rn_isL as0) (p_al2 : rn_isR al2) (p_al1 : rn_isB al1)  (hr1 : (xl5 = xl4) → (-2147483648 : Int) ≤ xl5 + 1 ∧ xl5 + 1 ≤ 2147483647) (hr2 : (¬ (xl5 = xl4)) → rn_gr M as0 0 = some (rn_go M as0 0) ∧ rn_isR (rn_go M as0 0)) (hr3 : (¬ (xl5 = xl4)) → (rn_gi M (rn_go M as0 0) 0 = rn_gi M al2 0) → (-2147483648 : Int) ≤ (rn_gi M as0 1) - xl3 ∧ (rn_gi M as0 1) - xl3 ≤ 2147483647 ∧ (-2147483648 : Int) ≤ max ((rn_gi M as0 1) - xl3) (-((rn_gi M as0 1) - xl3)) ∧ max ((rn_gi M as0 1) - xl3) (-((rn_gi M as0 1) - xl3)) ≤ 2147483647 ∧ (-2147483648 : Int) ≤ rn_gi M al2 3 + (rn_gi M al1 3) ∧ rn_gi M al2 3 + (rn_gi M al1 3) ≤ 2147483647) (hr4 : (¬ (xl5 = xl4)) → (rn_gi M (rn_go M as0 0) 0 = rn_gi M al2 0) → (¬ (max ((rn_gi M as0 1) - xl3) (-((rn_gi M as0 1) - xl3)) < rn_gi M al2 3 + (rn_gi M al1 3))) → (-2147483648 : Int) ≤ xl5 + 1 ∧ xl5 + 1 ≤ 2147483647) (hr5 : (¬ (xl5 = xl4)) → (¬ (rn_gi M (rn_go M as0 0) 0 = rn_gi M al2 0)) → (-2147483648 : Int) ≤ xl5 + 1 ∧ xl5 + 1 ≤ 2147483647) (k1 : (xl5 = xl4) → rn_WP 27 3 [vl0, rn_R al1, rn_R al2, rn_I xl3, rn_I xl4, rn_I (xl5 + 1), rn_R as0] [] M Q) (k2 : (¬ (xl5 = xl4)) → (rn_gi M (rn_go M as0 0) 0 = rn_gi M al2 0) → (max ((rn_gi M as0 1) - xl3) (-((rn_gi M as0 1) - xl3)) < rn_gi M al2 3 + (rn_gi M al1 3)) → Q (some (rn_I 1)) M) (k3 : (¬ (xl5 = xl4)) → (rn_gi M (rn_go M as0 0) 0 = rn_gi M al2 0) → (¬ (max ((rn_gi M as0 1) - xl3) (-((rn_gi M as0 1) - xl3)) < rn_gi M al2 3 + (rn_gi M al1 3))) → rn_WP 27 3 [vl0, rn_R al1, rn_R al2, rn_I xl3, rn_I xl4, rn_I (xl5 + 1), rn_R as0] [] M Q) (k4 : (¬ (xl5 = xl4)) → (¬ (rn_gi M (rn_go M as0 0) 0 = rn_gi M al2 0)) → rn_WP 27 3 [vl0, rn_R al1, rn_R al2, rn_I xl3, rn_I xl4, rn_I (xl5 + 1), rn_R as0] [] M Q) : rn_WP 27 18 [vl0, rn_R al1, rn_R al2, rn_I xl3, rn_I xl4, rn_I xl5, vl6] [rn_R as0] M Q := by
  refine (rn_step (e := (.astore 6, 20, 6, 0, 0, 0, 0, [])) rfl).mpr ?_
  refine (rn_step (e := (.aload 6, 22, 6, 0, 0, 0, 0, [])) rfl).mpr ?_
  refine (rn_step (e := (.ifnull 49, 25, 71, 0, 0, 0, 0, [])) rfl).mpr ?_
  refine (rn_step (e := (.iload 5, 27, 5, 0, 0, 0, 0, [])) rfl).mpr ?_
  refine (rn_step (e := (.iload 4, 29, 4, 0, 0, 0, 0, [])) rfl).mpr ?_
  refine (rn_step (e := (.if_icmp .eq 42, 32, 71, 0, 0, 0, 0, [])) rfl).mpr (And.intro (fun c1 => ?_) (fun c1 => ?_))
  ·
    refine (rn_step (e := (.iinc 5 1, 74, 5, 0, 0, 0, 0, [])) rfl).mpr (rn_ci (hr1 c1).1 (hr1 c1).2 ?_)
    refine (rn_step (e := (.goto (-71), 77, 3, 0, 0, 0, 0, [])) rfl).mpr ?_
    exact (k1 c1)
  ·
    refine (rn_step (e := (.aload 6, 34, 6, 0, 0, 0, 0, [])) rfl).mpr ?_
    refine (rn_step (e := (.getfield 54, 37, 3, 0, 170, 2, 4, [])) rfl).mpr (And.intro ((rn_kL (M := M) hM p_as0)) (rn_cg (hr2 c1).1 ?_))
    refine (rn_step (e := (.getfield 60, 40, 5, 0, 96, 0, 6, [])) rfl).mpr (And.intro ((rn_kR (M := M) hM (hr2 c1).2)) (?_))
    refine (rn_step (e := (.aload_n 2, 41, 2, 0, 0, 0, 0, [])) rfl).mpr ?_
    refine (rn_step (e := (.getfield 60, 44, 5, 0, 96, 0, 6, [])) rfl).mpr (And.intro ((rn_kR (M := M) hM p_al2)) (?_))
    refine (rn_step (e := (.if_icmp .ne 27, 47, 71, 0, 0, 0, 0, [])) rfl).mpr (And.intro (fun c2 => ?_) (fun c2 => ?_))
    ·
      refine (rn_step (e := (.aload 6, 49, 6, 0, 0, 0, 0, [])) rfl).mpr ?_
      refine (rn_step (e := (.getfield 63, 52, 3, 1, 174, 0, 4, [])) rfl).mpr (And.intro ((rn_kL (M := M) hM p_as0)) (?_))
      refine (rn_step (e := (.iload_n 3, 53, 3, 0, 0, 0, 0, [])) rfl).mpr ?_
      refine (rn_step (e := (.isub, 54, 0, 0, 0, 0, 0, [])) rfl).mpr (rn_cw (hr3 c1 c2).1 (hr3 c1 c2).2.1 ?_)
      refine (rn_step (e := (.invokestatic 66, 57, 204, 1, 332, 7, 0, [0])) rfl).mpr (rn_cw (hr3 c1 c2).2.2.1 (hr3 c1 c2).2.2.2.1 ?_)
      refine (rn_step (e := (.aload_n 2, 58, 2, 0, 0, 0, 0, [])) rfl).mpr ?_
      refine (rn_step (e := (.getfield 15, 61, 5, 3, 107, 0, 6, [])) rfl).mpr (And.intro ((rn_kR (M := M) hM p_al2)) (?_))
      refine (rn_step (e := (.aload_n 1, 62, 1, 0, 0, 0, 0, [])) rfl).mpr ?_
      refine (rn_step (e := (.getfield 69, 65, 0, 3, 192, 0, 1, [])) rfl).mpr (And.intro ((rn_kB (M := M) hM p_al1)) (?_))
      refine (rn_step (e := (.iadd, 66, 0, 0, 0, 0, 0, [])) rfl).mpr (rn_cw (hr3 c1 c2).2.2.2.2.1 (hr3 c1 c2).2.2.2.2.2 ?_)
      refine (rn_step (e := (.if_icmp .ge 5, 69, 71, 0, 0, 0, 0, [])) rfl).mpr (And.intro (fun c3 => ?_) (fun c3 => ?_))
      ·
        refine (rn_step (e := (.iconst 1, 70, 0, 0, 0, 0, 0, [])) rfl).mpr ?_
        exact (rn_step (e := (.ireturn, 71, 0, 0, 0, 1, 0, [])) rfl).mpr (And.intro ((Or.inr rfl)) ((k2 c1 c2 c3)))
      ·
        refine (rn_step (e := (.iinc 5 1, 74, 5, 0, 0, 0, 0, [])) rfl).mpr (rn_ci (hr4 c1 c2 c3).1 (hr4 c1 c2 c3).2 ?_)
        refine (rn_step (e := (.goto (-71), 77, 3, 0, 0, 0, 0, [])) rfl).mpr ?_
        exact (k3 c1 c2 c3)
    ·
      refine (rn_step (e := (.iinc 5 1, 74, 5, 0, 0, 0, 0, [])) rfl).mpr (rn_ci (hr5 c1 c2).1 (hr5 c1 c2).2 ?_)
      refine (rn_step (e := (.goto (-71), 77, 3, 0, 0, 0, 0, [])) rfl).mpr ?_
      exact (k4 c1 c2)
theorem re_Ju_townRankAt {M : rn_M} {Q : rn_Q} {v0 v1 v2 v3 : rn_V} (h : rn_WP 28 0 [v0, v1, v2, v3, rn_J, rn_J, rn_J] [] M Q) : rn_ME 28 [v0, v1, v2, v3] M Q := h
set_option maxRecDepth 4000 in
theorem rb_Ju_townRankAt_0 {M : rn_M} {Q : rn_Q} {vl0 : rn_V} {vl1 : rn_V} {vl2 : rn_V} {vl3 : rn_V} {vl4 : rn_V} {vl5 : rn_V} {vl6 : rn_V}   (k1 : rn_WP 28 6 [vl0, vl1, vl2, vl3, rn_I 0, rn_I 0, vl6] [] M Q) : rn_WP 28 0 [vl0, vl1, vl2, vl3, vl4, vl5, vl6] [] M Q := by
  refine (rn_step (e := (.iconst 0, 1, 0, 0, 0, 0, 0, [])) rfl).mpr ?_
  refine (rn_step (e := (.istore 4, 3, 4, 0, 0, 0, 0, [])) rfl).mpr ?_
  refine (rn_step (e := (.iconst 0, 4, 0, 0, 0, 0, 0, [])) rfl).mpr ?_
  refine (rn_step (e := (.istore 5, 6, 5, 0, 0, 0, 0, [])) rfl).mpr ?_
  exact k1
set_option maxRecDepth 4000 in
theorem rb_Ju_townRankAt_6 {M : rn_M} {Q : rn_Q} {vl0 : rn_V} {al1 : Nat} {vl2 : rn_V} {vl3 : rn_V} {xl4 : Int} {xl5 : Int} {vl6 : rn_V} (hM : rn_sh M) (p_al1 : rn_isB al1)  (k1 : (xl5 < rn_gi M al1 1) → rn_ME 6 [rn_R al1, rn_I xl5] M (fun r M1 => rn_WP 28 21 [vl0, rn_R al1, vl2, vl3, rn_I xl4, rn_I xl5, vl6] (r.toList ++ []) M1 Q)) (k2 : (¬ (xl5 < rn_gi M al1 1)) → Q (some (rn_I xl4)) M) : rn_WP 28 6 [vl0, rn_R al1, vl2, vl3, rn_I xl4, rn_I xl5, vl6] [] M Q := by
  refine (rn_step (e := (.iload 5, 8, 5, 0, 0, 0, 0, [])) rfl).mpr ?_
  refine (rn_step (e := (.aload_n 1, 9, 1, 0, 0, 0, 0, [])) rfl).mpr ?_
  refine (rn_step (e := (.getfield 72, 12, 0, 1, 186, 0, 1, [])) rfl).mpr (And.intro ((rn_kB (M := M) hM p_al1)) (?_))
  refine (rn_step (e := (.if_icmp .ge 61, 15, 73, 0, 0, 0, 0, [])) rfl).mpr (And.intro (fun c1 => ?_) (fun c1 => ?_))
  ·
    refine (rn_step (e := (.aload_n 1, 16, 1, 0, 0, 0, 0, [])) rfl).mpr ?_
    refine (rn_step (e := (.iload 5, 18, 5, 0, 0, 0, 0, [])) rfl).mpr ?_
    exact (rn_step (e := (.invokevirtual 75, 21, 6, 2, 337, 0, 1, [0])) rfl).mpr (And.intro ((rn_kB (M := M) hM p_al1)) ((k1 c1)))
  ·
    refine (rn_step (e := (.iload 4, 75, 4, 0, 0, 0, 0, [])) rfl).mpr ?_
    exact (rn_step (e := (.ireturn, 76, 0, 0, 0, 0, 0, [])) rfl).mpr (And.intro (trivial) ((k2 c1)))
set_option maxRecDepth 4000 in
theorem rb_Ju_townRankAt_21n {M : rn_M} {Q : rn_Q} {vl0 : rn_V} {vl1 : rn_V} {vl2 : rn_V} {vl3 : rn_V} {vl4 : rn_V} {xl5 : Int} {vl6 : rn_V}   (hr1 : (-2147483648 : Int) ≤ xl5 + 1 ∧ xl5 + 1 ≤ 2147483647) (k1 : rn_WP 28 6 [vl0, vl1, vl2, vl3, vl4, rn_I (xl5 + 1), rn_N] [] M Q) : rn_WP 28 21 [vl0, vl1, vl2, vl3, vl4, rn_I xl5, vl6] [rn_N] M Q := by
  refine (rn_step (e := (.astore 6, 23, 6, 0, 0, 0, 0, [])) rfl).mpr ?_
  refine (rn_step (e := (.aload 6, 25, 6, 0, 0, 0, 0, [])) rfl).mpr ?_
  refine (rn_step (e := (.ifnull 42, 28, 67, 0, 0, 0, 0, [])) rfl).mpr ?_
  refine (rn_step (e := (.iinc 5 1, 70, 5, 0, 0, 0, 0, [])) rfl).mpr (rn_ci hr1.1 hr1.2 ?_)
  refine (rn_step (e := (.goto (-64), 73, 6, 0, 0, 0, 0, [])) rfl).mpr ?_
  exact k1
set_option maxRecDepth 4000 in
theorem rb_Ju_townRankAt_21s {M : rn_M} {Q : rn_Q} {vl0 : rn_V} {vl1 : rn_V} {al2 : Nat} {xl3 : Int} {xl4 : Int} {xl5 : Int} {vl6 : rn_V} {as0 : Nat} (hM : rn_sh M) (p_as0 : rn_isT as0) (p_al2 : rn_isR al2)  (hr1 : (rn_gi M as0 4 ≤ xl4) → (-2147483648 : Int) ≤ xl5 + 1 ∧ xl5 + 1 ≤ 2147483647) (hr2 : (¬ (rn_gi M as0 4 ≤ xl4)) → ((0 : Int) ≤ xl3 ∧ xl3 ≤ rn_gi M al2 4) ∧ rn_gi M al2 4 ≤ 60 ∧ rn_tk M as0 ∧ ((-1000 : Int) ≤ rn_gi M al2 2 ∧ (rn_gi M al2 2 : Int) ≤ 1000)) (hr3 : (¬ (rn_gi M as0 4 ≤ xl4)) → (¬ (rn_tn2 M as0 (rn_gi M (al2 + 3) (xl3).toNat) (rn_gi M (al2 + 4) (xl3).toNat) (rn_gi M al2 2))) → (-2147483648 : Int) ≤ xl5 + 1 ∧ xl5 + 1 ≤ 2147483647) (hr4 : (¬ (rn_gi M as0 4 ≤ xl4)) → (rn_tn2 M as0 (rn_gi M (al2 + 3) (xl3).toNat) (rn_gi M (al2 + 4) (xl3).toNat) (rn_gi M al2 2)) → (-2147483648 : Int) ≤ xl5 + 1 ∧ xl5 + 1 ≤ 2147483647) (k1 : (rn_gi M as0 4 ≤ xl4) → rn_WP 28 6 [vl0, vl1, rn_R al2, rn_I xl3, rn_I xl4, rn_I (xl5 + 1), rn_R as0] [] M Q) (k2 : (¬ (rn_gi M as0 4 ≤ xl4)) → (¬ (rn_tn2 M as0 (rn_gi M (al2 + 3) (xl3).toNat) (rn_gi M (al2 + 4) (xl3).toNat) (rn_gi M al2 2))) → rn_WP 28 6 [vl0, vl1, rn_R al2, rn_I xl3, rn_I xl4, rn_I (xl5 + 1), rn_R as0] [] M Q) (k3 : (¬ (rn_gi M as0 4 ≤ xl4)) → (rn_tn2 M as0 (rn_gi M (al2 + 3) (xl3).toNat) (rn_gi M (al2 + 4) (xl3).toNat) (rn_gi M al2 2)) → rn_WP 28 6 [vl0, vl1, rn_R al2, rn_I xl3, rn_I (rn_gi M as0 4), rn_I (xl5 + 1), rn_R as0] [] M Q) : rn_WP 28 21 [vl0, vl1, rn_R al2, rn_I xl3, rn_I xl4, rn_I xl5, vl6] [rn_R as0] M Q := by
  refine (rn_step (e := (.astore 6, 23, 6, 0, 0, 0, 0, [])) rfl).mpr ?_
  refine (rn_step (e := (.aload 6, 25, 6, 0, 0, 0, 0, [])) rfl).mpr ?_
  refine (rn_step (e := (.ifnull 42, 28, 67, 0, 0, 0, 0, [])) rfl).mpr ?_
  refine (rn_step (e := (.aload 6, 30, 6, 0, 0, 0, 0, [])) rfl).mpr ?_
  refine (rn_step (e := (.getfield 79, 33, 8, 4, 151, 0, 9, [])) rfl).mpr (And.intro ((rn_kT (M := M) hM p_as0)) (?_))
  refine (rn_step (e := (.iload 4, 35, 4, 0, 0, 0, 0, [])) rfl).mpr ?_
  refine (rn_step (e := (.if_icmp .le 32, 38, 67, 0, 0, 0, 0, [])) rfl).mpr (And.intro (fun c1 => ?_) (fun c1 => ?_))
  ·
    refine (rn_step (e := (.iinc 5 1, 70, 5, 0, 0, 0, 0, [])) rfl).mpr (rn_ci (hr1 c1).1 (hr1 c1).2 ?_)
    refine (rn_step (e := (.goto (-64), 73, 6, 0, 0, 0, 0, [])) rfl).mpr ?_
    exact (k1 c1)
  ·
    refine (rn_step (e := (.aload 6, 40, 6, 0, 0, 0, 0, [])) rfl).mpr ?_
    refine (rn_step (e := (.aload_n 2, 41, 2, 0, 0, 0, 0, [])) rfl).mpr ?_
    refine (rn_step (e := (.iload_n 3, 42, 3, 0, 0, 0, 0, [])) rfl).mpr ?_
    refine (rn_step (e := (.invokevirtual 82, 45, 65, 2, 341, 0, 6, [0])) rfl).mpr (And.intro ((rn_kR (M := M) hM p_al2)) ((rc_Ri_columnAt hM p_al2 ((hr2 c1).1) ((hr2 c1).2.1) ?_)))
    refine (rn_step (e := (.aload_n 2, 46, 2, 0, 0, 0, 0, [])) rfl).mpr ?_
    refine (rn_step (e := (.iload_n 3, 47, 3, 0, 0, 0, 0, [])) rfl).mpr ?_
    refine (rn_step (e := (.invokevirtual 85, 50, 66, 2, 349, 0, 6, [0])) rfl).mpr (And.intro ((rn_kR (M := M) hM p_al2)) ((rc_Ri_rowAt hM p_al2 ((hr2 c1).1) ((hr2 c1).2.1) ?_)))
    refine (rn_step (e := (.aload_n 2, 51, 2, 0, 0, 0, 0, [])) rfl).mpr ?_
    refine (rn_step (e := (.getfield 88, 54, 5, 2, 105, 0, 6, [])) rfl).mpr (And.intro ((rn_kR (M := M) hM p_al2)) (?_))
    refine (rn_step (e := (.invokevirtual 91, 57, 89, 4, 353, 0, 9, [0])) rfl).mpr (And.intro ((rn_kT (M := M) hM p_as0)) ((rc_To_isNear hM p_as0 ((hr2 c1).2.2.1) ((hr2 c1).2.2.2) ?_)))
    refine (rn_step (e := (.ifCond .eq 10, 60, 67, 0, 0, 0, 0, [])) rfl).mpr (And.intro (fun q => ?_) (fun q => ?_))
    · have c2 := rn_b0 q
      refine (rn_step (e := (.iinc 5 1, 70, 5, 0, 0, 0, 0, [])) rfl).mpr (rn_ci (hr3 c1 c2).1 (hr3 c1 c2).2 ?_)
      refine (rn_step (e := (.goto (-64), 73, 6, 0, 0, 0, 0, [])) rfl).mpr ?_
      exact (k2 c1 c2)
    · have c2 := rn_b1 q
      refine (rn_step (e := (.aload 6, 62, 6, 0, 0, 0, 0, [])) rfl).mpr ?_
      refine (rn_step (e := (.getfield 79, 65, 8, 4, 151, 0, 9, [])) rfl).mpr (And.intro ((rn_kT (M := M) hM p_as0)) (?_))
      refine (rn_step (e := (.istore 4, 67, 4, 0, 0, 0, 0, [])) rfl).mpr ?_
      refine (rn_step (e := (.iinc 5 1, 70, 5, 0, 0, 0, 0, [])) rfl).mpr (rn_ci (hr4 c1 c2).1 (hr4 c1 c2).2 ?_)
      refine (rn_step (e := (.goto (-64), 73, 6, 0, 0, 0, 0, [])) rfl).mpr ?_
      exact (k3 c1 c2)
theorem re_Ju_labelRankAt {M : rn_M} {Q : rn_Q} {v0 v1 v2 v3 : rn_V} (h : rn_WP 29 0 [v0, v1, v2, v3, rn_J, rn_J, rn_J, rn_J, rn_J] [] M Q) : rn_ME 29 [v0, v1, v2, v3] M Q := h
set_option maxRecDepth 4000 in
theorem rb_Ju_labelRankAt_0 {M : rn_M} {Q : rn_Q} {vl0 : rn_V} {vl1 : rn_V} {al2 : Nat} {xl3 : Int} {vl4 : rn_V} {vl5 : rn_V} {vl6 : rn_V} {vl7 : rn_V} {vl8 : rn_V} (hM : rn_sh M) (p_al2 : rn_isR al2)  (hr1 : ((0 : Int) ≤ xl3 ∧ xl3 ≤ rn_gi M al2 4) ∧ rn_gi M al2 4 ≤ 60) (k1 : rn_WP 29 20 [vl0, vl1, rn_R al2, rn_I xl3, rn_I 0, rn_I (rn_gi M (al2 + 3) (xl3).toNat), rn_I (rn_gi M (al2 + 4) (xl3).toNat), rn_I 0, vl8] [] M Q) : rn_WP 29 0 [vl0, vl1, rn_R al2, rn_I xl3, vl4, vl5, vl6, vl7, vl8] [] M Q := by
  refine (rn_step (e := (.iconst 0, 1, 0, 0, 0, 0, 0, [])) rfl).mpr ?_
  refine (rn_step (e := (.istore 4, 3, 4, 0, 0, 0, 0, [])) rfl).mpr ?_
  refine (rn_step (e := (.aload_n 2, 4, 2, 0, 0, 0, 0, [])) rfl).mpr ?_
  refine (rn_step (e := (.iload_n 3, 5, 3, 0, 0, 0, 0, [])) rfl).mpr ?_
  refine (rn_step (e := (.invokevirtual 82, 8, 65, 2, 341, 0, 6, [0])) rfl).mpr (And.intro ((rn_kR (M := M) hM p_al2)) ((rc_Ri_columnAt hM p_al2 (hr1.1) (hr1.2) ?_)))
  refine (rn_step (e := (.istore 5, 10, 5, 0, 0, 0, 0, [])) rfl).mpr ?_
  refine (rn_step (e := (.aload_n 2, 11, 2, 0, 0, 0, 0, [])) rfl).mpr ?_
  refine (rn_step (e := (.iload_n 3, 12, 3, 0, 0, 0, 0, [])) rfl).mpr ?_
  refine (rn_step (e := (.invokevirtual 85, 15, 66, 2, 349, 0, 6, [0])) rfl).mpr (And.intro ((rn_kR (M := M) hM p_al2)) ((rc_Ri_rowAt hM p_al2 (hr1.1) (hr1.2) ?_)))
  refine (rn_step (e := (.istore 6, 17, 6, 0, 0, 0, 0, [])) rfl).mpr ?_
  refine (rn_step (e := (.iconst 0, 18, 0, 0, 0, 0, 0, [])) rfl).mpr ?_
  refine (rn_step (e := (.istore 7, 20, 7, 0, 0, 0, 0, [])) rfl).mpr ?_
  exact k1
set_option maxRecDepth 4000 in
theorem rb_Ju_labelRankAt_20 {M : rn_M} {Q : rn_Q} {vl0 : rn_V} {al1 : Nat} {vl2 : rn_V} {vl3 : rn_V} {xl4 : Int} {vl5 : rn_V} {vl6 : rn_V} {xl7 : Int} {vl8 : rn_V} (hM : rn_sh M) (p_al1 : rn_isB al1)  (k1 : (xl7 < rn_gi M al1 2) → rn_ME 7 [rn_R al1, rn_I xl7] M (fun r M1 => rn_WP 29 35 [vl0, rn_R al1, vl2, vl3, rn_I xl4, vl5, vl6, rn_I xl7, vl8] (r.toList ++ []) M1 Q)) (k2 : (¬ (xl7 < rn_gi M al1 2)) → Q (some (rn_I xl4)) M) : rn_WP 29 20 [vl0, rn_R al1, vl2, vl3, rn_I xl4, vl5, vl6, rn_I xl7, vl8] [] M Q := by
  refine (rn_step (e := (.iload 7, 22, 7, 0, 0, 0, 0, [])) rfl).mpr ?_
  refine (rn_step (e := (.aload_n 1, 23, 1, 0, 0, 0, 0, [])) rfl).mpr ?_
  refine (rn_step (e := (.getfield 45, 26, 0, 2, 189, 0, 1, [])) rfl).mpr (And.intro ((rn_kB (M := M) hM p_al1)) (?_))
  refine (rn_step (e := (.if_icmp .ge 93, 29, 119, 0, 0, 0, 0, [])) rfl).mpr (And.intro (fun c1 => ?_) (fun c1 => ?_))
  ·
    refine (rn_step (e := (.aload_n 1, 30, 1, 0, 0, 0, 0, [])) rfl).mpr ?_
    refine (rn_step (e := (.iload 7, 32, 7, 0, 0, 0, 0, [])) rfl).mpr ?_
    exact (rn_step (e := (.invokevirtual 50, 35, 7, 2, 319, 0, 1, [0])) rfl).mpr (And.intro ((rn_kB (M := M) hM p_al1)) ((k1 c1)))
  ·
    refine (rn_step (e := (.iload 4, 121, 4, 0, 0, 0, 0, [])) rfl).mpr ?_
    exact (rn_step (e := (.ireturn, 122, 0, 0, 0, 0, 0, [])) rfl).mpr (And.intro (trivial) ((k2 c1)))
set_option maxRecDepth 4000 in
theorem rb_Ju_labelRankAt_35n {M : rn_M} {Q : rn_Q} {vl0 : rn_V} {vl1 : rn_V} {vl2 : rn_V} {vl3 : rn_V} {vl4 : rn_V} {vl5 : rn_V} {vl6 : rn_V} {xl7 : Int} {vl8 : rn_V}   (hr1 : (-2147483648 : Int) ≤ xl7 + 1 ∧ xl7 + 1 ≤ 2147483647) (k1 : rn_WP 29 20 [vl0, vl1, vl2, vl3, vl4, vl5, vl6, rn_I (xl7 + 1), rn_N] [] M Q) : rn_WP 29 35 [vl0, vl1, vl2, vl3, vl4, vl5, vl6, rn_I xl7, vl8] [rn_N] M Q := by
  refine (rn_step (e := (.astore 8, 37, 8, 0, 0, 0, 0, [])) rfl).mpr ?_
  refine (rn_step (e := (.aload 8, 39, 8, 0, 0, 0, 0, [])) rfl).mpr ?_
  refine (rn_step (e := (.ifnull 74, 42, 113, 0, 0, 0, 0, [])) rfl).mpr ?_
  refine (rn_step (e := (.iinc 7 1, 116, 7, 0, 0, 0, 0, [])) rfl).mpr (rn_ci hr1.1 hr1.2 ?_)
  refine (rn_step (e := (.goto (-96), 119, 20, 0, 0, 0, 0, [])) rfl).mpr ?_
  exact k1
set_option maxRecDepth 4000 in
theorem rb_Ju_labelRankAt_35s {M : rn_M} {Q : rn_Q} {vl0 : rn_V} {vl1 : rn_V} {al2 : Nat} {vl3 : rn_V} {xl4 : Int} {xl5 : Int} {xl6 : Int} {xl7 : Int} {vl8 : rn_V} {as0 : Nat} (hM : rn_sh M) (p_as0 : rn_isL as0) (p_al2 : rn_isR al2)  (hr1 : rn_gr M as0 0 = some (rn_go M as0 0) ∧ rn_isR (rn_go M as0 0)) (hr2 : (rn_gi M (rn_go M as0 0) 0 = rn_gi M al2 0) → (-2147483648 : Int) ≤ xl7 + 1 ∧ xl7 + 1 ≤ 2147483647) (hr3 : (¬ (rn_gi M (rn_go M as0 0) 0 = rn_gi M al2 0)) → rn_gr M as0 0 = some (rn_go M as0 0) ∧ rn_isR (rn_go M as0 0)) (hr4 : (¬ (rn_gi M (rn_go M as0 0) 0 = rn_gi M al2 0)) → (rn_gi M (rn_go M as0 0) 1 ≤ xl4) → (-2147483648 : Int) ≤ xl7 + 1 ∧ xl7 + 1 ≤ 2147483647) (hr5 : (¬ (rn_gi M (rn_go M as0 0) 0 = rn_gi M al2 0)) → (¬ (rn_gi M (rn_go M as0 0) 1 ≤ xl4)) → rn_gr M as0 0 = some (rn_go M as0 0) ∧ rn_isR (rn_go M as0 0) ∧ (-2147483648 : Int) ≤ rn_gi M al2 2 + (rn_gi M (rn_go M as0 0) 2) ∧ rn_gi M al2 2 + (rn_gi M (rn_go M as0 0) 2) ≤ 2147483647) (k1 : (rn_gi M (rn_go M as0 0) 0 = rn_gi M al2 0) → rn_WP 29 20 [vl0, vl1, rn_R al2, vl3, rn_I xl4, rn_I xl5, rn_I xl6, rn_I (xl7 + 1), rn_R as0] [] M Q) (k2 : (¬ (rn_gi M (rn_go M as0 0) 0 = rn_gi M al2 0)) → (rn_gi M (rn_go M as0 0) 1 ≤ xl4) → rn_WP 29 20 [vl0, vl1, rn_R al2, vl3, rn_I xl4, rn_I xl5, rn_I xl6, rn_I (xl7 + 1), rn_R as0] [] M Q) (k3 : (¬ (rn_gi M (rn_go M as0 0) 0 = rn_gi M al2 0)) → (¬ (rn_gi M (rn_go M as0 0) 1 ≤ xl4)) → rn_ME 75 [rn_R (rn_go M as0 0), rn_I (rn_gi M as0 1), rn_I xl5, rn_I xl6, rn_I (rn_gi M al2 2 + (rn_gi M (rn_go M as0 0) 2))] M (fun r M1 => rn_WP 29 100 [vl0, vl1, rn_R al2, vl3, rn_I xl4, rn_I xl5, rn_I xl6, rn_I xl7, rn_R as0] (r.toList ++ []) M1 Q)) : rn_WP 29 35 [vl0, vl1, rn_R al2, vl3, rn_I xl4, rn_I xl5, rn_I xl6, rn_I xl7, vl8] [rn_R as0] M Q := by
  refine (rn_step (e := (.astore 8, 37, 8, 0, 0, 0, 0, [])) rfl).mpr ?_
  refine (rn_step (e := (.aload 8, 39, 8, 0, 0, 0, 0, [])) rfl).mpr ?_
  refine (rn_step (e := (.ifnull 74, 42, 113, 0, 0, 0, 0, [])) rfl).mpr ?_
  refine (rn_step (e := (.aload 8, 44, 8, 0, 0, 0, 0, [])) rfl).mpr ?_
  refine (rn_step (e := (.getfield 54, 47, 3, 0, 170, 2, 4, [])) rfl).mpr (And.intro ((rn_kL (M := M) hM p_as0)) (rn_cg hr1.1 ?_))
  refine (rn_step (e := (.getfield 60, 50, 5, 0, 96, 0, 6, [])) rfl).mpr (And.intro ((rn_kR (M := M) hM hr1.2)) (?_))
  refine (rn_step (e := (.aload_n 2, 51, 2, 0, 0, 0, 0, [])) rfl).mpr ?_
  refine (rn_step (e := (.getfield 60, 54, 5, 0, 96, 0, 6, [])) rfl).mpr (And.intro ((rn_kR (M := M) hM p_al2)) (?_))
  refine (rn_step (e := (.if_icmp .eq 59, 57, 113, 0, 0, 0, 0, [])) rfl).mpr (And.intro (fun c1 => ?_) (fun c1 => ?_))
  ·
    refine (rn_step (e := (.iinc 7 1, 116, 7, 0, 0, 0, 0, [])) rfl).mpr (rn_ci (hr2 c1).1 (hr2 c1).2 ?_)
    refine (rn_step (e := (.goto (-96), 119, 20, 0, 0, 0, 0, [])) rfl).mpr ?_
    exact (k1 c1)
  ·
    refine (rn_step (e := (.aload 8, 59, 8, 0, 0, 0, 0, [])) rfl).mpr ?_
    refine (rn_step (e := (.getfield 54, 62, 3, 0, 170, 2, 4, [])) rfl).mpr (And.intro ((rn_kL (M := M) hM p_as0)) (rn_cg (hr3 c1).1 ?_))
    refine (rn_step (e := (.getfield 33, 65, 5, 1, 100, 0, 6, [])) rfl).mpr (And.intro ((rn_kR (M := M) hM (hr3 c1).2)) (?_))
    refine (rn_step (e := (.iload 4, 67, 4, 0, 0, 0, 0, [])) rfl).mpr ?_
    refine (rn_step (e := (.if_icmp .le 46, 70, 113, 0, 0, 0, 0, [])) rfl).mpr (And.intro (fun c2 => ?_) (fun c2 => ?_))
    ·
      refine (rn_step (e := (.iinc 7 1, 116, 7, 0, 0, 0, 0, [])) rfl).mpr (rn_ci (hr4 c1 c2).1 (hr4 c1 c2).2 ?_)
      refine (rn_step (e := (.goto (-96), 119, 20, 0, 0, 0, 0, [])) rfl).mpr ?_
      exact (k2 c1 c2)
    ·
      refine (rn_step (e := (.aload 8, 72, 8, 0, 0, 0, 0, [])) rfl).mpr ?_
      refine (rn_step (e := (.getfield 54, 75, 3, 0, 170, 2, 4, [])) rfl).mpr (And.intro ((rn_kL (M := M) hM p_as0)) (rn_cg (hr5 c1 c2).1 ?_))
      refine (rn_step (e := (.aload 8, 77, 8, 0, 0, 0, 0, [])) rfl).mpr ?_
      refine (rn_step (e := (.getfield 63, 80, 3, 1, 174, 0, 4, [])) rfl).mpr (And.intro ((rn_kL (M := M) hM p_as0)) (?_))
      refine (rn_step (e := (.iload 5, 82, 5, 0, 0, 0, 0, [])) rfl).mpr ?_
      refine (rn_step (e := (.iload 6, 84, 6, 0, 0, 0, 0, [])) rfl).mpr ?_
      refine (rn_step (e := (.aload_n 2, 85, 2, 0, 0, 0, 0, [])) rfl).mpr ?_
      refine (rn_step (e := (.getfield 88, 88, 5, 2, 105, 0, 6, [])) rfl).mpr (And.intro ((rn_kR (M := M) hM p_al2)) (?_))
      refine (rn_step (e := (.aload 8, 90, 8, 0, 0, 0, 0, [])) rfl).mpr ?_
      refine (rn_step (e := (.getfield 54, 93, 3, 0, 170, 2, 4, [])) rfl).mpr (And.intro ((rn_kL (M := M) hM p_as0)) (rn_cg (hr5 c1 c2).1 ?_))
      refine (rn_step (e := (.getfield 88, 96, 5, 2, 105, 0, 6, [])) rfl).mpr (And.intro ((rn_kR (M := M) hM (hr5 c1 c2).2.1)) (?_))
      refine (rn_step (e := (.iadd, 97, 0, 0, 0, 0, 0, [])) rfl).mpr (rn_cw (hr5 c1 c2).2.2.1 (hr5 c1 c2).2.2.2 ?_)
      exact (rn_step (e := (.invokevirtual 95, 100, 75, 5, 362, 0, 6, [0])) rfl).mpr (And.intro ((rn_kR (M := M) hM (hr5 c1 c2).2.1)) ((k3 c1 c2)))
set_option maxRecDepth 4000 in
theorem rb_Ju_labelRankAt_100 {M : rn_M} {Q : rn_Q} {vl0 : rn_V} {vl1 : rn_V} {vl2 : rn_V} {vl3 : rn_V} {vl4 : rn_V} {vl5 : rn_V} {vl6 : rn_V} {xl7 : Int} {al8 : Nat} {xs0 : Int} (hM : rn_sh M) (p_al8 : rn_isL al8)  (hr1 : (xs0 = 0) → (-2147483648 : Int) ≤ xl7 + 1 ∧ xl7 + 1 ≤ 2147483647) (hr2 : (¬ (xs0 = 0)) → rn_gr M al8 0 = some (rn_go M al8 0) ∧ rn_isR (rn_go M al8 0) ∧ (-2147483648 : Int) ≤ xl7 + 1 ∧ xl7 + 1 ≤ 2147483647) (k1 : (xs0 = 0) → rn_WP 29 20 [vl0, vl1, vl2, vl3, vl4, vl5, vl6, rn_I (xl7 + 1), rn_R al8] [] M Q) (k2 : (¬ (xs0 = 0)) → rn_WP 29 20 [vl0, vl1, vl2, vl3, rn_I (rn_gi M (rn_go M al8 0) 1), vl5, vl6, rn_I (xl7 + 1), rn_R al8] [] M Q) : rn_WP 29 100 [vl0, vl1, vl2, vl3, vl4, vl5, vl6, rn_I xl7, rn_R al8] [rn_I xs0] M Q := by
  refine (rn_step (e := (.ifCond .eq 13, 103, 113, 0, 0, 0, 0, [])) rfl).mpr (And.intro (fun c1 => ?_) (fun c1 => ?_))
  ·
    refine (rn_step (e := (.iinc 7 1, 116, 7, 0, 0, 0, 0, [])) rfl).mpr (rn_ci (hr1 c1).1 (hr1 c1).2 ?_)
    refine (rn_step (e := (.goto (-96), 119, 20, 0, 0, 0, 0, [])) rfl).mpr ?_
    exact (k1 c1)
  ·
    refine (rn_step (e := (.aload 8, 105, 8, 0, 0, 0, 0, [])) rfl).mpr ?_
    refine (rn_step (e := (.getfield 54, 108, 3, 0, 170, 2, 4, [])) rfl).mpr (And.intro ((rn_kL (M := M) hM p_al8)) (rn_cg (hr2 c1).1 ?_))
    refine (rn_step (e := (.getfield 33, 111, 5, 1, 100, 0, 6, [])) rfl).mpr (And.intro ((rn_kR (M := M) hM (hr2 c1).2.1)) (?_))
    refine (rn_step (e := (.istore 4, 113, 4, 0, 0, 0, 0, [])) rfl).mpr ?_
    refine (rn_step (e := (.iinc 7 1, 116, 7, 0, 0, 0, 0, [])) rfl).mpr (rn_ci (hr2 c1).2.2.1 (hr2 c1).2.2.2 ?_)
    refine (rn_step (e := (.goto (-96), 119, 20, 0, 0, 0, 0, [])) rfl).mpr ?_
    exact (k2 c1)
theorem re_Ju_noteRivals {M : rn_M} {Q : rn_Q} {v0 v1 v2 : rn_V} (h : rn_WP 30 0 [v0, v1, v2, rn_J] [] M Q) : rn_ME 30 [v0, v1, v2] M Q := h
set_option maxRecDepth 4000 in
theorem rb_Ju_noteRivals_0 {M : rn_M} {Q : rn_Q} {vl0 : rn_V} {vl1 : rn_V} {vl2 : rn_V} {vl3 : rn_V}   (k1 : rn_WP 30 2 [vl0, vl1, vl2, rn_I 0] [] M Q) : rn_WP 30 0 [vl0, vl1, vl2, vl3] [] M Q := by
  refine (rn_step (e := (.iconst 0, 1, 0, 0, 0, 0, 0, [])) rfl).mpr ?_
  refine (rn_step (e := (.istore_n 3, 2, 3, 0, 0, 0, 0, [])) rfl).mpr ?_
  exact k1
set_option maxRecDepth 4000 in
theorem rb_Ju_noteRivals_2 {M : rn_M} {Q : rn_Q} {rl1 : Option Nat} {al2 : Nat} {xl3 : Int} (hM : rn_sh M) (p_al2 : rn_isR al2)  (k1 : (rn_gi M al2 4 < xl3) → Q none M) (k2 : (¬ (rn_gi M al2 4 < xl3)) → (xl3 < 61) → rn_ME 28 [rn_R 462, .inr (.inl (some rl1)), rn_R al2, rn_I xl3] M (fun r M1 => rn_WP 30 28 [rn_R 462, .inr (.inl (some rl1)), rn_R al2, rn_I xl3] (r.toList ++ [rn_I xl3, rn_R 463]) M1 Q)) (k3 : (¬ (rn_gi M al2 4 < xl3)) → (¬ (xl3 < 61)) → Q none M) : rn_WP 30 2 [rn_R 462, .inr (.inl (some rl1)), rn_R al2, rn_I xl3] [] M Q := by
  refine (rn_step (e := (.iload_n 3, 3, 3, 0, 0, 0, 0, [])) rfl).mpr ?_
  refine (rn_step (e := (.aload_n 2, 4, 2, 0, 0, 0, 0, [])) rfl).mpr ?_
  refine (rn_step (e := (.getfield 99, 7, 5, 4, 112, 0, 6, [])) rfl).mpr (And.intro ((rn_kR (M := M) hM p_al2)) (?_))
  refine (rn_step (e := (.if_icmp .gt 38, 10, 45, 0, 0, 0, 0, [])) rfl).mpr (And.intro (fun c1 => ?_) (fun c1 => ?_))
  ·
    exact (rn_step (e := (.return_, 46, 0, 0, 0, 0, 0, [])) rfl).mpr (k1 c1)
  ·
    refine (rn_step (e := (.iload_n 3, 11, 3, 0, 0, 0, 0, [])) rfl).mpr ?_
    refine (rn_step (e := (.bipush 61, 13, 0, 0, 0, 0, 0, [])) rfl).mpr ?_
    refine (rn_step (e := (.if_icmp .ge 32, 16, 45, 0, 0, 0, 0, [])) rfl).mpr (And.intro (fun c2 => ?_) (fun c2 => ?_))
    ·
      refine (rn_step (e := (.aload_n 0, 17, 0, 0, 0, 0, 0, [])) rfl).mpr ?_
      refine (rn_step (e := (.getfield 9, 20, 2, 0, 232, 2, 3, [])) rfl).mpr (And.intro ((rn_ks462 (M := M) hM)) (rn_cg (rn_g462_0 (M := M) hM) ?_))
      refine (rn_step (e := (.iload_n 3, 21, 3, 0, 0, 0, 0, [])) rfl).mpr ?_
      refine (rn_step (e := (.aload_n 0, 22, 0, 0, 0, 0, 0, [])) rfl).mpr ?_
      refine (rn_step (e := (.aload_n 1, 23, 1, 0, 0, 0, 0, [])) rfl).mpr ?_
      refine (rn_step (e := (.aload_n 2, 24, 2, 0, 0, 0, 0, [])) rfl).mpr ?_
      refine (rn_step (e := (.iload_n 3, 25, 3, 0, 0, 0, 0, [])) rfl).mpr ?_
      exact (rn_step (e := (.invokevirtual 29, 28, 28, 4, 333, 0, 3, [0])) rfl).mpr (And.intro ((rn_ks462 (M := M) hM)) ((k2 c1 c2)))
    ·
      exact (rn_step (e := (.return_, 46, 0, 0, 0, 0, 0, [])) rfl).mpr (k3 c1 c2)
set_option maxRecDepth 4000 in
theorem rb_Ju_noteRivals_28 {M : rn_M} {Q : rn_Q} {rl1 : Option Nat} {rl2 : Option Nat} {xl3 : Int} {xs0 : Int} {xs1 : Int} {rs2 : Option Nat} (hM : rn_sh M)   (k1 : rn_ME 29 [rn_R 462, .inr (.inl (some rl1)), .inr (.inl (some rl2)), rn_I xl3] M (fun r M1 => rn_WP 30 35 [rn_R 462, .inr (.inl (some rl1)), .inr (.inl (some rl2)), rn_I xl3] (r.toList ++ [rn_I xs0, rn_I xs1, .inr (.inl (some rs2))]) M1 Q)) : rn_WP 30 28 [rn_R 462, .inr (.inl (some rl1)), .inr (.inl (some rl2)), rn_I xl3] [rn_I xs0, rn_I xs1, .inr (.inl (some rs2))] M Q := by
  refine (rn_step (e := (.aload_n 0, 29, 0, 0, 0, 0, 0, [])) rfl).mpr ?_
  refine (rn_step (e := (.aload_n 1, 30, 1, 0, 0, 0, 0, [])) rfl).mpr ?_
  refine (rn_step (e := (.aload_n 2, 31, 2, 0, 0, 0, 0, [])) rfl).mpr ?_
  refine (rn_step (e := (.iload_n 3, 32, 3, 0, 0, 0, 0, [])) rfl).mpr ?_
  exact (rn_step (e := (.invokevirtual 36, 35, 29, 4, 358, 0, 3, [0])) rfl).mpr (And.intro ((rn_ks462 (M := M) hM)) (k1))
set_option maxRecDepth 4000 in
theorem rb_Ju_noteRivals_35 {M : rn_M} {Q : rn_Q} {vl0 : rn_V} {vl1 : rn_V} {vl2 : rn_V} {xl3 : Int} {xs0 : Int} {xs1 : Int} {xs2 : Int} {as3 : Nat} {n1 : Nat}  (h1 : rn_wa M as3 n1) (hr1 : (0 : Int) ≤ xs2 ∧ xs2 < (n1 : Int) ∧ (-2147483648 : Int) ≤ xl3 + 1 ∧ xl3 + 1 ≤ 2147483647) (k1 : rn_WP 30 2 [vl0, vl1, vl2, rn_I (xl3 + 1)] [] (rn_si M as3 (xs2).toNat (max xs1 xs0)) Q) : rn_WP 30 35 [vl0, vl1, vl2, rn_I xl3] [rn_I xs0, rn_I xs1, rn_I xs2, rn_R as3] M Q := by
  refine (rn_step (e := (.invokestatic 39, 38, 205, 2, 370, 5, 0, [0])) rfl).mpr ?_
  refine (rn_step (e := (.iastore, 39, 0, 0, 0, 0, 0, [])) rfl).mpr (And.intro (h1.1) (And.intro ((And.intro (hr1.1) (rn_lt h1.2 hr1.2.1))) (?_)))
  refine (rn_step (e := (.iinc 3 1, 42, 3, 0, 0, 0, 0, [])) rfl).mpr (rn_ci hr1.2.2.1 hr1.2.2.2 ?_)
  refine (rn_step (e := (.goto (-40), 45, 2, 0, 0, 0, 0, [])) rfl).mpr ?_
  exact k1
theorem re_Ju_rivalRank {M : rn_M} {Q : rn_Q} {v0 v1 v2 : rn_V} (h : rn_WP 31 0 [v0, v1, v2, rn_J, rn_J] [] M Q) : rn_ME 31 [v0, v1, v2] M Q := h
set_option maxRecDepth 4000 in
theorem rb_Ju_rivalRank_0 {M : rn_M} {Q : rn_Q} {vl0 : rn_V} {vl1 : rn_V} {xl2 : Int} {vl3 : rn_V} {vl4 : rn_V}   (k1 : rn_WP 31 5 [vl0, vl1, rn_I xl2, rn_I 0, rn_I xl2] [] M Q) : rn_WP 31 0 [vl0, vl1, rn_I xl2, vl3, vl4] [] M Q := by
  refine (rn_step (e := (.iconst 0, 1, 0, 0, 0, 0, 0, [])) rfl).mpr ?_
  refine (rn_step (e := (.istore_n 3, 2, 3, 0, 0, 0, 0, [])) rfl).mpr ?_
  refine (rn_step (e := (.iload_n 2, 3, 2, 0, 0, 0, 0, [])) rfl).mpr ?_
  refine (rn_step (e := (.istore 4, 5, 4, 0, 0, 0, 0, [])) rfl).mpr ?_
  exact k1
set_option maxRecDepth 4000 in
theorem rb_Ju_rivalRank_5 {M : rn_M} {Q : rn_Q} {al1 : Nat} {xl2 : Int} {xl3 : Int} {xl4 : Int} (hM : rn_sh M) (p_al1 : rn_isR al1)  (hr1 : (-2147483648 : Int) ≤ xl2 + (rn_gi M al1 3) ∧ xl2 + (rn_gi M al1 3) ≤ 2147483647) (hr2 : (xl4 < xl2 + (rn_gi M al1 3)) → (¬ (0 ≤ xl4 ∧ xl4 ≤ 60)) → (-2147483648 : Int) ≤ xl4 + 1 ∧ xl4 + 1 ≤ 2147483647) (hr3 : (xl4 < xl2 + (rn_gi M al1 3)) → (0 ≤ xl4 ∧ xl4 ≤ 60) → (0 : Int) ≤ xl4 ∧ xl4 < (61 : Int) ∧ (-2147483648 : Int) ≤ xl4 + 1 ∧ xl4 + 1 ≤ 2147483647) (k1 : (xl4 < xl2 + (rn_gi M al1 3)) → (¬ (0 ≤ xl4 ∧ xl4 ≤ 60)) → rn_WP 31 5 [rn_R 462, rn_R al1, rn_I xl2, rn_I xl3, rn_I (xl4 + 1)] [] M Q) (k2 : (xl4 < xl2 + (rn_gi M al1 3)) → (0 ≤ xl4 ∧ xl4 ≤ 60) → rn_WP 31 5 [rn_R 462, rn_R al1, rn_I xl2, rn_I (max xl3 (rn_gi M 463 (xl4).toNat)), rn_I (xl4 + 1)] [] M Q) (k3 : (¬ (xl4 < xl2 + (rn_gi M al1 3))) → Q (some (rn_I xl3)) M) : rn_WP 31 5 [rn_R 462, rn_R al1, rn_I xl2, rn_I xl3, rn_I xl4] [] M Q := by
  refine (rn_step (e := (.iload 4, 7, 4, 0, 0, 0, 0, [])) rfl).mpr ?_
  refine (rn_step (e := (.iload_n 2, 8, 2, 0, 0, 0, 0, [])) rfl).mpr ?_
  refine (rn_step (e := (.aload_n 1, 9, 1, 0, 0, 0, 0, [])) rfl).mpr ?_
  refine (rn_step (e := (.getfield 15, 12, 5, 3, 107, 0, 6, [])) rfl).mpr (And.intro ((rn_kR (M := M) hM p_al1)) (?_))
  refine (rn_step (e := (.iadd, 13, 0, 0, 0, 0, 0, [])) rfl).mpr (rn_cw hr1.1 hr1.2 ?_)
  refine (rn_step (e := (.if_icmp .ge 29, 16, 42, 0, 0, 0, 0, [])) rfl).mpr (And.intro (fun c1 => ?_) (fun c1 => ?_))
  ·
    refine (rn_step (e := (.iload 4, 18, 4, 0, 0, 0, 0, [])) rfl).mpr ?_
    refine (rn_step (e := (.invokestatic 102, 21, 122, 1, 14, 0, 10, [1])) rfl).mpr (rc_RN_isPlaceNumber  ?_)
    refine (rn_step (e := (.ifCond .eq 15, 24, 36, 0, 0, 0, 0, [])) rfl).mpr (And.intro (fun q => ?_) (fun q => ?_))
    · have c2 := rn_b0 q
      refine (rn_step (e := (.iinc 4 1, 39, 4, 0, 0, 0, 0, [])) rfl).mpr (rn_ci (hr2 c1 c2).1 (hr2 c1 c2).2 ?_)
      refine (rn_step (e := (.goto (-34), 42, 5, 0, 0, 0, 0, [])) rfl).mpr ?_
      exact (k1 c1 c2)
    · have c2 := rn_b1 q
      refine (rn_step (e := (.iload_n 3, 25, 3, 0, 0, 0, 0, [])) rfl).mpr ?_
      refine (rn_step (e := (.aload_n 0, 26, 0, 0, 0, 0, 0, [])) rfl).mpr ?_
      refine (rn_step (e := (.getfield 9, 29, 2, 0, 232, 2, 3, [])) rfl).mpr (And.intro ((rn_ks462 (M := M) hM)) (rn_cg (rn_g462_0 (M := M) hM) ?_))
      refine (rn_step (e := (.iload 4, 31, 4, 0, 0, 0, 0, [])) rfl).mpr ?_
      refine (rn_step (e := (.iaload, 32, 0, 0, 0, 0, 0, [])) rfl).mpr (And.intro (Or.inl (rn_w463 (M := M) hM).1) (And.intro ((And.intro ((hr3 c1 c2).1) (rn_lt (rn_w463 (M := M) hM).2 (hr3 c1 c2).2.1))) (?_)))
      refine (rn_step (e := (.invokestatic 39, 35, 205, 2, 370, 5, 0, [0])) rfl).mpr ?_
      refine (rn_step (e := (.istore_n 3, 36, 3, 0, 0, 0, 0, [])) rfl).mpr ?_
      refine (rn_step (e := (.iinc 4 1, 39, 4, 0, 0, 0, 0, [])) rfl).mpr (rn_ci (hr3 c1 c2).2.2.1 (hr3 c1 c2).2.2.2 ?_)
      refine (rn_step (e := (.goto (-34), 42, 5, 0, 0, 0, 0, [])) rfl).mpr ?_
      exact (k2 c1 c2)
  ·
    refine (rn_step (e := (.iload_n 3, 43, 3, 0, 0, 0, 0, [])) rfl).mpr ?_
    exact (rn_step (e := (.ireturn, 44, 0, 0, 0, 0, 0, [])) rfl).mpr (And.intro (trivial) ((k3 c1)))
theorem re_Ju_bestStart {M : rn_M} {Q : rn_Q} {v0 v1 v2 : rn_V} (h : rn_WP 32 0 [v0, v1, v2] [] M Q) : rn_ME 32 [v0, v1, v2] M Q := h
set_option maxRecDepth 4000 in
theorem rb_Ju_bestStart_0 {M : rn_M} {Q : rn_Q} {rl1 : Option Nat} {rl2 : Option Nat} (hM : rn_sh M)   (k1 : rn_ME 30 [rn_R 462, .inr (.inl (some rl1)), .inr (.inl (some rl2))] M (fun r M1 => rn_WP 32 6 [rn_R 462, .inr (.inl (some rl1)), .inr (.inl (some rl2))] (r.toList ++ []) M1 Q)) : rn_WP 32 0 [rn_R 462, .inr (.inl (some rl1)), .inr (.inl (some rl2))] [] M Q := by
  refine (rn_step (e := (.aload_n 0, 1, 0, 0, 0, 0, 0, [])) rfl).mpr ?_
  refine (rn_step (e := (.aload_n 1, 2, 1, 0, 0, 0, 0, [])) rfl).mpr ?_
  refine (rn_step (e := (.aload_n 2, 3, 2, 0, 0, 0, 0, [])) rfl).mpr ?_
  exact (rn_step (e := (.invokevirtual 106, 6, 30, 3, 658, 0, 3, [0])) rfl).mpr (And.intro ((rn_ks462 (M := M) hM)) (k1))
set_option maxRecDepth 4000 in
theorem rb_Ju_bestStart_6 {M : rn_M} {Q : rn_Q} {rl1 : Option Nat} {rl2 : Option Nat} (hM : rn_sh M)   (k1 : rn_ME 33 [rn_R 462, .inr (.inl (some rl1)), .inr (.inl (some rl2))] M (fun r M1 => rn_WP 32 12 [rn_R 462, .inr (.inl (some rl1)), .inr (.inl (some rl2))] (r.toList ++ []) M1 Q)) : rn_WP 32 6 [rn_R 462, .inr (.inl (some rl1)), .inr (.inl (some rl2))] [] M Q := by
  refine (rn_step (e := (.aload_n 0, 7, 0, 0, 0, 0, 0, [])) rfl).mpr ?_
  refine (rn_step (e := (.aload_n 1, 8, 1, 0, 0, 0, 0, [])) rfl).mpr ?_
  refine (rn_step (e := (.aload_n 2, 9, 2, 0, 0, 0, 0, [])) rfl).mpr ?_
  exact (rn_step (e := (.invokevirtual 110, 12, 33, 3, 662, 0, 3, [0])) rfl).mpr (And.intro ((rn_ks462 (M := M) hM)) (k1))
set_option maxRecDepth 4000 in
theorem rb_Ju_bestStart_12 {M : rn_M} {Q : rn_Q} {vl0 : rn_V} {vl1 : rn_V} {vl2 : rn_V} {xs0 : Int}   (k1 : Q (some (rn_I xs0)) M) : rn_WP 32 12 [vl0, vl1, vl2] [rn_I xs0] M Q := by
  exact (rn_step (e := (.ireturn, 13, 0, 0, 0, 0, 0, [])) rfl).mpr (And.intro (trivial) (k1))
theorem re_Ju_bestStartAsNoted {M : rn_M} {Q : rn_Q} {v0 v1 v2 : rn_V} (h : rn_WP 33 0 [v0, v1, v2, rn_J, rn_J, rn_J, rn_J] [] M Q) : rn_ME 33 [v0, v1, v2] M Q := h
set_option maxRecDepth 4000 in
theorem rb_Ju_bestStartAsNoted_0 {M : rn_M} {Q : rn_Q} {vl0 : rn_V} {vl1 : rn_V} {vl2 : rn_V} {vl3 : rn_V} {vl4 : rn_V} {vl5 : rn_V} {vl6 : rn_V}   (k1 : rn_WP 33 9 [vl0, vl1, vl2, rn_I (-9), rn_I 0, rn_I 0, vl6] [] M Q) : rn_WP 33 0 [vl0, vl1, vl2, vl3, vl4, vl5, vl6] [] M Q := by
  refine (rn_step (e := (.bipush (-9), 2, 0, 0, 0, 0, 0, [])) rfl).mpr ?_
  refine (rn_step (e := (.istore_n 3, 3, 3, 0, 0, 0, 0, [])) rfl).mpr ?_
  refine (rn_step (e := (.iconst 0, 4, 0, 0, 0, 0, 0, [])) rfl).mpr ?_
  refine (rn_step (e := (.istore 4, 6, 4, 0, 0, 0, 0, [])) rfl).mpr ?_
  refine (rn_step (e := (.iconst 0, 7, 0, 0, 0, 0, 0, [])) rfl).mpr ?_
  refine (rn_step (e := (.istore 5, 9, 5, 0, 0, 0, 0, [])) rfl).mpr ?_
  exact k1
set_option maxRecDepth 4000 in
theorem rb_Ju_bestStartAsNoted_9 {M : rn_M} {Q : rn_Q} {vl0 : rn_V} {vl1 : rn_V} {al2 : Nat} {xl3 : Int} {vl4 : rn_V} {xl5 : Int} {vl6 : rn_V} (hM : rn_sh M) (p_al2 : rn_isR al2)  (hr1 : ((-1000 : Int) ≤ rn_gi M al2 3 ∧ (rn_gi M al2 3 : Int) ≤ 1000) ∧ (-1000 ≤ rn_gi M al2 4 ∧ rn_gi M al2 4 ≤ 1000)) (k1 : (rn_gi M al2 4 + 1 - (rn_gi M al2 3) < xl5) → Q (some (rn_I xl3)) M) (k2 : (¬ (rn_gi M al2 4 + 1 - (rn_gi M al2 3) < xl5)) → rn_ME 72 [rn_R al2, rn_I xl5] M (fun r M1 => rn_WP 33 28 [vl0, vl1, rn_R al2, rn_I xl3, vl4, rn_I xl5, vl6] (r.toList ++ []) M1 Q)) : rn_WP 33 9 [vl0, vl1, rn_R al2, rn_I xl3, vl4, rn_I xl5, vl6] [] M Q := by
  refine (rn_step (e := (.iload 5, 11, 5, 0, 0, 0, 0, [])) rfl).mpr ?_
  refine (rn_step (e := (.aload_n 2, 12, 2, 0, 0, 0, 0, [])) rfl).mpr ?_
  refine (rn_step (e := (.aload_n 2, 13, 2, 0, 0, 0, 0, [])) rfl).mpr ?_
  refine (rn_step (e := (.getfield 15, 16, 5, 3, 107, 0, 6, [])) rfl).mpr (And.intro ((rn_kR (M := M) hM p_al2)) (?_))
  refine (rn_step (e := (.invokevirtual 21, 19, 68, 2, 324, 0, 6, [0])) rfl).mpr (And.intro ((rn_kR (M := M) hM p_al2)) ((rc_Ri_lastStart hM p_al2 (hr1.1) (hr1.2) ?_)))
  refine (rn_step (e := (.if_icmp .gt 63, 22, 82, 0, 0, 0, 0, [])) rfl).mpr (And.intro (fun c1 => ?_) (fun c1 => ?_))
  ·
    refine (rn_step (e := (.iload_n 3, 83, 3, 0, 0, 0, 0, [])) rfl).mpr ?_
    exact (rn_step (e := (.ireturn, 84, 0, 0, 0, 0, 0, [])) rfl).mpr (And.intro (trivial) ((k1 c1)))
  ·
    refine (rn_step (e := (.aload_n 2, 23, 2, 0, 0, 0, 0, [])) rfl).mpr ?_
    refine (rn_step (e := (.iload 5, 25, 5, 0, 0, 0, 0, [])) rfl).mpr ?_
    exact (rn_step (e := (.invokevirtual 114, 28, 72, 2, 666, 0, 6, [0])) rfl).mpr (And.intro ((rn_kR (M := M) hM p_al2)) ((k2 c1)))
set_option maxRecDepth 4000 in
theorem rb_Ju_bestStartAsNoted_28 {M : rn_M} {Q : rn_Q} {vl1 : rn_V} {rl2 : Option Nat} {xl3 : Int} {xl4 : Int} {xl5 : Int} {vl6 : rn_V} {xs0 : Int} (hM : rn_sh M)   (hr1 : (¬ (xl3 = (-9))) → (¬ (xs0 < xl4)) → (-2147483648 : Int) ≤ xl5 + 1 ∧ xl5 + 1 ≤ 2147483647) (k1 : (xl3 = (-9)) → rn_ME 31 [rn_R 462, .inr (.inl (some rl2)), rn_I xl5] M (fun r M1 => rn_WP 33 50 [rn_R 462, vl1, .inr (.inl (some rl2)), rn_I xl3, rn_I xl4, rn_I xl5, rn_I xs0] (r.toList ++ []) M1 Q)) (k2 : (¬ (xl3 = (-9))) → (xs0 < xl4) → rn_ME 31 [rn_R 462, .inr (.inl (some rl2)), rn_I xl5] M (fun r M1 => rn_WP 33 50 [rn_R 462, vl1, .inr (.inl (some rl2)), rn_I xl3, rn_I xl4, rn_I xl5, rn_I xs0] (r.toList ++ []) M1 Q)) (k3 : (¬ (xl3 = (-9))) → (¬ (xs0 < xl4)) → rn_WP 33 9 [rn_R 462, vl1, .inr (.inl (some rl2)), rn_I xl3, rn_I xl4, rn_I (xl5 + 1), rn_I xs0] [] M Q) : rn_WP 33 28 [rn_R 462, vl1, .inr (.inl (some rl2)), rn_I xl3, rn_I xl4, rn_I xl5, vl6] [rn_I xs0] M Q := by
  refine (rn_step (e := (.istore 6, 30, 6, 0, 0, 0, 0, [])) rfl).mpr ?_
  refine (rn_step (e := (.iload_n 3, 31, 3, 0, 0, 0, 0, [])) rfl).mpr ?_
  refine (rn_step (e := (.bipush (-9), 33, 0, 0, 0, 0, 0, [])) rfl).mpr ?_
  refine (rn_step (e := (.if_icmp .eq 10, 36, 43, 0, 0, 0, 0, [])) rfl).mpr (And.intro (fun c1 => ?_) (fun c1 => ?_))
  ·
    refine (rn_step (e := (.aload_n 0, 44, 0, 0, 0, 0, 0, [])) rfl).mpr ?_
    refine (rn_step (e := (.aload_n 2, 45, 2, 0, 0, 0, 0, [])) rfl).mpr ?_
    refine (rn_step (e := (.iload 5, 47, 5, 0, 0, 0, 0, [])) rfl).mpr ?_
    exact (rn_step (e := (.invokevirtual 117, 50, 31, 3, 667, 0, 3, [0])) rfl).mpr (And.intro ((rn_ks462 (M := M) hM)) ((k1 c1)))
  ·
    refine (rn_step (e := (.iload 6, 38, 6, 0, 0, 0, 0, [])) rfl).mpr ?_
    refine (rn_step (e := (.iload 4, 40, 4, 0, 0, 0, 0, [])) rfl).mpr ?_
    refine (rn_step (e := (.if_icmp .ge 36, 43, 76, 0, 0, 0, 0, [])) rfl).mpr (And.intro (fun c2 => ?_) (fun c2 => ?_))
    ·
      refine (rn_step (e := (.aload_n 0, 44, 0, 0, 0, 0, 0, [])) rfl).mpr ?_
      refine (rn_step (e := (.aload_n 2, 45, 2, 0, 0, 0, 0, [])) rfl).mpr ?_
      refine (rn_step (e := (.iload 5, 47, 5, 0, 0, 0, 0, [])) rfl).mpr ?_
      exact (rn_step (e := (.invokevirtual 117, 50, 31, 3, 667, 0, 3, [0])) rfl).mpr (And.intro ((rn_ks462 (M := M) hM)) ((k2 c1 c2)))
    ·
      refine (rn_step (e := (.iinc 5 1, 79, 5, 0, 0, 0, 0, [])) rfl).mpr (rn_ci (hr1 c1 c2).1 (hr1 c1 c2).2 ?_)
      refine (rn_step (e := (.goto (-70), 82, 9, 0, 0, 0, 0, [])) rfl).mpr ?_
      exact (k3 c1 c2)
set_option maxRecDepth 4000 in
theorem rb_Ju_bestStartAsNoted_50 {M : rn_M} {Q : rn_Q} {rl1 : Option Nat} {al2 : Nat} {vl3 : rn_V} {vl4 : rn_V} {xl5 : Int} {vl6 : rn_V} {xs0 : Int} (hM : rn_sh M) (p_al2 : rn_isR al2)  (hr1 : (¬ (xs0 < rn_gi M al2 1)) → (-2147483648 : Int) ≤ xl5 + 1 ∧ xl5 + 1 ≤ 2147483647) (k1 : (xs0 < rn_gi M al2 1) → rn_ME 27 [rn_R 462, .inr (.inl (some rl1)), rn_R al2, rn_I xl5, rn_I (-1)] M (fun r M1 => rn_WP 33 66 [rn_R 462, .inr (.inl (some rl1)), rn_R al2, vl3, vl4, rn_I xl5, vl6] (r.toList ++ []) M1 Q)) (k2 : (¬ (xs0 < rn_gi M al2 1)) → rn_WP 33 9 [rn_R 462, .inr (.inl (some rl1)), rn_R al2, vl3, vl4, rn_I (xl5 + 1), vl6] [] M Q) : rn_WP 33 50 [rn_R 462, .inr (.inl (some rl1)), rn_R al2, vl3, vl4, rn_I xl5, vl6] [rn_I xs0] M Q := by
  refine (rn_step (e := (.aload_n 2, 51, 2, 0, 0, 0, 0, [])) rfl).mpr ?_
  refine (rn_step (e := (.getfield 33, 54, 5, 1, 100, 0, 6, [])) rfl).mpr (And.intro ((rn_kR (M := M) hM p_al2)) (?_))
  refine (rn_step (e := (.if_icmp .ge 22, 57, 76, 0, 0, 0, 0, [])) rfl).mpr (And.intro (fun c1 => ?_) (fun c1 => ?_))
  ·
    refine (rn_step (e := (.aload_n 0, 58, 0, 0, 0, 0, 0, [])) rfl).mpr ?_
    refine (rn_step (e := (.aload_n 1, 59, 1, 0, 0, 0, 0, [])) rfl).mpr ?_
    refine (rn_step (e := (.aload_n 2, 60, 2, 0, 0, 0, 0, [])) rfl).mpr ?_
    refine (rn_step (e := (.iload 5, 62, 5, 0, 0, 0, 0, [])) rfl).mpr ?_
    refine (rn_step (e := (.iconst (-1), 63, 0, 0, 0, 0, 0, [])) rfl).mpr ?_
    exact (rn_step (e := (.invokevirtual 25, 66, 27, 5, 328, 0, 3, [0])) rfl).mpr (And.intro ((rn_ks462 (M := M) hM)) ((k1 c1)))
  ·
    refine (rn_step (e := (.iinc 5 1, 79, 5, 0, 0, 0, 0, [])) rfl).mpr (rn_ci (hr1 c1).1 (hr1 c1).2 ?_)
    refine (rn_step (e := (.goto (-70), 82, 9, 0, 0, 0, 0, [])) rfl).mpr ?_
    exact (k2 c1)
set_option maxRecDepth 4000 in
theorem rb_Ju_bestStartAsNoted_66 {M : rn_M} {Q : rn_Q} {vl0 : rn_V} {vl1 : rn_V} {vl2 : rn_V} {vl3 : rn_V} {vl4 : rn_V} {xl5 : Int} {xl6 : Int} {xs0 : Int}   (hr1 : (xs0 = 0) → (-2147483648 : Int) ≤ xl5 + 1 ∧ xl5 + 1 ≤ 2147483647) (hr2 : (¬ (xs0 = 0)) → (-2147483648 : Int) ≤ xl5 + 1 ∧ xl5 + 1 ≤ 2147483647) (k1 : (xs0 = 0) → rn_WP 33 9 [vl0, vl1, vl2, rn_I xl5, rn_I xl6, rn_I (xl5 + 1), rn_I xl6] [] M Q) (k2 : (¬ (xs0 = 0)) → rn_WP 33 9 [vl0, vl1, vl2, vl3, vl4, rn_I (xl5 + 1), rn_I xl6] [] M Q) : rn_WP 33 66 [vl0, vl1, vl2, vl3, vl4, rn_I xl5, rn_I xl6] [rn_I xs0] M Q := by
  refine (rn_step (e := (.ifCond .ne 10, 69, 76, 0, 0, 0, 0, [])) rfl).mpr (And.intro (fun c1 => ?_) (fun c1 => ?_))
  ·
    refine (rn_step (e := (.iload 5, 71, 5, 0, 0, 0, 0, [])) rfl).mpr ?_
    refine (rn_step (e := (.istore_n 3, 72, 3, 0, 0, 0, 0, [])) rfl).mpr ?_
    refine (rn_step (e := (.iload 6, 74, 6, 0, 0, 0, 0, [])) rfl).mpr ?_
    refine (rn_step (e := (.istore 4, 76, 4, 0, 0, 0, 0, [])) rfl).mpr ?_
    refine (rn_step (e := (.iinc 5 1, 79, 5, 0, 0, 0, 0, [])) rfl).mpr (rn_ci (hr1 c1).1 (hr1 c1).2 ?_)
    refine (rn_step (e := (.goto (-70), 82, 9, 0, 0, 0, 0, [])) rfl).mpr ?_
    exact (k1 c1)
  ·
    refine (rn_step (e := (.iinc 5 1, 79, 5, 0, 0, 0, 0, [])) rfl).mpr (rn_ci (hr2 c1).1 (hr2 c1).2 ?_)
    refine (rn_step (e := (.goto (-70), 82, 9, 0, 0, 0, 0, [])) rfl).mpr ?_
    exact (k2 c1)
theorem re_Ju_leastRank {M : rn_M} {Q : rn_Q} {v0 v1 v2 : rn_V} (h : rn_WP 34 0 [v0, v1, v2, rn_J, rn_J] [] M Q) : rn_ME 34 [v0, v1, v2] M Q := h
set_option maxRecDepth 4000 in
theorem rb_Ju_leastRank_0 {M : rn_M} {Q : rn_Q} {rl1 : Option Nat} {rl2 : Option Nat} {vl3 : rn_V} {vl4 : rn_V} (hM : rn_sh M)   (k1 : rn_ME 30 [rn_R 462, .inr (.inl (some rl1)), .inr (.inl (some rl2))] M (fun r M1 => rn_WP 34 6 [rn_R 462, .inr (.inl (some rl1)), .inr (.inl (some rl2)), vl3, vl4] (r.toList ++ []) M1 Q)) : rn_WP 34 0 [rn_R 462, .inr (.inl (some rl1)), .inr (.inl (some rl2)), vl3, vl4] [] M Q := by
  refine (rn_step (e := (.aload_n 0, 1, 0, 0, 0, 0, 0, [])) rfl).mpr ?_
  refine (rn_step (e := (.aload_n 1, 2, 1, 0, 0, 0, 0, [])) rfl).mpr ?_
  refine (rn_step (e := (.aload_n 2, 3, 2, 0, 0, 0, 0, [])) rfl).mpr ?_
  exact (rn_step (e := (.invokevirtual 106, 6, 30, 3, 658, 0, 3, [0])) rfl).mpr (And.intro ((rn_ks462 (M := M) hM)) (k1))
set_option maxRecDepth 4000 in
theorem rb_Ju_leastRank_6 {M : rn_M} {Q : rn_Q} {vl0 : rn_V} {vl1 : rn_V} {vl2 : rn_V} {vl3 : rn_V} {vl4 : rn_V}   (k1 : rn_WP 34 12 [vl0, vl1, vl2, rn_I 10, rn_I 0] [] M Q) : rn_WP 34 6 [vl0, vl1, vl2, vl3, vl4] [] M Q := by
  refine (rn_step (e := (.bipush 10, 8, 0, 0, 0, 0, 0, [])) rfl).mpr ?_
  refine (rn_step (e := (.istore_n 3, 9, 3, 0, 0, 0, 0, [])) rfl).mpr ?_
  refine (rn_step (e := (.iconst 0, 10, 0, 0, 0, 0, 0, [])) rfl).mpr ?_
  refine (rn_step (e := (.istore 4, 12, 4, 0, 0, 0, 0, [])) rfl).mpr ?_
  exact k1
set_option maxRecDepth 4000 in
theorem rb_Ju_leastRank_12 {M : rn_M} {Q : rn_Q} {rl1 : Option Nat} {al2 : Nat} {xl3 : Int} {xl4 : Int} (hM : rn_sh M) (p_al2 : rn_isR al2)  (hr1 : ((-1000 : Int) ≤ rn_gi M al2 3 ∧ (rn_gi M al2 3 : Int) ≤ 1000) ∧ (-1000 ≤ rn_gi M al2 4 ∧ rn_gi M al2 4 ≤ 1000)) (k1 : (rn_gi M al2 4 + 1 - (rn_gi M al2 3) < xl4) → (¬ (1 ≤ xl3 ∧ xl3 ≤ 9)) → Q (some (rn_I (-9))) M) (k2 : (rn_gi M al2 4 + 1 - (rn_gi M al2 3) < xl4) → (1 ≤ xl3 ∧ xl3 ≤ 9) → Q (some (rn_I xl3)) M) (k3 : (¬ (rn_gi M al2 4 + 1 - (rn_gi M al2 3) < xl4)) → rn_ME 27 [rn_R 462, .inr (.inl (some rl1)), rn_R al2, rn_I xl4, rn_I (-1)] M (fun r M1 => rn_WP 34 34 [rn_R 462, .inr (.inl (some rl1)), rn_R al2, rn_I xl3, rn_I xl4] (r.toList ++ []) M1 Q)) : rn_WP 34 12 [rn_R 462, .inr (.inl (some rl1)), rn_R al2, rn_I xl3, rn_I xl4] [] M Q := by
  refine (rn_step (e := (.iload 4, 14, 4, 0, 0, 0, 0, [])) rfl).mpr ?_
  refine (rn_step (e := (.aload_n 2, 15, 2, 0, 0, 0, 0, [])) rfl).mpr ?_
  refine (rn_step (e := (.aload_n 2, 16, 2, 0, 0, 0, 0, [])) rfl).mpr ?_
  refine (rn_step (e := (.getfield 15, 19, 5, 3, 107, 0, 6, [])) rfl).mpr (And.intro ((rn_kR (M := M) hM p_al2)) (?_))
  refine (rn_step (e := (.invokevirtual 21, 22, 68, 2, 324, 0, 6, [0])) rfl).mpr (And.intro ((rn_kR (M := M) hM p_al2)) ((rc_Ri_lastStart hM p_al2 (hr1.1) (hr1.2) ?_)))
  refine (rn_step (e := (.if_icmp .gt 35, 25, 57, 0, 0, 0, 0, [])) rfl).mpr (And.intro (fun c1 => ?_) (fun c1 => ?_))
  ·
    refine (rn_step (e := (.iload_n 3, 58, 3, 0, 0, 0, 0, [])) rfl).mpr ?_
    refine (rn_step (e := (.invokestatic 124, 61, 120, 1, 15, 0, 10, [1])) rfl).mpr (rc_RN_isRank  ?_)
    refine (rn_step (e := (.ifCond .eq 7, 64, 68, 0, 0, 0, 0, [])) rfl).mpr (And.intro (fun q => ?_) (fun q => ?_))
    · have c2 := rn_b0 q
      refine (rn_step (e := (.bipush (-9), 70, 0, 0, 0, 0, 0, [])) rfl).mpr ?_
      exact (rn_step (e := (.ireturn, 71, 0, 0, 0, 0, 0, [])) rfl).mpr (And.intro (trivial) ((k1 c1 c2)))
    · have c2 := rn_b1 q
      refine (rn_step (e := (.iload_n 3, 65, 3, 0, 0, 0, 0, [])) rfl).mpr ?_
      refine (rn_step (e := (.goto 5, 68, 70, 0, 0, 0, 0, [])) rfl).mpr ?_
      exact (rn_step (e := (.ireturn, 71, 0, 0, 0, 0, 0, [])) rfl).mpr (And.intro (trivial) ((k2 c1 c2)))
  ·
    refine (rn_step (e := (.aload_n 0, 26, 0, 0, 0, 0, 0, [])) rfl).mpr ?_
    refine (rn_step (e := (.aload_n 1, 27, 1, 0, 0, 0, 0, [])) rfl).mpr ?_
    refine (rn_step (e := (.aload_n 2, 28, 2, 0, 0, 0, 0, [])) rfl).mpr ?_
    refine (rn_step (e := (.iload 4, 30, 4, 0, 0, 0, 0, [])) rfl).mpr ?_
    refine (rn_step (e := (.iconst (-1), 31, 0, 0, 0, 0, 0, [])) rfl).mpr ?_
    exact (rn_step (e := (.invokevirtual 25, 34, 27, 5, 328, 0, 3, [0])) rfl).mpr (And.intro ((rn_ks462 (M := M) hM)) ((k3 c1)))
set_option maxRecDepth 4000 in
theorem rb_Ju_leastRank_34 {M : rn_M} {Q : rn_Q} {vl1 : rn_V} {rl2 : Option Nat} {xl3 : Int} {xl4 : Int} {xs0 : Int} (hM : rn_sh M)   (hr1 : (¬ (xs0 = 0)) → (-2147483648 : Int) ≤ xl4 + 1 ∧ xl4 + 1 ≤ 2147483647) (k1 : (xs0 = 0) → rn_ME 31 [rn_R 462, .inr (.inl (some rl2)), rn_I xl4] M (fun r M1 => rn_WP 34 45 [rn_R 462, vl1, .inr (.inl (some rl2)), rn_I xl3, rn_I xl4] (r.toList ++ [rn_I xl3]) M1 Q)) (k2 : (¬ (xs0 = 0)) → rn_WP 34 12 [rn_R 462, vl1, .inr (.inl (some rl2)), rn_I xl3, rn_I (xl4 + 1)] [] M Q) : rn_WP 34 34 [rn_R 462, vl1, .inr (.inl (some rl2)), rn_I xl3, rn_I xl4] [rn_I xs0] M Q := by
  refine (rn_step (e := (.ifCond .ne 17, 37, 51, 0, 0, 0, 0, [])) rfl).mpr (And.intro (fun c1 => ?_) (fun c1 => ?_))
  ·
    refine (rn_step (e := (.iload_n 3, 38, 3, 0, 0, 0, 0, [])) rfl).mpr ?_
    refine (rn_step (e := (.aload_n 0, 39, 0, 0, 0, 0, 0, [])) rfl).mpr ?_
    refine (rn_step (e := (.aload_n 2, 40, 2, 0, 0, 0, 0, [])) rfl).mpr ?_
    refine (rn_step (e := (.iload 4, 42, 4, 0, 0, 0, 0, [])) rfl).mpr ?_
    exact (rn_step (e := (.invokevirtual 117, 45, 31, 3, 667, 0, 3, [0])) rfl).mpr (And.intro ((rn_ks462 (M := M) hM)) ((k1 c1)))
  ·
    refine (rn_step (e := (.iinc 4 1, 54, 4, 0, 0, 0, 0, [])) rfl).mpr (rn_ci (hr1 c1).1 (hr1 c1).2 ?_)
    refine (rn_step (e := (.goto (-42), 57, 12, 0, 0, 0, 0, [])) rfl).mpr ?_
    exact (k2 c1)
set_option maxRecDepth 4000 in
theorem rb_Ju_leastRank_45 {M : rn_M} {Q : rn_Q} {vl0 : rn_V} {vl1 : rn_V} {vl2 : rn_V} {vl3 : rn_V} {xl4 : Int} {xs0 : Int} {xs1 : Int}   (hr1 : (-2147483648 : Int) ≤ xs0 + 1 ∧ xs0 + 1 ≤ 2147483647 ∧ (-2147483648 : Int) ≤ xl4 + 1 ∧ xl4 + 1 ≤ 2147483647) (k1 : rn_WP 34 12 [vl0, vl1, vl2, rn_I (min xs1 (xs0 + 1)), rn_I (xl4 + 1)] [] M Q) : rn_WP 34 45 [vl0, vl1, vl2, vl3, rn_I xl4] [rn_I xs0, rn_I xs1] M Q := by
  refine (rn_step (e := (.iconst 1, 46, 0, 0, 0, 0, 0, [])) rfl).mpr ?_
  refine (rn_step (e := (.iadd, 47, 0, 0, 0, 0, 0, [])) rfl).mpr (rn_cw hr1.1 hr1.2.1 ?_)
  refine (rn_step (e := (.invokestatic 121, 50, 206, 2, 721, 6, 0, [0])) rfl).mpr ?_
  refine (rn_step (e := (.istore_n 3, 51, 3, 0, 0, 0, 0, [])) rfl).mpr ?_
  refine (rn_step (e := (.iinc 4 1, 54, 4, 0, 0, 0, 0, [])) rfl).mpr (rn_ci hr1.2.2.1 hr1.2.2.2 ?_)
  refine (rn_step (e := (.goto (-42), 57, 12, 0, 0, 0, 0, [])) rfl).mpr ?_
  exact k1
theorem re_Ju_letterAll {M : rn_M} {Q : rn_Q} {v0 v1 v2 : rn_V} (h : rn_WP 35 0 [v0, v1, v2, rn_J, rn_J, rn_J] [] M Q) : rn_ME 35 [v0, v1, v2] M Q := h
set_option maxRecDepth 4000 in
theorem rb_Ju_letterAll_0 {M : rn_M} {Q : rn_Q} {vl0 : rn_V} {vl1 : rn_V} {vl2 : rn_V} {vl3 : rn_V} {vl4 : rn_V} {vl5 : rn_V}   (k1 : rn_WP 35 3 [vl0, vl1, vl2, rn_I 9, vl4, vl5] [] M Q) : rn_WP 35 0 [vl0, vl1, vl2, vl3, vl4, vl5] [] M Q := by
  refine (rn_step (e := (.bipush 9, 2, 0, 0, 0, 0, 0, [])) rfl).mpr ?_
  refine (rn_step (e := (.istore_n 3, 3, 3, 0, 0, 0, 0, [])) rfl).mpr ?_
  exact k1
set_option maxRecDepth 4000 in
theorem rb_Ju_letterAll_3 {M : rn_M} {Q : rn_Q} {vl0 : rn_V} {vl1 : rn_V} {vl2 : rn_V} {xl3 : Int} {vl4 : rn_V} {vl5 : rn_V}   (k1 : (xl3 < 1) → Q none M) (k2 : (¬ (xl3 < 1)) → rn_WP 35 11 [vl0, vl1, vl2, rn_I xl3, rn_I 0, vl5] [] M Q) : rn_WP 35 3 [vl0, vl1, vl2, rn_I xl3, vl4, vl5] [] M Q := by
  refine (rn_step (e := (.iload_n 3, 4, 3, 0, 0, 0, 0, [])) rfl).mpr ?_
  refine (rn_step (e := (.iconst 1, 5, 0, 0, 0, 0, 0, [])) rfl).mpr ?_
  refine (rn_step (e := (.if_icmp .lt 57, 8, 62, 0, 0, 0, 0, [])) rfl).mpr (And.intro (fun c1 => ?_) (fun c1 => ?_))
  ·
    exact (rn_step (e := (.return_, 63, 0, 0, 0, 0, 0, [])) rfl).mpr (k1 c1)
  ·
    refine (rn_step (e := (.iconst 0, 9, 0, 0, 0, 0, 0, [])) rfl).mpr ?_
    refine (rn_step (e := (.istore 4, 11, 4, 0, 0, 0, 0, [])) rfl).mpr ?_
    exact (k2 c1)
set_option maxRecDepth 4000 in
theorem rb_Ju_letterAll_11 {M : rn_M} {Q : rn_Q} {vl0 : rn_V} {al1 : Nat} {vl2 : rn_V} {xl3 : Int} {xl4 : Int} {vl5 : rn_V} (hM : rn_sh M) (p_al1 : rn_isB al1)  (hr1 : (¬ (xl4 < rn_gi M al1 0)) → (-2147483648 : Int) ≤ xl3 + (-1) ∧ xl3 + (-1) ≤ 2147483647) (k1 : (xl4 < rn_gi M al1 0) → rn_ME 5 [rn_R al1, rn_I xl4] M (fun r M1 => rn_WP 35 26 [vl0, rn_R al1, vl2, rn_I xl3, rn_I xl4, vl5] (r.toList ++ []) M1 Q)) (k2 : (¬ (xl4 < rn_gi M al1 0)) → rn_WP 35 3 [vl0, rn_R al1, vl2, rn_I (xl3 + (-1)), rn_I xl4, vl5] [] M Q) : rn_WP 35 11 [vl0, rn_R al1, vl2, rn_I xl3, rn_I xl4, vl5] [] M Q := by
  refine (rn_step (e := (.iload 4, 13, 4, 0, 0, 0, 0, [])) rfl).mpr ?_
  refine (rn_step (e := (.aload_n 1, 14, 1, 0, 0, 0, 0, [])) rfl).mpr ?_
  refine (rn_step (e := (.getfield 127, 17, 0, 0, 183, 0, 1, [])) rfl).mpr (And.intro ((rn_kB (M := M) hM p_al1)) (?_))
  refine (rn_step (e := (.if_icmp .ge 39, 20, 56, 0, 0, 0, 0, [])) rfl).mpr (And.intro (fun c1 => ?_) (fun c1 => ?_))
  ·
    refine (rn_step (e := (.aload_n 1, 21, 1, 0, 0, 0, 0, [])) rfl).mpr ?_
    refine (rn_step (e := (.iload 4, 23, 4, 0, 0, 0, 0, [])) rfl).mpr ?_
    exact (rn_step (e := (.invokevirtual 130, 26, 5, 2, 653, 0, 1, [0])) rfl).mpr (And.intro ((rn_kB (M := M) hM p_al1)) ((k1 c1)))
  ·
    refine (rn_step (e := (.iinc 3 (-1), 59, 3, 0, 0, 0, 0, [])) rfl).mpr (rn_ci (hr1 c1).1 (hr1 c1).2 ?_)
    refine (rn_step (e := (.goto (-56), 62, 3, 0, 0, 0, 0, [])) rfl).mpr ?_
    exact (k2 c1)
set_option maxRecDepth 4000 in
theorem rb_Ju_letterAll_26n {M : rn_M} {Q : rn_Q} {vl0 : rn_V} {vl1 : rn_V} {vl2 : rn_V} {vl3 : rn_V} {xl4 : Int} {vl5 : rn_V}   (hr1 : (-2147483648 : Int) ≤ xl4 + 1 ∧ xl4 + 1 ≤ 2147483647) (k1 : rn_WP 35 11 [vl0, vl1, vl2, vl3, rn_I (xl4 + 1), rn_N] [] M Q) : rn_WP 35 26 [vl0, vl1, vl2, vl3, rn_I xl4, vl5] [rn_N] M Q := by
  refine (rn_step (e := (.astore 5, 28, 5, 0, 0, 0, 0, [])) rfl).mpr ?_
  refine (rn_step (e := (.aload 5, 30, 5, 0, 0, 0, 0, [])) rfl).mpr ?_
  refine (rn_step (e := (.ifnull 20, 33, 50, 0, 0, 0, 0, [])) rfl).mpr ?_
  refine (rn_step (e := (.iinc 4 1, 53, 4, 0, 0, 0, 0, [])) rfl).mpr (rn_ci hr1.1 hr1.2 ?_)
  refine (rn_step (e := (.goto (-42), 56, 11, 0, 0, 0, 0, [])) rfl).mpr ?_
  exact k1
set_option maxRecDepth 4000 in
theorem rb_Ju_letterAll_26s {M : rn_M} {Q : rn_Q} {rl1 : Option Nat} {xl2 : Int} {xl3 : Int} {xl4 : Int} {vl5 : rn_V} {as0 : Nat} (hM : rn_sh M) (p_as0 : rn_isR as0)  (hr1 : (¬ (rn_gi M as0 1 = xl3)) → (-2147483648 : Int) ≤ xl4 + 1 ∧ xl4 + 1 ≤ 2147483647) (k1 : (rn_gi M as0 1 = xl3) → rn_ME 36 [rn_R 462, .inr (.inl (some rl1)), rn_R as0, rn_I xl2] M (fun r M1 => rn_WP 35 50 [rn_R 462, .inr (.inl (some rl1)), rn_I xl2, rn_I xl3, rn_I xl4, rn_R as0] (r.toList ++ []) M1 Q)) (k2 : (¬ (rn_gi M as0 1 = xl3)) → rn_WP 35 11 [rn_R 462, .inr (.inl (some rl1)), rn_I xl2, rn_I xl3, rn_I (xl4 + 1), rn_R as0] [] M Q) : rn_WP 35 26 [rn_R 462, .inr (.inl (some rl1)), rn_I xl2, rn_I xl3, rn_I xl4, vl5] [rn_R as0] M Q := by
  refine (rn_step (e := (.astore 5, 28, 5, 0, 0, 0, 0, [])) rfl).mpr ?_
  refine (rn_step (e := (.aload 5, 30, 5, 0, 0, 0, 0, [])) rfl).mpr ?_
  refine (rn_step (e := (.ifnull 20, 33, 50, 0, 0, 0, 0, [])) rfl).mpr ?_
  refine (rn_step (e := (.aload 5, 35, 5, 0, 0, 0, 0, [])) rfl).mpr ?_
  refine (rn_step (e := (.getfield 33, 38, 5, 1, 100, 0, 6, [])) rfl).mpr (And.intro ((rn_kR (M := M) hM p_as0)) (?_))
  refine (rn_step (e := (.iload_n 3, 39, 3, 0, 0, 0, 0, [])) rfl).mpr ?_
  refine (rn_step (e := (.if_icmp .ne 11, 42, 50, 0, 0, 0, 0, [])) rfl).mpr (And.intro (fun c1 => ?_) (fun c1 => ?_))
  ·
    refine (rn_step (e := (.aload_n 0, 43, 0, 0, 0, 0, 0, [])) rfl).mpr ?_
    refine (rn_step (e := (.aload_n 1, 44, 1, 0, 0, 0, 0, [])) rfl).mpr ?_
    refine (rn_step (e := (.aload 5, 46, 5, 0, 0, 0, 0, [])) rfl).mpr ?_
    refine (rn_step (e := (.iload_n 2, 47, 2, 0, 0, 0, 0, [])) rfl).mpr ?_
    exact (rn_step (e := (.invokevirtual 134, 50, 36, 4, 654, 0, 3, [0])) rfl).mpr (And.intro ((rn_ks462 (M := M) hM)) ((k1 c1)))
  ·
    refine (rn_step (e := (.iinc 4 1, 53, 4, 0, 0, 0, 0, [])) rfl).mpr (rn_ci (hr1 c1).1 (hr1 c1).2 ?_)
    refine (rn_step (e := (.goto (-42), 56, 11, 0, 0, 0, 0, [])) rfl).mpr ?_
    exact (k2 c1)
set_option maxRecDepth 4000 in
theorem rb_Ju_letterAll_50 {M : rn_M} {Q : rn_Q} {vl0 : rn_V} {vl1 : rn_V} {vl2 : rn_V} {vl3 : rn_V} {xl4 : Int} {vl5 : rn_V}   (hr1 : (-2147483648 : Int) ≤ xl4 + 1 ∧ xl4 + 1 ≤ 2147483647) (k1 : rn_WP 35 11 [vl0, vl1, vl2, vl3, rn_I (xl4 + 1), vl5] [] M Q) : rn_WP 35 50 [vl0, vl1, vl2, vl3, rn_I xl4, vl5] [] M Q := by
  refine (rn_step (e := (.iinc 4 1, 53, 4, 0, 0, 0, 0, [])) rfl).mpr (rn_ci hr1.1 hr1.2 ?_)
  refine (rn_step (e := (.goto (-42), 56, 11, 0, 0, 0, 0, [])) rfl).mpr ?_
  exact k1
theorem re_Ju_letterRiver {M : rn_M} {Q : rn_Q} {v0 v1 v2 v3 : rn_V} (h : rn_WP 36 0 [v0, v1, v2, v3, rn_J, rn_J] [] M Q) : rn_ME 36 [v0, v1, v2, v3] M Q := h
set_option maxRecDepth 4000 in
theorem rb_Ju_letterRiver_0 {M : rn_M} {Q : rn_Q} {rl1 : Option Nat} {rl2 : Option Nat} {vl3 : rn_V} {vl4 : rn_V} {vl5 : rn_V} (hM : rn_sh M)   (k1 : rn_ME 30 [rn_R 462, .inr (.inl (some rl1)), .inr (.inl (some rl2))] M (fun r M1 => rn_WP 36 6 [rn_R 462, .inr (.inl (some rl1)), .inr (.inl (some rl2)), vl3, vl4, vl5] (r.toList ++ []) M1 Q)) : rn_WP 36 0 [rn_R 462, .inr (.inl (some rl1)), .inr (.inl (some rl2)), vl3, vl4, vl5] [] M Q := by
  refine (rn_step (e := (.aload_n 0, 1, 0, 0, 0, 0, 0, [])) rfl).mpr ?_
  refine (rn_step (e := (.aload_n 1, 2, 1, 0, 0, 0, 0, [])) rfl).mpr ?_
  refine (rn_step (e := (.aload_n 2, 3, 2, 0, 0, 0, 0, [])) rfl).mpr ?_
  exact (rn_step (e := (.invokevirtual 106, 6, 30, 3, 658, 0, 3, [0])) rfl).mpr (And.intro ((rn_ks462 (M := M) hM)) (k1))
set_option maxRecDepth 4000 in
theorem rb_Ju_letterRiver_6 {M : rn_M} {Q : rn_Q} {vl0 : rn_V} {vl1 : rn_V} {vl2 : rn_V} {vl3 : rn_V} {vl4 : rn_V} {vl5 : rn_V}   (k1 : rn_WP 36 9 [vl0, vl1, vl2, vl3, rn_I 0, vl5] [] M Q) : rn_WP 36 6 [vl0, vl1, vl2, vl3, vl4, vl5] [] M Q := by
  refine (rn_step (e := (.iconst 0, 7, 0, 0, 0, 0, 0, [])) rfl).mpr ?_
  refine (rn_step (e := (.istore 4, 9, 4, 0, 0, 0, 0, [])) rfl).mpr ?_
  exact k1
set_option maxRecDepth 4000 in
theorem rb_Ju_letterRiver_9 {M : rn_M} {Q : rn_Q} {rl1 : Option Nat} {rl2 : Option Nat} {xl3 : Int} {xl4 : Int} {vl5 : rn_V} (hM : rn_sh M)   (k1 : (xl4 < xl3) → rn_ME 33 [rn_R 462, .inr (.inl (some rl1)), .inr (.inl (some rl2))] M (fun r M1 => rn_WP 36 21 [rn_R 462, .inr (.inl (some rl1)), .inr (.inl (some rl2)), rn_I xl3, rn_I xl4, vl5] (r.toList ++ []) M1 Q)) (k2 : (¬ (xl4 < xl3)) → Q none M) : rn_WP 36 9 [rn_R 462, .inr (.inl (some rl1)), .inr (.inl (some rl2)), rn_I xl3, rn_I xl4, vl5] [] M Q := by
  refine (rn_step (e := (.iload 4, 11, 4, 0, 0, 0, 0, [])) rfl).mpr ?_
  refine (rn_step (e := (.iload_n 3, 12, 3, 0, 0, 0, 0, [])) rfl).mpr ?_
  refine (rn_step (e := (.if_icmp .ge 35, 15, 47, 0, 0, 0, 0, [])) rfl).mpr (And.intro (fun c1 => ?_) (fun c1 => ?_))
  ·
    refine (rn_step (e := (.aload_n 0, 16, 0, 0, 0, 0, 0, [])) rfl).mpr ?_
    refine (rn_step (e := (.aload_n 1, 17, 1, 0, 0, 0, 0, [])) rfl).mpr ?_
    refine (rn_step (e := (.aload_n 2, 18, 2, 0, 0, 0, 0, [])) rfl).mpr ?_
    exact (rn_step (e := (.invokevirtual 110, 21, 33, 3, 662, 0, 3, [0])) rfl).mpr (And.intro ((rn_ks462 (M := M) hM)) ((k1 c1)))
  ·
    exact (rn_step (e := (.return_, 48, 0, 0, 0, 0, 0, [])) rfl).mpr (k2 c1)
set_option maxRecDepth 4000 in
theorem rb_Ju_letterRiver_21 {M : rn_M} {Q : rn_Q} {vl0 : rn_V} {al1 : Nat} {rl2 : Option Nat} {vl3 : rn_V} {vl4 : rn_V} {vl5 : rn_V} {xs0 : Int} (hM : rn_sh M) (p_al1 : rn_isB al1)  (k1 : (xs0 = (-9)) → Q none M) (k2 : (¬ (xs0 = (-9))) → rn_ME 10 [rn_R al1, .inr (.inl (some rl2)), rn_I xs0] M (fun r M1 => rn_WP 36 37 [vl0, rn_R al1, .inr (.inl (some rl2)), vl3, vl4, rn_I xs0] (r.toList ++ []) M1 Q)) : rn_WP 36 21 [vl0, rn_R al1, .inr (.inl (some rl2)), vl3, vl4, vl5] [rn_I xs0] M Q := by
  refine (rn_step (e := (.istore 5, 23, 5, 0, 0, 0, 0, [])) rfl).mpr ?_
  refine (rn_step (e := (.iload 5, 25, 5, 0, 0, 0, 0, [])) rfl).mpr ?_
  refine (rn_step (e := (.bipush (-9), 27, 0, 0, 0, 0, 0, [])) rfl).mpr ?_
  refine (rn_step (e := (.if_icmp .eq 13, 30, 40, 0, 0, 0, 0, [])) rfl).mpr (And.intro (fun c1 => ?_) (fun c1 => ?_))
  ·
    exact (rn_step (e := (.return_, 41, 0, 0, 0, 0, 0, [])) rfl).mpr (k1 c1)
  ·
    refine (rn_step (e := (.aload_n 1, 31, 1, 0, 0, 0, 0, [])) rfl).mpr ?_
    refine (rn_step (e := (.aload_n 2, 32, 2, 0, 0, 0, 0, [])) rfl).mpr ?_
    refine (rn_step (e := (.iload 5, 34, 5, 0, 0, 0, 0, [])) rfl).mpr ?_
    exact (rn_step (e := (.invokevirtual 138, 37, 10, 3, 672, 0, 1, [0])) rfl).mpr (And.intro ((rn_kB (M := M) hM p_al1)) ((k2 c1)))
set_option maxRecDepth 4000 in
theorem rb_Ju_letterRiver_37 {M : rn_M} {Q : rn_Q} {vl0 : rn_V} {vl1 : rn_V} {vl2 : rn_V} {vl3 : rn_V} {xl4 : Int} {vl5 : rn_V} {xs0 : Int}   (hr1 : (¬ (xs0 = 0)) → (-2147483648 : Int) ≤ xl4 + 1 ∧ xl4 + 1 ≤ 2147483647) (k1 : (xs0 = 0) → Q none M) (k2 : (¬ (xs0 = 0)) → rn_WP 36 9 [vl0, vl1, vl2, vl3, rn_I (xl4 + 1), vl5] [] M Q) : rn_WP 36 37 [vl0, vl1, vl2, vl3, rn_I xl4, vl5] [rn_I xs0] M Q := by
  refine (rn_step (e := (.ifCond .ne 4, 40, 41, 0, 0, 0, 0, [])) rfl).mpr (And.intro (fun c1 => ?_) (fun c1 => ?_))
  ·
    exact (rn_step (e := (.return_, 41, 0, 0, 0, 0, 0, [])) rfl).mpr (k1 c1)
  ·
    refine (rn_step (e := (.iinc 4 1, 44, 4, 0, 0, 0, 0, [])) rfl).mpr (rn_ci (hr1 c1).1 (hr1 c1).2 ?_)
    refine (rn_step (e := (.goto (-35), 47, 9, 0, 0, 0, 0, [])) rfl).mpr ?_
    exact (k2 c1)
theorem re_Ju_isMisfit {M : rn_M} {Q : rn_Q} {v0 v1 v2 : rn_V} (h : rn_WP 37 0 [v0, v1, v2, rn_J] [] M Q) : rn_ME 37 [v0, v1, v2] M Q := h
set_option maxRecDepth 4000 in
theorem rb_Ju_isMisfit_0 {M : rn_M} {Q : rn_Q} {vl0 : rn_V} {al1 : Nat} {xl2 : Int} {vl3 : rn_V} (hM : rn_sh M) (p_al1 : rn_isB al1)  (k1 : rn_ME 7 [rn_R al1, rn_I xl2] M (fun r M1 => rn_WP 37 5 [vl0, rn_R al1, rn_I xl2, vl3] (r.toList ++ []) M1 Q)) : rn_WP 37 0 [vl0, rn_R al1, rn_I xl2, vl3] [] M Q := by
  refine (rn_step (e := (.aload_n 1, 1, 1, 0, 0, 0, 0, [])) rfl).mpr ?_
  refine (rn_step (e := (.iload_n 2, 2, 2, 0, 0, 0, 0, [])) rfl).mpr ?_
  exact (rn_step (e := (.invokevirtual 50, 5, 7, 2, 319, 0, 1, [0])) rfl).mpr (And.intro ((rn_kB (M := M) hM p_al1)) (k1))
set_option maxRecDepth 4000 in
theorem rb_Ju_isMisfit_5n {M : rn_M} {Q : rn_Q} {vl0 : rn_V} {vl1 : rn_V} {vl2 : rn_V} {vl3 : rn_V}   (k1 : Q (some (rn_I 0)) M) : rn_WP 37 5 [vl0, vl1, vl2, vl3] [rn_N] M Q := by
  refine (rn_step (e := (.astore_n 3, 6, 3, 0, 0, 0, 0, [])) rfl).mpr ?_
  refine (rn_step (e := (.aload_n 3, 7, 3, 0, 0, 0, 0, [])) rfl).mpr ?_
  refine (rn_step (e := (.ifnull 24, 10, 31, 0, 0, 0, 0, [])) rfl).mpr ?_
  refine (rn_step (e := (.iconst 0, 32, 0, 0, 0, 0, 0, [])) rfl).mpr ?_
  exact (rn_step (e := (.ireturn, 33, 0, 0, 0, 1, 0, [])) rfl).mpr (And.intro ((Or.inl rfl)) (k1))
set_option maxRecDepth 4000 in
theorem rb_Ju_isMisfit_5s {M : rn_M} {Q : rn_Q} {rl1 : Option Nat} {xl2 : Int} {vl3 : rn_V} {as0 : Nat} (hM : rn_sh M) (p_as0 : rn_isL as0)  (hr1 : rn_gr M as0 0 = some (rn_go M as0 0)) (k1 : rn_ME 26 [rn_R 462, .inr (.inl (some rl1)), rn_R (rn_go M as0 0), rn_I (rn_gi M as0 1), rn_I xl2] M (fun r M1 => rn_WP 37 24 [rn_R 462, .inr (.inl (some rl1)), rn_I xl2, rn_R as0] (r.toList ++ []) M1 Q)) : rn_WP 37 5 [rn_R 462, .inr (.inl (some rl1)), rn_I xl2, vl3] [rn_R as0] M Q := by
  refine (rn_step (e := (.astore_n 3, 6, 3, 0, 0, 0, 0, [])) rfl).mpr ?_
  refine (rn_step (e := (.aload_n 3, 7, 3, 0, 0, 0, 0, [])) rfl).mpr ?_
  refine (rn_step (e := (.ifnull 24, 10, 31, 0, 0, 0, 0, [])) rfl).mpr ?_
  refine (rn_step (e := (.aload_n 0, 11, 0, 0, 0, 0, 0, [])) rfl).mpr ?_
  refine (rn_step (e := (.aload_n 1, 12, 1, 0, 0, 0, 0, [])) rfl).mpr ?_
  refine (rn_step (e := (.aload_n 3, 13, 3, 0, 0, 0, 0, [])) rfl).mpr ?_
  refine (rn_step (e := (.getfield 54, 16, 3, 0, 170, 2, 4, [])) rfl).mpr (And.intro ((rn_kL (M := M) hM p_as0)) (rn_cg hr1 ?_))
  refine (rn_step (e := (.aload_n 3, 17, 3, 0, 0, 0, 0, [])) rfl).mpr ?_
  refine (rn_step (e := (.getfield 63, 20, 3, 1, 174, 0, 4, [])) rfl).mpr (And.intro ((rn_kL (M := M) hM p_as0)) (?_))
  refine (rn_step (e := (.iload_n 2, 21, 2, 0, 0, 0, 0, [])) rfl).mpr ?_
  exact (rn_step (e := (.invokevirtual 142, 24, 26, 5, 320, 0, 3, [0])) rfl).mpr (And.intro ((rn_ks462 (M := M) hM)) (k1))
set_option maxRecDepth 4000 in
theorem rb_Ju_isMisfit_24 {M : rn_M} {Q : rn_Q} {vl0 : rn_V} {vl1 : rn_V} {vl2 : rn_V} {vl3 : rn_V} {xs0 : Int}   (k1 : (xs0 = 0) → Q (some (rn_I 0)) M) (k2 : (¬ (xs0 = 0)) → Q (some (rn_I 1)) M) : rn_WP 37 24 [vl0, vl1, vl2, vl3] [rn_I xs0] M Q := by
  refine (rn_step (e := (.ifCond .eq 7, 27, 31, 0, 0, 0, 0, [])) rfl).mpr (And.intro (fun c1 => ?_) (fun c1 => ?_))
  ·
    refine (rn_step (e := (.iconst 0, 32, 0, 0, 0, 0, 0, [])) rfl).mpr ?_
    exact (rn_step (e := (.ireturn, 33, 0, 0, 0, 1, 0, [])) rfl).mpr (And.intro ((Or.inl rfl)) ((k1 c1)))
  ·
    refine (rn_step (e := (.iconst 1, 28, 0, 0, 0, 0, 0, [])) rfl).mpr ?_
    refine (rn_step (e := (.goto 4, 31, 32, 0, 0, 0, 0, [])) rfl).mpr ?_
    exact (rn_step (e := (.ireturn, 33, 0, 0, 0, 1, 0, [])) rfl).mpr (And.intro ((Or.inr rfl)) ((k2 c1)))
theorem re_Ju_misfits {M : rn_M} {Q : rn_Q} {v0 v1 : rn_V} (h : rn_WP 38 0 [v0, v1, rn_J, rn_J] [] M Q) : rn_ME 38 [v0, v1] M Q := h
set_option maxRecDepth 4000 in
theorem rb_Ju_misfits_0 {M : rn_M} {Q : rn_Q} {vl0 : rn_V} {vl1 : rn_V} {vl2 : rn_V} {vl3 : rn_V}   (k1 : rn_WP 38 4 [vl0, vl1, rn_I 0, rn_I 0] [] M Q) : rn_WP 38 0 [vl0, vl1, vl2, vl3] [] M Q := by
  refine (rn_step (e := (.iconst 0, 1, 0, 0, 0, 0, 0, [])) rfl).mpr ?_
  refine (rn_step (e := (.istore_n 2, 2, 2, 0, 0, 0, 0, [])) rfl).mpr ?_
  refine (rn_step (e := (.iconst 0, 3, 0, 0, 0, 0, 0, [])) rfl).mpr ?_
  refine (rn_step (e := (.istore_n 3, 4, 3, 0, 0, 0, 0, [])) rfl).mpr ?_
  exact k1
set_option maxRecDepth 4000 in
theorem rb_Ju_misfits_4 {M : rn_M} {Q : rn_Q} {al1 : Nat} {xl2 : Int} {xl3 : Int} (hM : rn_sh M) (p_al1 : rn_isB al1)  (k1 : (xl3 < rn_gi M al1 2) → rn_ME 37 [rn_R 462, rn_R al1, rn_I xl3] M (fun r M1 => rn_WP 38 18 [rn_R 462, rn_R al1, rn_I xl2, rn_I xl3] (r.toList ++ []) M1 Q)) (k2 : (¬ (xl3 < rn_gi M al1 2)) → Q (some (rn_I xl2)) M) : rn_WP 38 4 [rn_R 462, rn_R al1, rn_I xl2, rn_I xl3] [] M Q := by
  refine (rn_step (e := (.iload_n 3, 5, 3, 0, 0, 0, 0, [])) rfl).mpr ?_
  refine (rn_step (e := (.aload_n 1, 6, 1, 0, 0, 0, 0, [])) rfl).mpr ?_
  refine (rn_step (e := (.getfield 45, 9, 0, 2, 189, 0, 1, [])) rfl).mpr (And.intro ((rn_kB (M := M) hM p_al1)) (?_))
  refine (rn_step (e := (.if_icmp .ge 21, 12, 30, 0, 0, 0, 0, [])) rfl).mpr (And.intro (fun c1 => ?_) (fun c1 => ?_))
  ·
    refine (rn_step (e := (.aload_n 0, 13, 0, 0, 0, 0, 0, [])) rfl).mpr ?_
    refine (rn_step (e := (.aload_n 1, 14, 1, 0, 0, 0, 0, [])) rfl).mpr ?_
    refine (rn_step (e := (.iload_n 3, 15, 3, 0, 0, 0, 0, [])) rfl).mpr ?_
    exact (rn_step (e := (.invokevirtual 146, 18, 37, 3, 315, 0, 3, [0])) rfl).mpr (And.intro ((rn_ks462 (M := M) hM)) ((k1 c1)))
  ·
    refine (rn_step (e := (.iload_n 2, 31, 2, 0, 0, 0, 0, [])) rfl).mpr ?_
    exact (rn_step (e := (.ireturn, 32, 0, 0, 0, 0, 0, [])) rfl).mpr (And.intro (trivial) ((k2 c1)))
set_option maxRecDepth 4000 in
theorem rb_Ju_misfits_18 {M : rn_M} {Q : rn_Q} {vl0 : rn_V} {vl1 : rn_V} {xl2 : Int} {xl3 : Int} {xs0 : Int}   (hr1 : (xs0 = 0) → (-2147483648 : Int) ≤ xl3 + 1 ∧ xl3 + 1 ≤ 2147483647) (hr2 : (¬ (xs0 = 0)) → (-2147483648 : Int) ≤ xl2 + 1 ∧ xl2 + 1 ≤ 2147483647 ∧ (-2147483648 : Int) ≤ xl3 + 1 ∧ xl3 + 1 ≤ 2147483647) (k1 : (xs0 = 0) → rn_WP 38 4 [vl0, vl1, rn_I xl2, rn_I (xl3 + 1)] [] M Q) (k2 : (¬ (xs0 = 0)) → rn_WP 38 4 [vl0, vl1, rn_I (xl2 + 1), rn_I (xl3 + 1)] [] M Q) : rn_WP 38 18 [vl0, vl1, rn_I xl2, rn_I xl3] [rn_I xs0] M Q := by
  refine (rn_step (e := (.ifCond .eq 6, 21, 24, 0, 0, 0, 0, [])) rfl).mpr (And.intro (fun c1 => ?_) (fun c1 => ?_))
  ·
    refine (rn_step (e := (.iinc 3 1, 27, 3, 0, 0, 0, 0, [])) rfl).mpr (rn_ci (hr1 c1).1 (hr1 c1).2 ?_)
    refine (rn_step (e := (.goto (-23), 30, 4, 0, 0, 0, 0, [])) rfl).mpr ?_
    exact (k1 c1)
  ·
    refine (rn_step (e := (.iinc 2 1, 24, 2, 0, 0, 0, 0, [])) rfl).mpr (rn_ci (hr2 c1).1 (hr2 c1).2.1 ?_)
    refine (rn_step (e := (.iinc 3 1, 27, 3, 0, 0, 0, 0, [])) rfl).mpr (rn_ci (hr2 c1).2.2.1 (hr2 c1).2.2.2 ?_)
    refine (rn_step (e := (.goto (-23), 30, 4, 0, 0, 0, 0, [])) rfl).mpr ?_
    exact (k2 c1)
theorem re_Ju_dropMisfits {M : rn_M} {Q : rn_Q} {v0 v1 : rn_V} (h : rn_WP 39 0 [v0, v1, rn_J, rn_J, rn_J] [] M Q) : rn_ME 39 [v0, v1] M Q := h
set_option maxRecDepth 4000 in
theorem rb_Ju_dropMisfits_0 {M : rn_M} {Q : rn_Q} {vl0 : rn_V} {al1 : Nat} {vl2 : rn_V} {vl3 : rn_V} {vl4 : rn_V} (hM : rn_sh M) (p_al1 : rn_isB al1)  (k1 : rn_WP 39 10 [vl0, rn_R al1, rn_I (rn_gi M al1 2), rn_I 0, rn_I 0] [] M Q) : rn_WP 39 0 [vl0, rn_R al1, vl2, vl3, vl4] [] M Q := by
  refine (rn_step (e := (.aload_n 1, 1, 1, 0, 0, 0, 0, [])) rfl).mpr ?_
  refine (rn_step (e := (.getfield 45, 4, 0, 2, 189, 0, 1, [])) rfl).mpr (And.intro ((rn_kB (M := M) hM p_al1)) (?_))
  refine (rn_step (e := (.istore_n 2, 5, 2, 0, 0, 0, 0, [])) rfl).mpr ?_
  refine (rn_step (e := (.iconst 0, 6, 0, 0, 0, 0, 0, [])) rfl).mpr ?_
  refine (rn_step (e := (.istore_n 3, 7, 3, 0, 0, 0, 0, [])) rfl).mpr ?_
  refine (rn_step (e := (.iconst 0, 8, 0, 0, 0, 0, 0, [])) rfl).mpr ?_
  refine (rn_step (e := (.istore 4, 10, 4, 0, 0, 0, 0, [])) rfl).mpr ?_
  exact k1
set_option maxRecDepth 4000 in
theorem rb_Ju_dropMisfits_10 {M : rn_M} {Q : rn_Q} {al1 : Nat} {xl2 : Int} {xl3 : Int} {xl4 : Int} (hM : rn_sh M) (p_al1 : rn_isB al1)  (hr1 : (¬ (xl4 < xl2)) → (-2147483648 : Int) ≤ xl2 - (rn_gi M al1 2) ∧ xl2 - (rn_gi M al1 2) ≤ 2147483647) (k1 : (xl4 < xl2) → rn_ME 37 [rn_R 462, rn_R al1, rn_I xl3] M (fun r M1 => rn_WP 39 22 [rn_R 462, rn_R al1, rn_I xl2, rn_I xl3, rn_I xl4] (r.toList ++ []) M1 Q)) (k2 : (¬ (xl4 < xl2)) → Q (some (rn_I (xl2 - (rn_gi M al1 2)))) M) : rn_WP 39 10 [rn_R 462, rn_R al1, rn_I xl2, rn_I xl3, rn_I xl4] [] M Q := by
  refine (rn_step (e := (.iload 4, 12, 4, 0, 0, 0, 0, [])) rfl).mpr ?_
  refine (rn_step (e := (.iload_n 2, 13, 2, 0, 0, 0, 0, [])) rfl).mpr ?_
  refine (rn_step (e := (.if_icmp .ge 30, 16, 43, 0, 0, 0, 0, [])) rfl).mpr (And.intro (fun c1 => ?_) (fun c1 => ?_))
  ·
    refine (rn_step (e := (.aload_n 0, 17, 0, 0, 0, 0, 0, [])) rfl).mpr ?_
    refine (rn_step (e := (.aload_n 1, 18, 1, 0, 0, 0, 0, [])) rfl).mpr ?_
    refine (rn_step (e := (.iload_n 3, 19, 3, 0, 0, 0, 0, [])) rfl).mpr ?_
    exact (rn_step (e := (.invokevirtual 146, 22, 37, 3, 315, 0, 3, [0])) rfl).mpr (And.intro ((rn_ks462 (M := M) hM)) ((k1 c1)))
  ·
    refine (rn_step (e := (.iload_n 2, 44, 2, 0, 0, 0, 0, [])) rfl).mpr ?_
    refine (rn_step (e := (.aload_n 1, 45, 1, 0, 0, 0, 0, [])) rfl).mpr ?_
    refine (rn_step (e := (.getfield 45, 48, 0, 2, 189, 0, 1, [])) rfl).mpr (And.intro ((rn_kB (M := M) hM p_al1)) (?_))
    refine (rn_step (e := (.isub, 49, 0, 0, 0, 0, 0, [])) rfl).mpr (rn_cw (hr1 c1).1 (hr1 c1).2 ?_)
    exact (rn_step (e := (.ireturn, 50, 0, 0, 0, 0, 0, [])) rfl).mpr (And.intro (trivial) ((k2 c1)))
set_option maxRecDepth 4000 in
theorem rb_Ju_dropMisfits_22 {M : rn_M} {Q : rn_Q} {vl0 : rn_V} {al1 : Nat} {vl2 : rn_V} {xl3 : Int} {xl4 : Int} {xs0 : Int} (hM : rn_sh M) (p_al1 : rn_isB al1)  (hr1 : (xs0 = 0) → (-2147483648 : Int) ≤ xl3 + 1 ∧ xl3 + 1 ≤ 2147483647 ∧ (-2147483648 : Int) ≤ xl4 + 1 ∧ xl4 + 1 ≤ 2147483647) (k1 : (xs0 = 0) → rn_WP 39 10 [vl0, rn_R al1, vl2, rn_I (xl3 + 1), rn_I (xl4 + 1)] [] M Q) (k2 : (¬ (xs0 = 0)) → rn_ME 11 [rn_R al1, rn_I xl3] M (fun r M1 => rn_WP 39 30 [vl0, rn_R al1, vl2, rn_I xl3, rn_I xl4] (r.toList ++ []) M1 Q)) : rn_WP 39 22 [vl0, rn_R al1, vl2, rn_I xl3, rn_I xl4] [rn_I xs0] M Q := by
  refine (rn_step (e := (.ifCond .eq 12, 25, 34, 0, 0, 0, 0, [])) rfl).mpr (And.intro (fun c1 => ?_) (fun c1 => ?_))
  ·
    refine (rn_step (e := (.iinc 3 1, 37, 3, 0, 0, 0, 0, [])) rfl).mpr (rn_ci (hr1 c1).1 (hr1 c1).2.1 ?_)
    refine (rn_step (e := (.iinc 4 1, 40, 4, 0, 0, 0, 0, [])) rfl).mpr (rn_ci (hr1 c1).2.2.1 (hr1 c1).2.2.2 ?_)
    refine (rn_step (e := (.goto (-30), 43, 10, 0, 0, 0, 0, [])) rfl).mpr ?_
    exact (k1 c1)
  ·
    refine (rn_step (e := (.aload_n 1, 26, 1, 0, 0, 0, 0, [])) rfl).mpr ?_
    refine (rn_step (e := (.iload_n 3, 27, 3, 0, 0, 0, 0, [])) rfl).mpr ?_
    exact (rn_step (e := (.invokevirtual 150, 30, 11, 2, 746, 0, 1, [0])) rfl).mpr (And.intro ((rn_kB (M := M) hM p_al1)) ((k2 c1)))
set_option maxRecDepth 4000 in
theorem rb_Ju_dropMisfits_30 {M : rn_M} {Q : rn_Q} {vl0 : rn_V} {vl1 : rn_V} {vl2 : rn_V} {vl3 : rn_V} {xl4 : Int} {xs0 : Int}   (hr1 : (-2147483648 : Int) ≤ xl4 + 1 ∧ xl4 + 1 ≤ 2147483647) (k1 : rn_WP 39 10 [vl0, vl1, vl2, vl3, rn_I (xl4 + 1)] [] M Q) : rn_WP 39 30 [vl0, vl1, vl2, vl3, rn_I xl4] [rn_I xs0] M Q := by
  refine (rn_step (e := (.pop, 31, 0, 0, 0, 0, 0, [])) rfl).mpr ?_
  refine (rn_step (e := (.goto 6, 34, 37, 0, 0, 0, 0, [])) rfl).mpr ?_
  refine (rn_step (e := (.iinc 4 1, 40, 4, 0, 0, 0, 0, [])) rfl).mpr (rn_ci hr1.1 hr1.2 ?_)
  refine (rn_step (e := (.goto (-30), 43, 10, 0, 0, 0, 0, [])) rfl).mpr ?_
  exact k1
