theorem re_Lw_refused {M : rn_M} {Q : rn_Q} {v0 : rn_V} (h : rn_WP 127 0 [v0, rn_J, rn_J, rn_J, rn_J, rn_J, rn_J, rn_J] [] M Q) : rn_ME 127 [v0] M Q := h
set_option maxRecDepth 4000 in
theorem rb_Lw_refused_0 {M : rn_M} {Q : rn_Q} {G : Nat × (Nat → Int)} {N : Nat → Int} {n : Int} {K : Nat → Nat → Int} {vl1 : rn_V} {vl2 : rn_V} {vl3 : rn_V} {vl4 : rn_V} {vl5 : rn_V} {vl6 : rn_V} {vl7 : rn_V} (J : rn_Jq G M N n K)   (hr1 : (¬ ((1 : Int) ≤ (-1) ∧ ((-1) : Int) ≤ 255)) ∧ ¬ rn_rg 1 ((-1)) 0 1 0 ∧ ¬ rn_rg 1 0 0 0 0 ∧ ¬ rn_tg 50 0 11 1 1 ∧ ¬ rn_tg 0 0 1 1 10 ∧ (¬ (((0 : Int) ≤ N 0 ∧ N 0 < N 0) ∧ (0 : Int) ≤ 0 ∧ (0 : Int) ≤ 7)) ∧ (¬ (((0 : Int) ≤ N 0 ∧ N 0 < N 0) ∧ (1 : Int) ≤ 1 ∧ (1 : Int) ≤ 9)) ∧ (¬ (((0 : Int) ≤ (-1) ∧ (-1) < N 0) ∧ (0 : Int) ≤ 0 ∧ (0 : Int) ≤ 2)) ∧ (¬ (((0 : Int) ≤ N 1 ∧ N 1 < N 1) ∧ (1 : Int) ≤ 1 ∧ (1 : Int) ≤ 9)) ∧ (¬ ((0 : Int) ≤ (-1) ∧ ((-1) : Int) ≤ 60)) ∧ (¬ (((0 : Int) ≤ N 0 ∧ N 0 < N 0) ∧ (0 : Int) ≤ 0 ∧ (0 : Int) ≤ 60)) ∧ (¬ ((0 : Int) ≤ N 2 ∧ N 2 < N 2)) ∧ (¬ ((1 : Int) ≤ 0 ∧ (0 : Int) ≤ 5)) ∧ (¬ ((0 : Int) ≤ N 0 ∧ N 0 < N 0)) ∧ (¬ (((0 : Int) ≤ (-1) ∧ (-1) < N 0) ∧ (0 : Int) ≤ 0 ∧ (0 : Int) ≤ 60)) ∧ (¬ ((0 : Int) ≤ N 1 ∧ N 1 < N 1)) ∧ (¬ (((0 : Int) ≤ (-1) ∧ ((-1) : Int) < 60) ∧ (0 : Int) ≤ 0 ∧ (0 : Int) < 40)) ∧ (¬ (((0 : Int) ≤ N 0 ∧ N 0 < N 0) ∧ (0 : Int) ≤ 0 ∧ (0 : Int) ≤ 1)) ∧ (¬ ((0 : Int) ≤ (-1) ∧ (-1) < N 0))) (hr2 : (N 0 < 6) → (N 1 < 10) → (N 0 = 0) → (lg_cmp (rn_pr N) (rn_pr N)).toInt = 0 ∧ n = n) (hr3 : (N 0 < 6) → (N 1 < 10) → (¬ (N 0 = 0)) → (¬ (((0 : Int) ≤ 0 ∧ 0 < N 0) ∧ (0 : Int) ≤ 8 ∧ (8 : Int) ≤ 7)) ∧ (¬ (((0 : Int) ≤ 0 ∧ 0 < N 0) ∧ (0 : Int) ≤ 2 ∧ (2 : Int) ≤ 1)) ∧ (¬ (((0 : Int) ≤ 0 ∧ 0 < N 0) ∧ (0 : Int) ≤ 61 ∧ (61 : Int) ≤ 60)) ∧ (lg_cmp (rn_pr N) (rn_pr N)).toInt = 0 ∧ n = n) (hr4 : (N 0 < 6) → (¬ (N 1 < 10)) → (rn_tg 0 0 1 1 1 ∧ N 1 = 10)) (hr5 : (N 0 < 6) → (¬ (N 1 < 10)) → (N 0 = 0) → (lg_cmp (rn_pr N) (rn_pr N)).toInt = 0 ∧ n = n) (hr6 : (N 0 < 6) → (¬ (N 1 < 10)) → (¬ (N 0 = 0)) → (¬ (((0 : Int) ≤ 0 ∧ 0 < N 0) ∧ (0 : Int) ≤ 8 ∧ (8 : Int) ≤ 7)) ∧ (¬ (((0 : Int) ≤ 0 ∧ 0 < N 0) ∧ (0 : Int) ≤ 2 ∧ (2 : Int) ≤ 1)) ∧ (¬ (((0 : Int) ≤ 0 ∧ 0 < N 0) ∧ (0 : Int) ≤ 61 ∧ (61 : Int) ≤ 60)) ∧ (lg_cmp (rn_pr N) (rn_pr N)).toInt = 0 ∧ n = n) (hr7 : (¬ (N 0 < 6)) → (rn_rg 1 0 0 1 0 ∧ N 0 = 6)) (hr8 : (¬ (N 0 < 6)) → (N 1 < 10) → (N 0 = 0) → (lg_cmp (rn_pr N) (rn_pr N)).toInt = 0 ∧ n = n) (hr9 : (¬ (N 0 < 6)) → (N 1 < 10) → (¬ (N 0 = 0)) → (¬ (((0 : Int) ≤ 0 ∧ 0 < N 0) ∧ (0 : Int) ≤ 8 ∧ (8 : Int) ≤ 7)) ∧ (¬ (((0 : Int) ≤ 0 ∧ 0 < N 0) ∧ (0 : Int) ≤ 2 ∧ (2 : Int) ≤ 1)) ∧ (¬ (((0 : Int) ≤ 0 ∧ 0 < N 0) ∧ (0 : Int) ≤ 61 ∧ (61 : Int) ≤ 60)) ∧ (lg_cmp (rn_pr N) (rn_pr N)).toInt = 0 ∧ n = n) (hr10 : (¬ (N 0 < 6)) → (¬ (N 1 < 10)) → (rn_tg 0 0 1 1 1 ∧ N 1 = 10)) (hr11 : (¬ (N 0 < 6)) → (¬ (N 1 < 10)) → (N 0 = 0) → (lg_cmp (rn_pr N) (rn_pr N)).toInt = 0 ∧ n = n) (hr12 : (¬ (N 0 < 6)) → (¬ (N 1 < 10)) → (¬ (N 0 = 0)) → (¬ (((0 : Int) ≤ 0 ∧ 0 < N 0) ∧ (0 : Int) ≤ 8 ∧ (8 : Int) ≤ 7)) ∧ (¬ (((0 : Int) ≤ 0 ∧ 0 < N 0) ∧ (0 : Int) ≤ 2 ∧ (2 : Int) ≤ 1)) ∧ (¬ (((0 : Int) ≤ 0 ∧ 0 < N 0) ∧ (0 : Int) ≤ 61 ∧ (61 : Int) ≤ 60)) ∧ (lg_cmp (rn_pr N) (rn_pr N)).toInt = 0 ∧ n = n) (k1 : (N 0 < 6) → (N 1 < 10) → (N 0 = 0) → ∀ M', rn_Jq G M' N n K → Q (some (rn_I 1)) M') (k2 : (N 0 < 6) → (N 1 < 10) → (¬ (N 0 = 0)) → ∀ M', rn_Jq G M' N n K → Q (some (rn_I 1)) M') (k3 : (N 0 < 6) → (¬ (N 1 < 10)) → (N 0 = 0) → ∀ M', rn_Jq G M' N n K → Q (some (rn_I 1)) M') (k4 : (N 0 < 6) → (¬ (N 1 < 10)) → (¬ (N 0 = 0)) → ∀ M', rn_Jq G M' N n K → Q (some (rn_I 1)) M') (k5 : (¬ (N 0 < 6)) → (N 1 < 10) → (N 0 = 0) → ∀ M', rn_Jq G M' N n K → Q (some (rn_I 1)) M') (k6 : (¬ (N 0 < 6)) → (N 1 < 10) → (¬ (N 0 = 0)) → ∀ M', rn_Jq G M' N n K → Q (some (rn_I 1)) M') (k7 : (¬ (N 0 < 6)) → (¬ (N 1 < 10)) → (N 0 = 0) → ∀ M', rn_Jq G M' N n K → Q (some (rn_I 1)) M') (k8 : (¬ (N 0 < 6)) → (¬ (N 1 < 10)) → (¬ (N 0 = 0)) → ∀ M', rn_Jq G M' N n K → Q (some (rn_I 1)) M') : rn_WP 127 0 [rn_R 8, vl1, vl2, vl3, vl4, vl5, vl6, vl7] [] M Q := by
  refine (rn_step (e := (.aload_n 0, 1, 0, 0, 0, 0, 0, [])) rfl).mpr ?_
  refine (rn_step (e := (.invokestatic 35, 4, 126, 1, 421, 0, 0, [0])) rfl).mpr (iq_print J  (fun M1 J1 => ?_))
  refine (rn_step (e := (.lstore_n 1, 5, 1, 0, 0, 1, 0, [])) rfl).mpr (And.intro (rn_lnq rfl rfl) (?_))
  refine (rn_step (e := (.aload_n 0, 6, 0, 0, 0, 0, 0, [])) rfl).mpr ?_
  refine (rn_step (e := (.bipush 8, 8, 0, 0, 0, 0, 0, [])) rfl).mpr ?_
  refine (rn_step (e := (.invokevirtual 13, 11, 106, 2, 276, 0, 10, [0])) rfl).mpr (And.intro ((rn_J8 J1)) ((iq_count8 J1  (fun M2 J2 => ?_))))
  refine (rn_step (e := (.istore_n 3, 12, 3, 0, 0, 1, 0, [])) rfl).mpr (And.intro (rn_lnq rfl rfl) (?_))
  refine (rn_step (e := (.aload_n 0, 13, 0, 0, 0, 0, 0, [])) rfl).mpr ?_
  refine (rn_step (e := (.iconst 0, 14, 0, 0, 0, 0, 0, [])) rfl).mpr ?_
  refine (rn_step (e := (.invokevirtual 13, 17, 106, 2, 276, 0, 10, [0])) rfl).mpr (And.intro ((rn_J8 J2)) ((iq_count0 J2  (fun M3 J3 => ?_))))
  refine (rn_step (e := (.istore 4, 19, 4, 0, 0, 1, 0, [])) rfl).mpr (And.intro (rn_lnq rfl rfl) (?_))
  refine (rn_step (e := (.aload_n 0, 20, 0, 0, 0, 0, 0, [])) rfl).mpr ?_
  refine (rn_step (e := (.iconst 1, 21, 0, 0, 0, 0, 0, [])) rfl).mpr ?_
  refine (rn_step (e := (.invokevirtual 13, 24, 106, 2, 276, 0, 10, [0])) rfl).mpr (And.intro ((rn_J8 J3)) ((iq_count1 J3  (fun M4 J4 => ?_))))
  refine (rn_step (e := (.istore 5, 26, 5, 0, 0, 1, 0, [])) rfl).mpr (And.intro (rn_lnq rfl rfl) (?_))
  refine (rn_step (e := (.aload_n 0, 27, 0, 0, 0, 0, 0, [])) rfl).mpr ?_
  refine (rn_step (e := (.iconst 2, 28, 0, 0, 0, 0, 0, [])) rfl).mpr ?_
  refine (rn_step (e := (.invokevirtual 13, 31, 106, 2, 276, 0, 10, [0])) rfl).mpr (And.intro ((rn_J8 J4)) ((iq_count2 J4  (fun M5 J5 => ?_))))
  refine (rn_step (e := (.istore 6, 33, 6, 0, 0, 1, 0, [])) rfl).mpr (And.intro (rn_lnq rfl rfl) (?_))
  refine (rn_step (e := (.aload_n 0, 34, 0, 0, 0, 0, 0, [])) rfl).mpr ?_
  refine (rn_step (e := (.iconst (-1), 35, 0, 0, 0, 0, 0, [])) rfl).mpr ?_
  refine (rn_step (e := (.invokevirtual 41, 38, 91, 2, 500, 0, 10, [0])) rfl).mpr (And.intro ((rn_J8 J5)) ((iq_appendB J5 (hr1.1) (fun M6 J6 => ?_))))
  refine (rn_step (e := (.iconst (-1), 39, 0, 0, 0, 0, 0, [])) rfl).mpr ?_
  refine (rn_step (e := (.if_icmp .ne 175, 42, 214, 0, 0, 0, 0, [])) rfl).mpr (And.intro (fun q => ?_) (fun q => absurd (by decide) q))
  refine (rn_step (e := (.aload_n 0, 43, 0, 0, 0, 0, 0, [])) rfl).mpr ?_
  refine (rn_step (e := (.iconst 1, 44, 0, 0, 0, 0, 0, [])) rfl).mpr ?_
  refine (rn_step (e := (.iconst (-1), 45, 0, 0, 0, 0, 0, [])) rfl).mpr ?_
  refine (rn_step (e := (.iconst 0, 46, 0, 0, 0, 0, 0, [])) rfl).mpr ?_
  refine (rn_step (e := (.iconst 1, 47, 0, 0, 0, 0, 0, [])) rfl).mpr ?_
  refine (rn_step (e := (.iconst 0, 48, 0, 0, 0, 0, 0, [])) rfl).mpr ?_
  refine (rn_step (e := (.invokevirtual 44, 51, 94, 6, 509, 0, 10, [0])) rfl).mpr (And.intro ((rn_J8 J6)) ((iq_addRiverB J6 (hr1.2.1) (fun M7 J7 => ?_))))
  refine (rn_step (e := (.iconst (-1), 52, 0, 0, 0, 0, 0, [])) rfl).mpr ?_
  refine (rn_step (e := (.if_icmp .ne 162, 55, 214, 0, 0, 0, 0, [])) rfl).mpr (And.intro (fun q => ?_) (fun q => absurd (by decide) q))
  refine (rn_step (e := (.aload_n 0, 56, 0, 0, 0, 0, 0, [])) rfl).mpr ?_
  refine (rn_step (e := (.iconst 1, 57, 0, 0, 0, 0, 0, [])) rfl).mpr ?_
  refine (rn_step (e := (.iconst 0, 58, 0, 0, 0, 0, 0, [])) rfl).mpr ?_
  refine (rn_step (e := (.iconst 0, 59, 0, 0, 0, 0, 0, [])) rfl).mpr ?_
  refine (rn_step (e := (.iconst 0, 60, 0, 0, 0, 0, 0, [])) rfl).mpr ?_
  refine (rn_step (e := (.iconst 0, 61, 0, 0, 0, 0, 0, [])) rfl).mpr ?_
  refine (rn_step (e := (.invokevirtual 44, 64, 94, 6, 509, 0, 10, [0])) rfl).mpr (And.intro ((rn_J8 J7)) ((iq_addRiverB J7 (hr1.2.2.1) (fun M8 J8 => ?_))))
  refine (rn_step (e := (.iconst (-1), 65, 0, 0, 0, 0, 0, [])) rfl).mpr ?_
  refine (rn_step (e := (.if_icmp .ne 149, 68, 214, 0, 0, 0, 0, [])) rfl).mpr (And.intro (fun q => ?_) (fun q => absurd (by decide) q))
  refine (rn_step (e := (.aload_n 0, 69, 0, 0, 0, 0, 0, [])) rfl).mpr ?_
  refine (rn_step (e := (.bipush 50, 71, 0, 0, 0, 0, 0, [])) rfl).mpr ?_
  refine (rn_step (e := (.iconst 0, 72, 0, 0, 0, 0, 0, [])) rfl).mpr ?_
  refine (rn_step (e := (.bipush 11, 74, 0, 0, 0, 0, 0, [])) rfl).mpr ?_
  refine (rn_step (e := (.iconst 1, 75, 0, 0, 0, 0, 0, [])) rfl).mpr ?_
  refine (rn_step (e := (.iconst 1, 76, 0, 0, 0, 0, 0, [])) rfl).mpr ?_
  refine (rn_step (e := (.invokevirtual 48, 79, 95, 6, 592, 0, 10, [0])) rfl).mpr (And.intro ((rn_J8 J8)) ((iq_addTownB J8 (hr1.2.2.2.1) (fun M9 J9 => ?_))))
  refine (rn_step (e := (.iconst (-1), 80, 0, 0, 0, 0, 0, [])) rfl).mpr ?_
  refine (rn_step (e := (.if_icmp .ne 134, 83, 214, 0, 0, 0, 0, [])) rfl).mpr (And.intro (fun q => ?_) (fun q => absurd (by decide) q))
  refine (rn_step (e := (.aload_n 0, 84, 0, 0, 0, 0, 0, [])) rfl).mpr ?_
  refine (rn_step (e := (.iconst 0, 85, 0, 0, 0, 0, 0, [])) rfl).mpr ?_
  refine (rn_step (e := (.iconst 0, 86, 0, 0, 0, 0, 0, [])) rfl).mpr ?_
  refine (rn_step (e := (.iconst 1, 87, 0, 0, 0, 0, 0, [])) rfl).mpr ?_
  refine (rn_step (e := (.iconst 1, 88, 0, 0, 0, 0, 0, [])) rfl).mpr ?_
  refine (rn_step (e := (.bipush 10, 90, 0, 0, 0, 0, 0, [])) rfl).mpr ?_
  refine (rn_step (e := (.invokevirtual 48, 93, 95, 6, 592, 0, 10, [0])) rfl).mpr (And.intro ((rn_J8 J9)) ((iq_addTownB J9 (hr1.2.2.2.2.1) (fun M10 J10 => ?_))))
  refine (rn_step (e := (.iconst (-1), 94, 0, 0, 0, 0, 0, [])) rfl).mpr ?_
  refine (rn_step (e := (.if_icmp .ne 120, 97, 214, 0, 0, 0, 0, [])) rfl).mpr (And.intro (fun q => ?_) (fun q => absurd (by decide) q))
  refine (rn_step (e := (.aload_n 0, 98, 0, 0, 0, 0, 0, [])) rfl).mpr ?_
  refine (rn_step (e := (.iload 4, 100, 4, 0, 0, 0, 0, [])) rfl).mpr ?_
  refine (rn_step (e := (.iconst 0, 101, 0, 0, 0, 0, 0, [])) rfl).mpr ?_
  refine (rn_step (e := (.invokevirtual 51, 104, 96, 3, 598, 0, 10, [0])) rfl).mpr (And.intro ((rn_J8 J10)) ((iq_flowB J10 (hr1.2.2.2.2.2.1) (fun M11 J11 => ?_))))
  refine (rn_step (e := (.iconst (-1), 105, 0, 0, 0, 0, 0, [])) rfl).mpr ?_
  refine (rn_step (e := (.if_icmp .ne 109, 108, 214, 0, 0, 0, 0, [])) rfl).mpr (And.intro (fun q => ?_) (fun q => absurd (by decide) q))
  refine (rn_step (e := (.aload_n 0, 109, 0, 0, 0, 0, 0, [])) rfl).mpr ?_
  refine (rn_step (e := (.iload 4, 111, 4, 0, 0, 0, 0, [])) rfl).mpr ?_
  refine (rn_step (e := (.iconst 1, 112, 0, 0, 0, 0, 0, [])) rfl).mpr ?_
  refine (rn_step (e := (.invokevirtual 54, 115, 97, 3, 616, 0, 10, [0])) rfl).mpr (And.intro ((rn_J8 J11)) ((iq_setRankB J11 (hr1.2.2.2.2.2.2.1) (fun M12 J12 => ?_))))
  refine (rn_step (e := (.iconst (-1), 116, 0, 0, 0, 0, 0, [])) rfl).mpr ?_
  refine (rn_step (e := (.if_icmp .ne 98, 119, 214, 0, 0, 0, 0, [])) rfl).mpr (And.intro (fun q => ?_) (fun q => absurd (by decide) q))
  refine (rn_step (e := (.aload_n 0, 120, 0, 0, 0, 0, 0, [])) rfl).mpr ?_
  refine (rn_step (e := (.iconst (-1), 121, 0, 0, 0, 0, 0, [])) rfl).mpr ?_
  refine (rn_step (e := (.iconst 0, 122, 0, 0, 0, 0, 0, [])) rfl).mpr ?_
  refine (rn_step (e := (.invokevirtual 57, 125, 98, 3, 620, 0, 10, [0])) rfl).mpr (And.intro ((rn_J8 J12)) ((iq_setHaloB J12 (hr1.2.2.2.2.2.2.2.1) (fun M13 J13 => ?_))))
  refine (rn_step (e := (.iconst (-1), 126, 0, 0, 0, 0, 0, [])) rfl).mpr ?_
  refine (rn_step (e := (.if_icmp .ne 88, 129, 214, 0, 0, 0, 0, [])) rfl).mpr (And.intro (fun q => ?_) (fun q => absurd (by decide) q))
  refine (rn_step (e := (.aload_n 0, 130, 0, 0, 0, 0, 0, [])) rfl).mpr ?_
  refine (rn_step (e := (.iload 5, 132, 5, 0, 0, 0, 0, [])) rfl).mpr ?_
  refine (rn_step (e := (.iconst 1, 133, 0, 0, 0, 0, 0, [])) rfl).mpr ?_
  refine (rn_step (e := (.invokevirtual 60, 136, 99, 3, 624, 0, 10, [0])) rfl).mpr (And.intro ((rn_J8 J13)) ((iq_setTownRankB J13 (hr1.2.2.2.2.2.2.2.2.1) (fun M14 J14 => ?_))))
  refine (rn_step (e := (.iconst (-1), 137, 0, 0, 0, 0, 0, [])) rfl).mpr ?_
  refine (rn_step (e := (.if_icmp .ne 77, 140, 214, 0, 0, 0, 0, [])) rfl).mpr (And.intro (fun q => ?_) (fun q => absurd (by decide) q))
  refine (rn_step (e := (.aload_n 0, 141, 0, 0, 0, 0, 0, [])) rfl).mpr ?_
  refine (rn_step (e := (.iconst (-1), 142, 0, 0, 0, 0, 0, [])) rfl).mpr ?_
  refine (rn_step (e := (.invokevirtual 63, 145, 100, 2, 628, 0, 10, [0])) rfl).mpr (And.intro ((rn_J8 J14)) ((iq_setGapB J14 (hr1.2.2.2.2.2.2.2.2.2.1) (fun M15 J15 => ?_))))
  refine (rn_step (e := (.iconst (-1), 146, 0, 0, 0, 0, 0, [])) rfl).mpr ?_
  refine (rn_step (e := (.if_icmp .ne 68, 149, 214, 0, 0, 0, 0, [])) rfl).mpr (And.intro (fun q => ?_) (fun q => absurd (by decide) q))
  refine (rn_step (e := (.aload_n 0, 150, 0, 0, 0, 0, 0, [])) rfl).mpr ?_
  refine (rn_step (e := (.iload 4, 152, 4, 0, 0, 0, 0, [])) rfl).mpr ?_
  refine (rn_step (e := (.iconst 0, 153, 0, 0, 0, 0, 0, [])) rfl).mpr ?_
  refine (rn_step (e := (.invokevirtual 66, 156, 101, 3, 632, 0, 10, [0])) rfl).mpr (And.intro ((rn_J8 J15)) ((iq_setB J15 (hr1.2.2.2.2.2.2.2.2.2.2.1) (fun M16 J16 => ?_))))
  refine (rn_step (e := (.iconst (-1), 157, 0, 0, 0, 0, 0, [])) rfl).mpr ?_
  refine (rn_step (e := (.if_icmp .ne 57, 160, 214, 0, 0, 0, 0, [])) rfl).mpr (And.intro (fun q => ?_) (fun q => absurd (by decide) q))
  refine (rn_step (e := (.aload_n 0, 161, 0, 0, 0, 0, 0, [])) rfl).mpr ?_
  refine (rn_step (e := (.iload 6, 163, 6, 0, 0, 0, 0, [])) rfl).mpr ?_
  refine (rn_step (e := (.invokevirtual 69, 166, 102, 2, 637, 0, 10, [0])) rfl).mpr (And.intro ((rn_J8 J16)) ((iq_removeB J16 (hr1.2.2.2.2.2.2.2.2.2.2.2.1) (fun M17 J17 => ?_))))
  refine (rn_step (e := (.iconst (-1), 167, 0, 0, 0, 0, 0, [])) rfl).mpr ?_
  refine (rn_step (e := (.if_icmp .ne 47, 170, 214, 0, 0, 0, 0, [])) rfl).mpr (And.intro (fun q => ?_) (fun q => absurd (by decide) q))
  refine (rn_step (e := (.aload_n 0, 171, 0, 0, 0, 0, 0, [])) rfl).mpr ?_
  refine (rn_step (e := (.iconst 0, 172, 0, 0, 0, 0, 0, [])) rfl).mpr ?_
  refine (rn_step (e := (.invokevirtual 72, 175, 103, 2, 645, 0, 10, [0])) rfl).mpr (And.intro ((rn_J8 J17)) ((iq_placeB J17 (hr1.2.2.2.2.2.2.2.2.2.2.2.2.1) (fun M18 J18 => ?_))))
  refine (rn_step (e := (.iconst (-1), 176, 0, 0, 0, 0, 0, [])) rfl).mpr ?_
  refine (rn_step (e := (.if_icmp .ne 38, 179, 214, 0, 0, 0, 0, [])) rfl).mpr (And.intro (fun q => ?_) (fun q => absurd (by decide) q))
  refine (rn_step (e := (.aload_n 0, 180, 0, 0, 0, 0, 0, [])) rfl).mpr ?_
  refine (rn_step (e := (.bipush 11, 182, 0, 0, 0, 0, 0, [])) rfl).mpr ?_
  refine (rn_step (e := (.invokevirtual 13, 185, 106, 2, 276, 0, 10, [0])) rfl).mpr (And.intro ((rn_J8 J18)) ((iq_count11 J18  (fun M19 J19 => ?_))))
  refine (rn_step (e := (.iconst (-1), 186, 0, 0, 0, 0, 0, [])) rfl).mpr ?_
  refine (rn_step (e := (.if_icmp .ne 28, 189, 214, 0, 0, 0, 0, [])) rfl).mpr (And.intro (fun q => ?_) (fun q => absurd (by decide) q))
  refine (rn_step (e := (.aload_n 0, 190, 0, 0, 0, 0, 0, [])) rfl).mpr ?_
  refine (rn_step (e := (.iload 4, 192, 4, 0, 0, 0, 0, [])) rfl).mpr ?_
  refine (rn_step (e := (.iconst 0, 193, 0, 0, 0, 0, 0, [])) rfl).mpr ?_
  refine (rn_step (e := (.invokevirtual 19, 196, 107, 3, 426, 0, 10, [0])) rfl).mpr (And.intro ((rn_J8 J19)) ((iq_riverB J19 (hr1.2.2.2.2.2.2.2.2.2.2.2.2.2.1) (fun M20 J20 => ?_))))
  refine (rn_step (e := (.iconst (-1), 197, 0, 0, 0, 0, 0, [])) rfl).mpr ?_
  refine (rn_step (e := (.if_icmp .ne 17, 200, 214, 0, 0, 0, 0, [])) rfl).mpr (And.intro (fun q => ?_) (fun q => absurd (by decide) q))
  refine (rn_step (e := (.aload_n 0, 201, 0, 0, 0, 0, 0, [])) rfl).mpr ?_
  refine (rn_step (e := (.iconst (-1), 202, 0, 0, 0, 0, 0, [])) rfl).mpr ?_
  refine (rn_step (e := (.iconst 0, 203, 0, 0, 0, 0, 0, [])) rfl).mpr ?_
  refine (rn_step (e := (.invokevirtual 26, 206, 108, 3, 450, 0, 10, [0])) rfl).mpr (And.intro ((rn_J8 J20)) ((iq_cellB J20 (hr1.2.2.2.2.2.2.2.2.2.2.2.2.2.2.1) (fun M21 J21 => ?_))))
  refine (rn_step (e := (.iconst (-1), 207, 0, 0, 0, 0, 0, [])) rfl).mpr ?_
  refine (rn_step (e := (.if_icmp .ne 7, 210, 214, 0, 0, 0, 0, [])) rfl).mpr (And.intro (fun q => ?_) (fun q => absurd (by decide) q))
  refine (rn_step (e := (.iconst 1, 211, 0, 0, 0, 0, 0, [])) rfl).mpr ?_
  refine (rn_step (e := (.goto 4, 214, 215, 0, 0, 0, 0, [])) rfl).mpr ?_
  refine (rn_step (e := (.istore 7, 217, 7, 0, 0, 1, 0, [])) rfl).mpr (And.intro (rn_lnq rfl rfl) (?_))
  refine (rn_step (e := (.iload 7, 219, 7, 0, 0, 0, 0, [])) rfl).mpr ?_
  refine (rn_step (e := (.ifCond .eq 194, 222, 413, 0, 0, 0, 0, [])) rfl).mpr (And.intro (fun q => absurd q (by decide)) (fun q => ?_))
  refine (rn_step (e := (.aload_n 0, 223, 0, 0, 0, 0, 0, [])) rfl).mpr ?_
  refine (rn_step (e := (.iload 4, 225, 4, 0, 0, 0, 0, [])) rfl).mpr ?_
  refine (rn_step (e := (.iconst 0, 226, 0, 0, 0, 0, 0, [])) rfl).mpr ?_
  refine (rn_step (e := (.invokevirtual 23, 229, 109, 3, 441, 0, 10, [0])) rfl).mpr (And.intro ((rn_J8 J21)) ((iq_letterB J21 (hr1.2.2.2.2.2.2.2.2.2.2.2.2.2.1) (fun M22 J22 => ?_))))
  refine (rn_step (e := (.iconst (-1), 230, 0, 0, 0, 0, 0, [])) rfl).mpr ?_
  refine (rn_step (e := (.if_icmp .ne 183, 233, 413, 0, 0, 0, 0, [])) rfl).mpr (And.intro (fun q => ?_) (fun q => absurd (by decide) q))
  refine (rn_step (e := (.aload_n 0, 234, 0, 0, 0, 0, 0, [])) rfl).mpr ?_
  refine (rn_step (e := (.iload 5, 236, 5, 0, 0, 0, 0, [])) rfl).mpr ?_
  refine (rn_step (e := (.iconst 0, 237, 0, 0, 0, 0, 0, [])) rfl).mpr ?_
  refine (rn_step (e := (.invokevirtual 32, 240, 110, 3, 488, 0, 10, [0])) rfl).mpr (And.intro ((rn_J8 J22)) ((iq_townB J22 (hr1.2.2.2.2.2.2.2.2.2.2.2.2.2.2.2.1) (fun M23 J23 => ?_))))
  refine (rn_step (e := (.iconst (-1), 241, 0, 0, 0, 0, 0, [])) rfl).mpr ?_
  refine (rn_step (e := (.if_icmp .ne 172, 244, 413, 0, 0, 0, 0, [])) rfl).mpr (And.intro (fun q => ?_) (fun q => absurd (by decide) q))
  refine (rn_step (e := (.aload_n 0, 245, 0, 0, 0, 0, 0, [])) rfl).mpr ?_
  refine (rn_step (e := (.iload 6, 247, 6, 0, 0, 0, 0, [])) rfl).mpr ?_
  refine (rn_step (e := (.iconst 0, 248, 0, 0, 0, 0, 0, [])) rfl).mpr ?_
  refine (rn_step (e := (.invokevirtual 29, 251, 111, 3, 461, 0, 10, [0])) rfl).mpr (And.intro ((rn_J8 J23)) ((iq_labelB J23 (hr1.2.2.2.2.2.2.2.2.2.2.2.1) (fun M24 J24 => ?_))))
  refine (rn_step (e := (.iconst (-1), 252, 0, 0, 0, 0, 0, [])) rfl).mpr ?_
  refine (rn_step (e := (.if_icmp .ne 161, 255, 413, 0, 0, 0, 0, [])) rfl).mpr (And.intro (fun q => ?_) (fun q => absurd (by decide) q))
  refine (rn_step (e := (.aload_n 0, 256, 0, 0, 0, 0, 0, [])) rfl).mpr ?_
  refine (rn_step (e := (.iconst (-1), 257, 0, 0, 0, 0, 0, [])) rfl).mpr ?_
  refine (rn_step (e := (.iconst 0, 258, 0, 0, 0, 0, 0, [])) rfl).mpr ?_
  refine (rn_step (e := (.invokevirtual 75, 261, 112, 3, 673, 0, 10, [0])) rfl).mpr (And.intro ((rn_J8 J24)) ((iq_writtenB J24 (hr1.2.2.2.2.2.2.2.2.2.2.2.2.2.2.2.2.1) (fun M25 J25 => ?_))))
  refine (rn_step (e := (.iconst (-1), 262, 0, 0, 0, 0, 0, [])) rfl).mpr ?_
  refine (rn_step (e := (.if_icmp .ne 151, 265, 413, 0, 0, 0, 0, [])) rfl).mpr (And.intro (fun q => ?_) (fun q => absurd (by decide) q))
  refine (rn_step (e := (.aload_n 0, 266, 0, 0, 0, 0, 0, [])) rfl).mpr ?_
  refine (rn_step (e := (.iload 4, 268, 4, 0, 0, 0, 0, [])) rfl).mpr ?_
  refine (rn_step (e := (.iconst 0, 269, 0, 0, 0, 0, 0, [])) rfl).mpr ?_
  refine (rn_step (e := (.iconst 1, 270, 0, 0, 0, 0, 0, [])) rfl).mpr ?_
  refine (rn_step (e := (.invokevirtual 78, 273, 113, 4, 687, 0, 10, [0])) rfl).mpr (And.intro ((rn_J8 J25)) ((iq_bendB J25 (hr1.2.2.2.2.2.2.2.2.2.2.2.2.2.1) (fun M26 J26 => ?_))))
  refine (rn_step (e := (.iconst (-1), 274, 0, 0, 0, 0, 0, [])) rfl).mpr ?_
  refine (rn_step (e := (.if_icmp .ne 139, 277, 413, 0, 0, 0, 0, [])) rfl).mpr (And.intro (fun q => ?_) (fun q => absurd (by decide) q))
  refine (rn_step (e := (.aload_n 0, 278, 0, 0, 0, 0, 0, [])) rfl).mpr ?_
  refine (rn_step (e := (.iload 4, 280, 4, 0, 0, 0, 0, [])) rfl).mpr ?_
  refine (rn_step (e := (.iconst 1, 281, 0, 0, 0, 0, 0, [])) rfl).mpr ?_
  refine (rn_step (e := (.invokevirtual 82, 284, 114, 3, 692, 0, 10, [0])) rfl).mpr (And.intro ((rn_J8 J26)) ((iq_straightestB J26 (hr1.2.2.2.2.2.2.2.2.2.2.2.2.2.1) (fun M27 J27 => ?_))))
  refine (rn_step (e := (.iconst (-1), 285, 0, 0, 0, 0, 0, [])) rfl).mpr ?_
  refine (rn_step (e := (.if_icmp .ne 128, 288, 413, 0, 0, 0, 0, [])) rfl).mpr (And.intro (fun q => ?_) (fun q => absurd (by decide) q))
  refine (rn_step (e := (.aload_n 0, 289, 0, 0, 0, 0, 0, [])) rfl).mpr ?_
  refine (rn_step (e := (.iload 4, 291, 4, 0, 0, 0, 0, [])) rfl).mpr ?_
  refine (rn_step (e := (.iconst 0, 292, 0, 0, 0, 0, 0, [])) rfl).mpr ?_
  refine (rn_step (e := (.invokevirtual 85, 295, 115, 3, 701, 0, 10, [0])) rfl).mpr (And.intro ((rn_J8 J27)) ((iq_reasonB J27 (hr1.2.2.2.2.2.2.2.2.2.2.1) (fun M28 J28 => ?_))))
  refine (rn_step (e := (.iconst (-1), 296, 0, 0, 0, 0, 0, [])) rfl).mpr ?_
  refine (rn_step (e := (.if_icmp .ne 117, 299, 413, 0, 0, 0, 0, [])) rfl).mpr (And.intro (fun q => ?_) (fun q => absurd (by decide) q))
  refine (rn_step (e := (.aload_n 0, 300, 0, 0, 0, 0, 0, [])) rfl).mpr ?_
  refine (rn_step (e := (.iload 4, 302, 4, 0, 0, 0, 0, [])) rfl).mpr ?_
  refine (rn_step (e := (.iconst 0, 303, 0, 0, 0, 0, 0, [])) rfl).mpr ?_
  refine (rn_step (e := (.invokevirtual 88, 306, 116, 3, 705, 0, 10, [0])) rfl).mpr (And.intro ((rn_J8 J28)) ((iq_bestB J28 (hr1.2.2.2.2.2.2.2.2.2.2.2.2.2.2.2.2.2.1) (fun M29 J29 => ?_))))
  refine (rn_step (e := (.iconst (-1), 307, 0, 0, 0, 0, 0, [])) rfl).mpr ?_
  refine (rn_step (e := (.if_icmp .ne 106, 310, 413, 0, 0, 0, 0, [])) rfl).mpr (And.intro (fun q => ?_) (fun q => absurd (by decide) q))
  refine (rn_step (e := (.aload_n 0, 311, 0, 0, 0, 0, 0, [])) rfl).mpr ?_
  refine (rn_step (e := (.iconst (-1), 312, 0, 0, 0, 0, 0, [])) rfl).mpr ?_
  refine (rn_step (e := (.invokevirtual 91, 315, 117, 2, 713, 0, 10, [0])) rfl).mpr (And.intro ((rn_J8 J29)) ((iq_rankForB J29 (hr1.2.2.2.2.2.2.2.2.2.2.2.2.2.2.2.2.2.2) (fun M30 J30 => ?_))))
  refine (rn_step (e := (.iconst (-1), 316, 0, 0, 0, 0, 0, [])) rfl).mpr ?_
  refine (rn_step (e := (.if_icmp .ne 97, 319, 413, 0, 0, 0, 0, [])) rfl).mpr (And.intro (fun q => ?_) (fun q => absurd (by decide) q))
  refine (rn_step (e := (.iload 4, 321, 4, 0, 0, 0, 0, [])) rfl).mpr ?_
  refine (rn_step (e := (.bipush 6, 323, 0, 0, 0, 0, 0, [])) rfl).mpr ?_
  refine (rn_step (e := (.if_icmp .lt 17, 326, 340, 0, 0, 0, 0, [])) rfl).mpr (And.intro (fun c1 => ?_) (fun c1 => ?_))
  ·
    refine (rn_step (e := (.iload 5, 342, 5, 0, 0, 0, 0, [])) rfl).mpr ?_
    refine (rn_step (e := (.bipush 10, 344, 0, 0, 0, 0, 0, [])) rfl).mpr ?_
    refine (rn_step (e := (.if_icmp .lt 17, 347, 361, 0, 0, 0, 0, [])) rfl).mpr (And.intro (fun c2 => ?_) (fun c2 => ?_))
    ·
      refine (rn_step (e := (.iload 4, 363, 4, 0, 0, 0, 0, [])) rfl).mpr ?_
      refine (rn_step (e := (.ifCond .eq 46, 366, 409, 0, 0, 0, 0, [])) rfl).mpr (And.intro (fun c3 => ?_) (fun c3 => ?_))
      ·
        refine (rn_step (e := (.iconst 1, 410, 0, 0, 0, 0, 0, [])) rfl).mpr ?_
        refine (rn_step (e := (.goto 4, 413, 414, 0, 0, 0, 0, [])) rfl).mpr ?_
        refine (rn_step (e := (.istore 7, 416, 7, 0, 0, 1, 0, [])) rfl).mpr (And.intro (rn_lnq rfl rfl) (?_))
        refine (rn_step (e := (.iload 7, 418, 7, 0, 0, 0, 0, [])) rfl).mpr ?_
        refine (rn_step (e := (.ifCond .eq 26, 421, 444, 0, 0, 0, 0, [])) rfl).mpr (And.intro (fun q => absurd q (by decide)) (fun q => ?_))
        refine (rn_step (e := (.aload_n 0, 422, 0, 0, 0, 0, 0, [])) rfl).mpr ?_
        refine (rn_step (e := (.invokestatic 35, 425, 126, 1, 421, 0, 0, [0])) rfl).mpr (iq_print J30  (fun M31 J31 => ?_))
        refine (rn_step (e := (.lload_n 1, 426, 1, 0, 0, 0, 0, [])) rfl).mpr ?_
        refine (rn_step (e := (.lcmp, 427, 0, 0, 0, 0, 0, [])) rfl).mpr ?_
        refine (rn_step (e := (.ifCond .ne 17, 430, 444, 0, 0, 0, 0, [])) rfl).mpr (And.intro (fun q => ?_) (fun q => absurd (hr2 c1 c2 c3).1 q))
        refine (rn_step (e := (.aload_n 0, 431, 0, 0, 0, 0, 0, [])) rfl).mpr ?_
        refine (rn_step (e := (.bipush 8, 433, 0, 0, 0, 0, 0, [])) rfl).mpr ?_
        refine (rn_step (e := (.invokevirtual 13, 436, 106, 2, 276, 0, 10, [0])) rfl).mpr (And.intro ((rn_J8 J31)) ((iq_count8 J31  (fun M32 J32 => ?_))))
        refine (rn_step (e := (.iload_n 3, 437, 3, 0, 0, 0, 0, [])) rfl).mpr ?_
        refine (rn_step (e := (.if_icmp .ne 7, 440, 444, 0, 0, 0, 0, [])) rfl).mpr (And.intro (fun q => ?_) (fun q => absurd (hr2 c1 c2 c3).2 q))
        refine (rn_step (e := (.iconst 1, 441, 0, 0, 0, 0, 0, [])) rfl).mpr ?_
        refine (rn_step (e := (.goto 4, 444, 445, 0, 0, 0, 0, [])) rfl).mpr ?_
        exact (rn_step (e := (.ireturn, 446, 0, 0, 0, 1, 0, [])) rfl).mpr (And.intro ((Or.inr rfl)) ((k1 c1 c2 c3 M32 J32)))
      ·
        refine (rn_step (e := (.aload_n 0, 367, 0, 0, 0, 0, 0, [])) rfl).mpr ?_
        refine (rn_step (e := (.iconst 0, 368, 0, 0, 0, 0, 0, [])) rfl).mpr ?_
        refine (rn_step (e := (.bipush 8, 370, 0, 0, 0, 0, 0, [])) rfl).mpr ?_
        refine (rn_step (e := (.invokevirtual 51, 373, 96, 3, 598, 0, 10, [0])) rfl).mpr (And.intro ((rn_J8 J30)) ((iq_flowB J30 ((hr3 c1 c2 c3).1) (fun M33 J33 => ?_))))
        refine (rn_step (e := (.iconst (-1), 374, 0, 0, 0, 0, 0, [])) rfl).mpr ?_
        refine (rn_step (e := (.if_icmp .ne 39, 377, 413, 0, 0, 0, 0, [])) rfl).mpr (And.intro (fun q => ?_) (fun q => absurd (by decide) q))
        refine (rn_step (e := (.aload_n 0, 378, 0, 0, 0, 0, 0, [])) rfl).mpr ?_
        refine (rn_step (e := (.iconst 0, 379, 0, 0, 0, 0, 0, [])) rfl).mpr ?_
        refine (rn_step (e := (.iconst 2, 380, 0, 0, 0, 0, 0, [])) rfl).mpr ?_
        refine (rn_step (e := (.invokevirtual 88, 383, 116, 3, 705, 0, 10, [0])) rfl).mpr (And.intro ((rn_J8 J33)) ((iq_bestB J33 ((hr3 c1 c2 c3).2.1) (fun M34 J34 => ?_))))
        refine (rn_step (e := (.iconst (-1), 384, 0, 0, 0, 0, 0, [])) rfl).mpr ?_
        refine (rn_step (e := (.if_icmp .ne 29, 387, 413, 0, 0, 0, 0, [])) rfl).mpr (And.intro (fun q => ?_) (fun q => absurd (by decide) q))
        refine (rn_step (e := (.aload_n 0, 388, 0, 0, 0, 0, 0, [])) rfl).mpr ?_
        refine (rn_step (e := (.iconst 0, 389, 0, 0, 0, 0, 0, [])) rfl).mpr ?_
        refine (rn_step (e := (.bipush 61, 391, 0, 0, 0, 0, 0, [])) rfl).mpr ?_
        refine (rn_step (e := (.invokevirtual 85, 394, 115, 3, 701, 0, 10, [0])) rfl).mpr (And.intro ((rn_J8 J34)) ((iq_reasonB J34 ((hr3 c1 c2 c3).2.2.1) (fun M35 J35 => ?_))))
        refine (rn_step (e := (.iconst (-1), 395, 0, 0, 0, 0, 0, [])) rfl).mpr ?_
        refine (rn_step (e := (.if_icmp .ne 18, 398, 413, 0, 0, 0, 0, [])) rfl).mpr (And.intro (fun q => ?_) (fun q => absurd (by decide) q))
        refine (rn_step (e := (.aload_n 0, 399, 0, 0, 0, 0, 0, [])) rfl).mpr ?_
        refine (rn_step (e := (.iconst 0, 400, 0, 0, 0, 0, 0, [])) rfl).mpr ?_
        refine (rn_step (e := (.bipush 61, 402, 0, 0, 0, 0, 0, [])) rfl).mpr ?_
        refine (rn_step (e := (.invokevirtual 66, 405, 101, 3, 632, 0, 10, [0])) rfl).mpr (And.intro ((rn_J8 J35)) ((iq_setB J35 ((hr3 c1 c2 c3).2.2.1) (fun M36 J36 => ?_))))
        refine (rn_step (e := (.iconst (-1), 406, 0, 0, 0, 0, 0, [])) rfl).mpr ?_
        refine (rn_step (e := (.if_icmp .ne 7, 409, 413, 0, 0, 0, 0, [])) rfl).mpr (And.intro (fun q => ?_) (fun q => absurd (by decide) q))
        refine (rn_step (e := (.iconst 1, 410, 0, 0, 0, 0, 0, [])) rfl).mpr ?_
        refine (rn_step (e := (.goto 4, 413, 414, 0, 0, 0, 0, [])) rfl).mpr ?_
        refine (rn_step (e := (.istore 7, 416, 7, 0, 0, 1, 0, [])) rfl).mpr (And.intro (rn_lnq rfl rfl) (?_))
        refine (rn_step (e := (.iload 7, 418, 7, 0, 0, 0, 0, [])) rfl).mpr ?_
        refine (rn_step (e := (.ifCond .eq 26, 421, 444, 0, 0, 0, 0, [])) rfl).mpr (And.intro (fun q => absurd q (by decide)) (fun q => ?_))
        refine (rn_step (e := (.aload_n 0, 422, 0, 0, 0, 0, 0, [])) rfl).mpr ?_
        refine (rn_step (e := (.invokestatic 35, 425, 126, 1, 421, 0, 0, [0])) rfl).mpr (iq_print J36  (fun M37 J37 => ?_))
        refine (rn_step (e := (.lload_n 1, 426, 1, 0, 0, 0, 0, [])) rfl).mpr ?_
        refine (rn_step (e := (.lcmp, 427, 0, 0, 0, 0, 0, [])) rfl).mpr ?_
        refine (rn_step (e := (.ifCond .ne 17, 430, 444, 0, 0, 0, 0, [])) rfl).mpr (And.intro (fun q => ?_) (fun q => absurd (hr3 c1 c2 c3).2.2.2.1 q))
        refine (rn_step (e := (.aload_n 0, 431, 0, 0, 0, 0, 0, [])) rfl).mpr ?_
        refine (rn_step (e := (.bipush 8, 433, 0, 0, 0, 0, 0, [])) rfl).mpr ?_
        refine (rn_step (e := (.invokevirtual 13, 436, 106, 2, 276, 0, 10, [0])) rfl).mpr (And.intro ((rn_J8 J37)) ((iq_count8 J37  (fun M38 J38 => ?_))))
        refine (rn_step (e := (.iload_n 3, 437, 3, 0, 0, 0, 0, [])) rfl).mpr ?_
        refine (rn_step (e := (.if_icmp .ne 7, 440, 444, 0, 0, 0, 0, [])) rfl).mpr (And.intro (fun q => ?_) (fun q => absurd (hr3 c1 c2 c3).2.2.2.2 q))
        refine (rn_step (e := (.iconst 1, 441, 0, 0, 0, 0, 0, [])) rfl).mpr ?_
        refine (rn_step (e := (.goto 4, 444, 445, 0, 0, 0, 0, [])) rfl).mpr ?_
        exact (rn_step (e := (.ireturn, 446, 0, 0, 0, 1, 0, [])) rfl).mpr (And.intro ((Or.inr rfl)) ((k2 c1 c2 c3 M38 J38)))
    ·
      refine (rn_step (e := (.aload_n 0, 348, 0, 0, 0, 0, 0, [])) rfl).mpr ?_
      refine (rn_step (e := (.iconst 0, 349, 0, 0, 0, 0, 0, [])) rfl).mpr ?_
      refine (rn_step (e := (.iconst 0, 350, 0, 0, 0, 0, 0, [])) rfl).mpr ?_
      refine (rn_step (e := (.iconst 1, 351, 0, 0, 0, 0, 0, [])) rfl).mpr ?_
      refine (rn_step (e := (.iconst 1, 352, 0, 0, 0, 0, 0, [])) rfl).mpr ?_
      refine (rn_step (e := (.iconst 1, 353, 0, 0, 0, 0, 0, [])) rfl).mpr ?_
      refine (rn_step (e := (.invokevirtual 48, 356, 95, 6, 592, 0, 10, [0])) rfl).mpr (And.intro ((rn_J8 J30)) ((iq_addTownF J30 ((hr4 c1 c2)) (fun M39 J39 => ?_))))
      refine (rn_step (e := (.bipush (-3), 358, 0, 0, 0, 0, 0, [])) rfl).mpr ?_
      refine (rn_step (e := (.if_icmp .ne 55, 361, 413, 0, 0, 0, 0, [])) rfl).mpr (And.intro (fun q => ?_) (fun q => absurd (by decide) q))
      refine (rn_step (e := (.iload 4, 363, 4, 0, 0, 0, 0, [])) rfl).mpr ?_
      refine (rn_step (e := (.ifCond .eq 46, 366, 409, 0, 0, 0, 0, [])) rfl).mpr (And.intro (fun c3 => ?_) (fun c3 => ?_))
      ·
        refine (rn_step (e := (.iconst 1, 410, 0, 0, 0, 0, 0, [])) rfl).mpr ?_
        refine (rn_step (e := (.goto 4, 413, 414, 0, 0, 0, 0, [])) rfl).mpr ?_
        refine (rn_step (e := (.istore 7, 416, 7, 0, 0, 1, 0, [])) rfl).mpr (And.intro (rn_lnq rfl rfl) (?_))
        refine (rn_step (e := (.iload 7, 418, 7, 0, 0, 0, 0, [])) rfl).mpr ?_
        refine (rn_step (e := (.ifCond .eq 26, 421, 444, 0, 0, 0, 0, [])) rfl).mpr (And.intro (fun q => absurd q (by decide)) (fun q => ?_))
        refine (rn_step (e := (.aload_n 0, 422, 0, 0, 0, 0, 0, [])) rfl).mpr ?_
        refine (rn_step (e := (.invokestatic 35, 425, 126, 1, 421, 0, 0, [0])) rfl).mpr (iq_print J39  (fun M40 J40 => ?_))
        refine (rn_step (e := (.lload_n 1, 426, 1, 0, 0, 0, 0, [])) rfl).mpr ?_
        refine (rn_step (e := (.lcmp, 427, 0, 0, 0, 0, 0, [])) rfl).mpr ?_
        refine (rn_step (e := (.ifCond .ne 17, 430, 444, 0, 0, 0, 0, [])) rfl).mpr (And.intro (fun q => ?_) (fun q => absurd (hr5 c1 c2 c3).1 q))
        refine (rn_step (e := (.aload_n 0, 431, 0, 0, 0, 0, 0, [])) rfl).mpr ?_
        refine (rn_step (e := (.bipush 8, 433, 0, 0, 0, 0, 0, [])) rfl).mpr ?_
        refine (rn_step (e := (.invokevirtual 13, 436, 106, 2, 276, 0, 10, [0])) rfl).mpr (And.intro ((rn_J8 J40)) ((iq_count8 J40  (fun M41 J41 => ?_))))
        refine (rn_step (e := (.iload_n 3, 437, 3, 0, 0, 0, 0, [])) rfl).mpr ?_
        refine (rn_step (e := (.if_icmp .ne 7, 440, 444, 0, 0, 0, 0, [])) rfl).mpr (And.intro (fun q => ?_) (fun q => absurd (hr5 c1 c2 c3).2 q))
        refine (rn_step (e := (.iconst 1, 441, 0, 0, 0, 0, 0, [])) rfl).mpr ?_
        refine (rn_step (e := (.goto 4, 444, 445, 0, 0, 0, 0, [])) rfl).mpr ?_
        exact (rn_step (e := (.ireturn, 446, 0, 0, 0, 1, 0, [])) rfl).mpr (And.intro ((Or.inr rfl)) ((k3 c1 c2 c3 M41 J41)))
      ·
        refine (rn_step (e := (.aload_n 0, 367, 0, 0, 0, 0, 0, [])) rfl).mpr ?_
        refine (rn_step (e := (.iconst 0, 368, 0, 0, 0, 0, 0, [])) rfl).mpr ?_
        refine (rn_step (e := (.bipush 8, 370, 0, 0, 0, 0, 0, [])) rfl).mpr ?_
        refine (rn_step (e := (.invokevirtual 51, 373, 96, 3, 598, 0, 10, [0])) rfl).mpr (And.intro ((rn_J8 J39)) ((iq_flowB J39 ((hr6 c1 c2 c3).1) (fun M42 J42 => ?_))))
        refine (rn_step (e := (.iconst (-1), 374, 0, 0, 0, 0, 0, [])) rfl).mpr ?_
        refine (rn_step (e := (.if_icmp .ne 39, 377, 413, 0, 0, 0, 0, [])) rfl).mpr (And.intro (fun q => ?_) (fun q => absurd (by decide) q))
        refine (rn_step (e := (.aload_n 0, 378, 0, 0, 0, 0, 0, [])) rfl).mpr ?_
        refine (rn_step (e := (.iconst 0, 379, 0, 0, 0, 0, 0, [])) rfl).mpr ?_
        refine (rn_step (e := (.iconst 2, 380, 0, 0, 0, 0, 0, [])) rfl).mpr ?_
        refine (rn_step (e := (.invokevirtual 88, 383, 116, 3, 705, 0, 10, [0])) rfl).mpr (And.intro ((rn_J8 J42)) ((iq_bestB J42 ((hr6 c1 c2 c3).2.1) (fun M43 J43 => ?_))))
        refine (rn_step (e := (.iconst (-1), 384, 0, 0, 0, 0, 0, [])) rfl).mpr ?_
        refine (rn_step (e := (.if_icmp .ne 29, 387, 413, 0, 0, 0, 0, [])) rfl).mpr (And.intro (fun q => ?_) (fun q => absurd (by decide) q))
        refine (rn_step (e := (.aload_n 0, 388, 0, 0, 0, 0, 0, [])) rfl).mpr ?_
        refine (rn_step (e := (.iconst 0, 389, 0, 0, 0, 0, 0, [])) rfl).mpr ?_
        refine (rn_step (e := (.bipush 61, 391, 0, 0, 0, 0, 0, [])) rfl).mpr ?_
        refine (rn_step (e := (.invokevirtual 85, 394, 115, 3, 701, 0, 10, [0])) rfl).mpr (And.intro ((rn_J8 J43)) ((iq_reasonB J43 ((hr6 c1 c2 c3).2.2.1) (fun M44 J44 => ?_))))
        refine (rn_step (e := (.iconst (-1), 395, 0, 0, 0, 0, 0, [])) rfl).mpr ?_
        refine (rn_step (e := (.if_icmp .ne 18, 398, 413, 0, 0, 0, 0, [])) rfl).mpr (And.intro (fun q => ?_) (fun q => absurd (by decide) q))
        refine (rn_step (e := (.aload_n 0, 399, 0, 0, 0, 0, 0, [])) rfl).mpr ?_
        refine (rn_step (e := (.iconst 0, 400, 0, 0, 0, 0, 0, [])) rfl).mpr ?_
        refine (rn_step (e := (.bipush 61, 402, 0, 0, 0, 0, 0, [])) rfl).mpr ?_
        refine (rn_step (e := (.invokevirtual 66, 405, 101, 3, 632, 0, 10, [0])) rfl).mpr (And.intro ((rn_J8 J44)) ((iq_setB J44 ((hr6 c1 c2 c3).2.2.1) (fun M45 J45 => ?_))))
        refine (rn_step (e := (.iconst (-1), 406, 0, 0, 0, 0, 0, [])) rfl).mpr ?_
        refine (rn_step (e := (.if_icmp .ne 7, 409, 413, 0, 0, 0, 0, [])) rfl).mpr (And.intro (fun q => ?_) (fun q => absurd (by decide) q))
        refine (rn_step (e := (.iconst 1, 410, 0, 0, 0, 0, 0, [])) rfl).mpr ?_
        refine (rn_step (e := (.goto 4, 413, 414, 0, 0, 0, 0, [])) rfl).mpr ?_
        refine (rn_step (e := (.istore 7, 416, 7, 0, 0, 1, 0, [])) rfl).mpr (And.intro (rn_lnq rfl rfl) (?_))
        refine (rn_step (e := (.iload 7, 418, 7, 0, 0, 0, 0, [])) rfl).mpr ?_
        refine (rn_step (e := (.ifCond .eq 26, 421, 444, 0, 0, 0, 0, [])) rfl).mpr (And.intro (fun q => absurd q (by decide)) (fun q => ?_))
        refine (rn_step (e := (.aload_n 0, 422, 0, 0, 0, 0, 0, [])) rfl).mpr ?_
        refine (rn_step (e := (.invokestatic 35, 425, 126, 1, 421, 0, 0, [0])) rfl).mpr (iq_print J45  (fun M46 J46 => ?_))
        refine (rn_step (e := (.lload_n 1, 426, 1, 0, 0, 0, 0, [])) rfl).mpr ?_
        refine (rn_step (e := (.lcmp, 427, 0, 0, 0, 0, 0, [])) rfl).mpr ?_
        refine (rn_step (e := (.ifCond .ne 17, 430, 444, 0, 0, 0, 0, [])) rfl).mpr (And.intro (fun q => ?_) (fun q => absurd (hr6 c1 c2 c3).2.2.2.1 q))
        refine (rn_step (e := (.aload_n 0, 431, 0, 0, 0, 0, 0, [])) rfl).mpr ?_
        refine (rn_step (e := (.bipush 8, 433, 0, 0, 0, 0, 0, [])) rfl).mpr ?_
        refine (rn_step (e := (.invokevirtual 13, 436, 106, 2, 276, 0, 10, [0])) rfl).mpr (And.intro ((rn_J8 J46)) ((iq_count8 J46  (fun M47 J47 => ?_))))
        refine (rn_step (e := (.iload_n 3, 437, 3, 0, 0, 0, 0, [])) rfl).mpr ?_
        refine (rn_step (e := (.if_icmp .ne 7, 440, 444, 0, 0, 0, 0, [])) rfl).mpr (And.intro (fun q => ?_) (fun q => absurd (hr6 c1 c2 c3).2.2.2.2 q))
        refine (rn_step (e := (.iconst 1, 441, 0, 0, 0, 0, 0, [])) rfl).mpr ?_
        refine (rn_step (e := (.goto 4, 444, 445, 0, 0, 0, 0, [])) rfl).mpr ?_
        exact (rn_step (e := (.ireturn, 446, 0, 0, 0, 1, 0, [])) rfl).mpr (And.intro ((Or.inr rfl)) ((k4 c1 c2 c3 M47 J47)))
  ·
    refine (rn_step (e := (.aload_n 0, 327, 0, 0, 0, 0, 0, [])) rfl).mpr ?_
    refine (rn_step (e := (.iconst 1, 328, 0, 0, 0, 0, 0, [])) rfl).mpr ?_
    refine (rn_step (e := (.iconst 0, 329, 0, 0, 0, 0, 0, [])) rfl).mpr ?_
    refine (rn_step (e := (.iconst 0, 330, 0, 0, 0, 0, 0, [])) rfl).mpr ?_
    refine (rn_step (e := (.iconst 1, 331, 0, 0, 0, 0, 0, [])) rfl).mpr ?_
    refine (rn_step (e := (.iconst 0, 332, 0, 0, 0, 0, 0, [])) rfl).mpr ?_
    refine (rn_step (e := (.invokevirtual 44, 335, 94, 6, 509, 0, 10, [0])) rfl).mpr (And.intro ((rn_J8 J30)) ((iq_addRiverF J30 ((hr7 c1)) (fun M48 J48 => ?_))))
    refine (rn_step (e := (.bipush (-3), 337, 0, 0, 0, 0, 0, [])) rfl).mpr ?_
    refine (rn_step (e := (.if_icmp .ne 76, 340, 413, 0, 0, 0, 0, [])) rfl).mpr (And.intro (fun q => ?_) (fun q => absurd (by decide) q))
    refine (rn_step (e := (.iload 5, 342, 5, 0, 0, 0, 0, [])) rfl).mpr ?_
    refine (rn_step (e := (.bipush 10, 344, 0, 0, 0, 0, 0, [])) rfl).mpr ?_
    refine (rn_step (e := (.if_icmp .lt 17, 347, 361, 0, 0, 0, 0, [])) rfl).mpr (And.intro (fun c2 => ?_) (fun c2 => ?_))
    ·
      refine (rn_step (e := (.iload 4, 363, 4, 0, 0, 0, 0, [])) rfl).mpr ?_
      refine (rn_step (e := (.ifCond .eq 46, 366, 409, 0, 0, 0, 0, [])) rfl).mpr (And.intro (fun c3 => ?_) (fun c3 => ?_))
      ·
        refine (rn_step (e := (.iconst 1, 410, 0, 0, 0, 0, 0, [])) rfl).mpr ?_
        refine (rn_step (e := (.goto 4, 413, 414, 0, 0, 0, 0, [])) rfl).mpr ?_
        refine (rn_step (e := (.istore 7, 416, 7, 0, 0, 1, 0, [])) rfl).mpr (And.intro (rn_lnq rfl rfl) (?_))
        refine (rn_step (e := (.iload 7, 418, 7, 0, 0, 0, 0, [])) rfl).mpr ?_
        refine (rn_step (e := (.ifCond .eq 26, 421, 444, 0, 0, 0, 0, [])) rfl).mpr (And.intro (fun q => absurd q (by decide)) (fun q => ?_))
        refine (rn_step (e := (.aload_n 0, 422, 0, 0, 0, 0, 0, [])) rfl).mpr ?_
        refine (rn_step (e := (.invokestatic 35, 425, 126, 1, 421, 0, 0, [0])) rfl).mpr (iq_print J48  (fun M49 J49 => ?_))
        refine (rn_step (e := (.lload_n 1, 426, 1, 0, 0, 0, 0, [])) rfl).mpr ?_
        refine (rn_step (e := (.lcmp, 427, 0, 0, 0, 0, 0, [])) rfl).mpr ?_
        refine (rn_step (e := (.ifCond .ne 17, 430, 444, 0, 0, 0, 0, [])) rfl).mpr (And.intro (fun q => ?_) (fun q => absurd (hr8 c1 c2 c3).1 q))
        refine (rn_step (e := (.aload_n 0, 431, 0, 0, 0, 0, 0, [])) rfl).mpr ?_
        refine (rn_step (e := (.bipush 8, 433, 0, 0, 0, 0, 0, [])) rfl).mpr ?_
        refine (rn_step (e := (.invokevirtual 13, 436, 106, 2, 276, 0, 10, [0])) rfl).mpr (And.intro ((rn_J8 J49)) ((iq_count8 J49  (fun M50 J50 => ?_))))
        refine (rn_step (e := (.iload_n 3, 437, 3, 0, 0, 0, 0, [])) rfl).mpr ?_
        refine (rn_step (e := (.if_icmp .ne 7, 440, 444, 0, 0, 0, 0, [])) rfl).mpr (And.intro (fun q => ?_) (fun q => absurd (hr8 c1 c2 c3).2 q))
        refine (rn_step (e := (.iconst 1, 441, 0, 0, 0, 0, 0, [])) rfl).mpr ?_
        refine (rn_step (e := (.goto 4, 444, 445, 0, 0, 0, 0, [])) rfl).mpr ?_
        exact (rn_step (e := (.ireturn, 446, 0, 0, 0, 1, 0, [])) rfl).mpr (And.intro ((Or.inr rfl)) ((k5 c1 c2 c3 M50 J50)))
      ·
        refine (rn_step (e := (.aload_n 0, 367, 0, 0, 0, 0, 0, [])) rfl).mpr ?_
        refine (rn_step (e := (.iconst 0, 368, 0, 0, 0, 0, 0, [])) rfl).mpr ?_
        refine (rn_step (e := (.bipush 8, 370, 0, 0, 0, 0, 0, [])) rfl).mpr ?_
        refine (rn_step (e := (.invokevirtual 51, 373, 96, 3, 598, 0, 10, [0])) rfl).mpr (And.intro ((rn_J8 J48)) ((iq_flowB J48 ((hr9 c1 c2 c3).1) (fun M51 J51 => ?_))))
        refine (rn_step (e := (.iconst (-1), 374, 0, 0, 0, 0, 0, [])) rfl).mpr ?_
        refine (rn_step (e := (.if_icmp .ne 39, 377, 413, 0, 0, 0, 0, [])) rfl).mpr (And.intro (fun q => ?_) (fun q => absurd (by decide) q))
        refine (rn_step (e := (.aload_n 0, 378, 0, 0, 0, 0, 0, [])) rfl).mpr ?_
        refine (rn_step (e := (.iconst 0, 379, 0, 0, 0, 0, 0, [])) rfl).mpr ?_
        refine (rn_step (e := (.iconst 2, 380, 0, 0, 0, 0, 0, [])) rfl).mpr ?_
        refine (rn_step (e := (.invokevirtual 88, 383, 116, 3, 705, 0, 10, [0])) rfl).mpr (And.intro ((rn_J8 J51)) ((iq_bestB J51 ((hr9 c1 c2 c3).2.1) (fun M52 J52 => ?_))))
        refine (rn_step (e := (.iconst (-1), 384, 0, 0, 0, 0, 0, [])) rfl).mpr ?_
        refine (rn_step (e := (.if_icmp .ne 29, 387, 413, 0, 0, 0, 0, [])) rfl).mpr (And.intro (fun q => ?_) (fun q => absurd (by decide) q))
        refine (rn_step (e := (.aload_n 0, 388, 0, 0, 0, 0, 0, [])) rfl).mpr ?_
        refine (rn_step (e := (.iconst 0, 389, 0, 0, 0, 0, 0, [])) rfl).mpr ?_
        refine (rn_step (e := (.bipush 61, 391, 0, 0, 0, 0, 0, [])) rfl).mpr ?_
        refine (rn_step (e := (.invokevirtual 85, 394, 115, 3, 701, 0, 10, [0])) rfl).mpr (And.intro ((rn_J8 J52)) ((iq_reasonB J52 ((hr9 c1 c2 c3).2.2.1) (fun M53 J53 => ?_))))
        refine (rn_step (e := (.iconst (-1), 395, 0, 0, 0, 0, 0, [])) rfl).mpr ?_
        refine (rn_step (e := (.if_icmp .ne 18, 398, 413, 0, 0, 0, 0, [])) rfl).mpr (And.intro (fun q => ?_) (fun q => absurd (by decide) q))
        refine (rn_step (e := (.aload_n 0, 399, 0, 0, 0, 0, 0, [])) rfl).mpr ?_
        refine (rn_step (e := (.iconst 0, 400, 0, 0, 0, 0, 0, [])) rfl).mpr ?_
        refine (rn_step (e := (.bipush 61, 402, 0, 0, 0, 0, 0, [])) rfl).mpr ?_
        refine (rn_step (e := (.invokevirtual 66, 405, 101, 3, 632, 0, 10, [0])) rfl).mpr (And.intro ((rn_J8 J53)) ((iq_setB J53 ((hr9 c1 c2 c3).2.2.1) (fun M54 J54 => ?_))))
        refine (rn_step (e := (.iconst (-1), 406, 0, 0, 0, 0, 0, [])) rfl).mpr ?_
        refine (rn_step (e := (.if_icmp .ne 7, 409, 413, 0, 0, 0, 0, [])) rfl).mpr (And.intro (fun q => ?_) (fun q => absurd (by decide) q))
        refine (rn_step (e := (.iconst 1, 410, 0, 0, 0, 0, 0, [])) rfl).mpr ?_
        refine (rn_step (e := (.goto 4, 413, 414, 0, 0, 0, 0, [])) rfl).mpr ?_
        refine (rn_step (e := (.istore 7, 416, 7, 0, 0, 1, 0, [])) rfl).mpr (And.intro (rn_lnq rfl rfl) (?_))
        refine (rn_step (e := (.iload 7, 418, 7, 0, 0, 0, 0, [])) rfl).mpr ?_
        refine (rn_step (e := (.ifCond .eq 26, 421, 444, 0, 0, 0, 0, [])) rfl).mpr (And.intro (fun q => absurd q (by decide)) (fun q => ?_))
        refine (rn_step (e := (.aload_n 0, 422, 0, 0, 0, 0, 0, [])) rfl).mpr ?_
        refine (rn_step (e := (.invokestatic 35, 425, 126, 1, 421, 0, 0, [0])) rfl).mpr (iq_print J54  (fun M55 J55 => ?_))
        refine (rn_step (e := (.lload_n 1, 426, 1, 0, 0, 0, 0, [])) rfl).mpr ?_
        refine (rn_step (e := (.lcmp, 427, 0, 0, 0, 0, 0, [])) rfl).mpr ?_
        refine (rn_step (e := (.ifCond .ne 17, 430, 444, 0, 0, 0, 0, [])) rfl).mpr (And.intro (fun q => ?_) (fun q => absurd (hr9 c1 c2 c3).2.2.2.1 q))
        refine (rn_step (e := (.aload_n 0, 431, 0, 0, 0, 0, 0, [])) rfl).mpr ?_
        refine (rn_step (e := (.bipush 8, 433, 0, 0, 0, 0, 0, [])) rfl).mpr ?_
        refine (rn_step (e := (.invokevirtual 13, 436, 106, 2, 276, 0, 10, [0])) rfl).mpr (And.intro ((rn_J8 J55)) ((iq_count8 J55  (fun M56 J56 => ?_))))
        refine (rn_step (e := (.iload_n 3, 437, 3, 0, 0, 0, 0, [])) rfl).mpr ?_
        refine (rn_step (e := (.if_icmp .ne 7, 440, 444, 0, 0, 0, 0, [])) rfl).mpr (And.intro (fun q => ?_) (fun q => absurd (hr9 c1 c2 c3).2.2.2.2 q))
        refine (rn_step (e := (.iconst 1, 441, 0, 0, 0, 0, 0, [])) rfl).mpr ?_
        refine (rn_step (e := (.goto 4, 444, 445, 0, 0, 0, 0, [])) rfl).mpr ?_
        exact (rn_step (e := (.ireturn, 446, 0, 0, 0, 1, 0, [])) rfl).mpr (And.intro ((Or.inr rfl)) ((k6 c1 c2 c3 M56 J56)))
    ·
      refine (rn_step (e := (.aload_n 0, 348, 0, 0, 0, 0, 0, [])) rfl).mpr ?_
      refine (rn_step (e := (.iconst 0, 349, 0, 0, 0, 0, 0, [])) rfl).mpr ?_
      refine (rn_step (e := (.iconst 0, 350, 0, 0, 0, 0, 0, [])) rfl).mpr ?_
      refine (rn_step (e := (.iconst 1, 351, 0, 0, 0, 0, 0, [])) rfl).mpr ?_
      refine (rn_step (e := (.iconst 1, 352, 0, 0, 0, 0, 0, [])) rfl).mpr ?_
      refine (rn_step (e := (.iconst 1, 353, 0, 0, 0, 0, 0, [])) rfl).mpr ?_
      refine (rn_step (e := (.invokevirtual 48, 356, 95, 6, 592, 0, 10, [0])) rfl).mpr (And.intro ((rn_J8 J48)) ((iq_addTownF J48 ((hr10 c1 c2)) (fun M57 J57 => ?_))))
      refine (rn_step (e := (.bipush (-3), 358, 0, 0, 0, 0, 0, [])) rfl).mpr ?_
      refine (rn_step (e := (.if_icmp .ne 55, 361, 413, 0, 0, 0, 0, [])) rfl).mpr (And.intro (fun q => ?_) (fun q => absurd (by decide) q))
      refine (rn_step (e := (.iload 4, 363, 4, 0, 0, 0, 0, [])) rfl).mpr ?_
      refine (rn_step (e := (.ifCond .eq 46, 366, 409, 0, 0, 0, 0, [])) rfl).mpr (And.intro (fun c3 => ?_) (fun c3 => ?_))
      ·
        refine (rn_step (e := (.iconst 1, 410, 0, 0, 0, 0, 0, [])) rfl).mpr ?_
        refine (rn_step (e := (.goto 4, 413, 414, 0, 0, 0, 0, [])) rfl).mpr ?_
        refine (rn_step (e := (.istore 7, 416, 7, 0, 0, 1, 0, [])) rfl).mpr (And.intro (rn_lnq rfl rfl) (?_))
        refine (rn_step (e := (.iload 7, 418, 7, 0, 0, 0, 0, [])) rfl).mpr ?_
        refine (rn_step (e := (.ifCond .eq 26, 421, 444, 0, 0, 0, 0, [])) rfl).mpr (And.intro (fun q => absurd q (by decide)) (fun q => ?_))
        refine (rn_step (e := (.aload_n 0, 422, 0, 0, 0, 0, 0, [])) rfl).mpr ?_
        refine (rn_step (e := (.invokestatic 35, 425, 126, 1, 421, 0, 0, [0])) rfl).mpr (iq_print J57  (fun M58 J58 => ?_))
        refine (rn_step (e := (.lload_n 1, 426, 1, 0, 0, 0, 0, [])) rfl).mpr ?_
        refine (rn_step (e := (.lcmp, 427, 0, 0, 0, 0, 0, [])) rfl).mpr ?_
        refine (rn_step (e := (.ifCond .ne 17, 430, 444, 0, 0, 0, 0, [])) rfl).mpr (And.intro (fun q => ?_) (fun q => absurd (hr11 c1 c2 c3).1 q))
        refine (rn_step (e := (.aload_n 0, 431, 0, 0, 0, 0, 0, [])) rfl).mpr ?_
        refine (rn_step (e := (.bipush 8, 433, 0, 0, 0, 0, 0, [])) rfl).mpr ?_
        refine (rn_step (e := (.invokevirtual 13, 436, 106, 2, 276, 0, 10, [0])) rfl).mpr (And.intro ((rn_J8 J58)) ((iq_count8 J58  (fun M59 J59 => ?_))))
        refine (rn_step (e := (.iload_n 3, 437, 3, 0, 0, 0, 0, [])) rfl).mpr ?_
        refine (rn_step (e := (.if_icmp .ne 7, 440, 444, 0, 0, 0, 0, [])) rfl).mpr (And.intro (fun q => ?_) (fun q => absurd (hr11 c1 c2 c3).2 q))
        refine (rn_step (e := (.iconst 1, 441, 0, 0, 0, 0, 0, [])) rfl).mpr ?_
        refine (rn_step (e := (.goto 4, 444, 445, 0, 0, 0, 0, [])) rfl).mpr ?_
        exact (rn_step (e := (.ireturn, 446, 0, 0, 0, 1, 0, [])) rfl).mpr (And.intro ((Or.inr rfl)) ((k7 c1 c2 c3 M59 J59)))
      ·
        refine (rn_step (e := (.aload_n 0, 367, 0, 0, 0, 0, 0, [])) rfl).mpr ?_
        refine (rn_step (e := (.iconst 0, 368, 0, 0, 0, 0, 0, [])) rfl).mpr ?_
        refine (rn_step (e := (.bipush 8, 370, 0, 0, 0, 0, 0, [])) rfl).mpr ?_
        refine (rn_step (e := (.invokevirtual 51, 373, 96, 3, 598, 0, 10, [0])) rfl).mpr (And.intro ((rn_J8 J57)) ((iq_flowB J57 ((hr12 c1 c2 c3).1) (fun M60 J60 => ?_))))
        refine (rn_step (e := (.iconst (-1), 374, 0, 0, 0, 0, 0, [])) rfl).mpr ?_
        refine (rn_step (e := (.if_icmp .ne 39, 377, 413, 0, 0, 0, 0, [])) rfl).mpr (And.intro (fun q => ?_) (fun q => absurd (by decide) q))
        refine (rn_step (e := (.aload_n 0, 378, 0, 0, 0, 0, 0, [])) rfl).mpr ?_
        refine (rn_step (e := (.iconst 0, 379, 0, 0, 0, 0, 0, [])) rfl).mpr ?_
        refine (rn_step (e := (.iconst 2, 380, 0, 0, 0, 0, 0, [])) rfl).mpr ?_
        refine (rn_step (e := (.invokevirtual 88, 383, 116, 3, 705, 0, 10, [0])) rfl).mpr (And.intro ((rn_J8 J60)) ((iq_bestB J60 ((hr12 c1 c2 c3).2.1) (fun M61 J61 => ?_))))
        refine (rn_step (e := (.iconst (-1), 384, 0, 0, 0, 0, 0, [])) rfl).mpr ?_
        refine (rn_step (e := (.if_icmp .ne 29, 387, 413, 0, 0, 0, 0, [])) rfl).mpr (And.intro (fun q => ?_) (fun q => absurd (by decide) q))
        refine (rn_step (e := (.aload_n 0, 388, 0, 0, 0, 0, 0, [])) rfl).mpr ?_
        refine (rn_step (e := (.iconst 0, 389, 0, 0, 0, 0, 0, [])) rfl).mpr ?_
        refine (rn_step (e := (.bipush 61, 391, 0, 0, 0, 0, 0, [])) rfl).mpr ?_
        refine (rn_step (e := (.invokevirtual 85, 394, 115, 3, 701, 0, 10, [0])) rfl).mpr (And.intro ((rn_J8 J61)) ((iq_reasonB J61 ((hr12 c1 c2 c3).2.2.1) (fun M62 J62 => ?_))))
        refine (rn_step (e := (.iconst (-1), 395, 0, 0, 0, 0, 0, [])) rfl).mpr ?_
        refine (rn_step (e := (.if_icmp .ne 18, 398, 413, 0, 0, 0, 0, [])) rfl).mpr (And.intro (fun q => ?_) (fun q => absurd (by decide) q))
        refine (rn_step (e := (.aload_n 0, 399, 0, 0, 0, 0, 0, [])) rfl).mpr ?_
        refine (rn_step (e := (.iconst 0, 400, 0, 0, 0, 0, 0, [])) rfl).mpr ?_
        refine (rn_step (e := (.bipush 61, 402, 0, 0, 0, 0, 0, [])) rfl).mpr ?_
        refine (rn_step (e := (.invokevirtual 66, 405, 101, 3, 632, 0, 10, [0])) rfl).mpr (And.intro ((rn_J8 J62)) ((iq_setB J62 ((hr12 c1 c2 c3).2.2.1) (fun M63 J63 => ?_))))
        refine (rn_step (e := (.iconst (-1), 406, 0, 0, 0, 0, 0, [])) rfl).mpr ?_
        refine (rn_step (e := (.if_icmp .ne 7, 409, 413, 0, 0, 0, 0, [])) rfl).mpr (And.intro (fun q => ?_) (fun q => absurd (by decide) q))
        refine (rn_step (e := (.iconst 1, 410, 0, 0, 0, 0, 0, [])) rfl).mpr ?_
        refine (rn_step (e := (.goto 4, 413, 414, 0, 0, 0, 0, [])) rfl).mpr ?_
        refine (rn_step (e := (.istore 7, 416, 7, 0, 0, 1, 0, [])) rfl).mpr (And.intro (rn_lnq rfl rfl) (?_))
        refine (rn_step (e := (.iload 7, 418, 7, 0, 0, 0, 0, [])) rfl).mpr ?_
        refine (rn_step (e := (.ifCond .eq 26, 421, 444, 0, 0, 0, 0, [])) rfl).mpr (And.intro (fun q => absurd q (by decide)) (fun q => ?_))
        refine (rn_step (e := (.aload_n 0, 422, 0, 0, 0, 0, 0, [])) rfl).mpr ?_
        refine (rn_step (e := (.invokestatic 35, 425, 126, 1, 421, 0, 0, [0])) rfl).mpr (iq_print J63  (fun M64 J64 => ?_))
        refine (rn_step (e := (.lload_n 1, 426, 1, 0, 0, 0, 0, [])) rfl).mpr ?_
        refine (rn_step (e := (.lcmp, 427, 0, 0, 0, 0, 0, [])) rfl).mpr ?_
        refine (rn_step (e := (.ifCond .ne 17, 430, 444, 0, 0, 0, 0, [])) rfl).mpr (And.intro (fun q => ?_) (fun q => absurd (hr12 c1 c2 c3).2.2.2.1 q))
        refine (rn_step (e := (.aload_n 0, 431, 0, 0, 0, 0, 0, [])) rfl).mpr ?_
        refine (rn_step (e := (.bipush 8, 433, 0, 0, 0, 0, 0, [])) rfl).mpr ?_
        refine (rn_step (e := (.invokevirtual 13, 436, 106, 2, 276, 0, 10, [0])) rfl).mpr (And.intro ((rn_J8 J64)) ((iq_count8 J64  (fun M65 J65 => ?_))))
        refine (rn_step (e := (.iload_n 3, 437, 3, 0, 0, 0, 0, [])) rfl).mpr ?_
        refine (rn_step (e := (.if_icmp .ne 7, 440, 444, 0, 0, 0, 0, [])) rfl).mpr (And.intro (fun q => ?_) (fun q => absurd (hr12 c1 c2 c3).2.2.2.2 q))
        refine (rn_step (e := (.iconst 1, 441, 0, 0, 0, 0, 0, [])) rfl).mpr ?_
        refine (rn_step (e := (.goto 4, 444, 445, 0, 0, 0, 0, [])) rfl).mpr ?_
        exact (rn_step (e := (.ireturn, 446, 0, 0, 0, 1, 0, [])) rfl).mpr (And.intro ((Or.inr rfl)) ((k8 c1 c2 c3 M65 J65)))
