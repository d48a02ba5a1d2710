theorem re_Lw_areStarts {M : rn_M} {Q : rn_Q} {v0 v1 : rn_V} (h : rn_WP 129 0 [v0, v1, rn_J, rn_J, rn_J, rn_J, rn_J, rn_J, rn_J, rn_J, rn_J, rn_J, rn_J] [] M Q) : rn_ME 129 [v0, v1] M Q := h
set_option maxRecDepth 4000 in
theorem rb_Lw_areStarts_0 {M : rn_M} {Q : rn_Q} {G : Nat × (Nat → Int)} {N : Nat → Int} {n : Int} {K : Nat → Nat → Int} {vl1 : rn_V} {vl2 : rn_V} {vl3 : rn_V} {vl4 : rn_V} {vl5 : rn_V} {vl6 : rn_V} {vl7 : rn_V} {vl8 : rn_V} {vl9 : rn_V} {vl10 : rn_V} {vl11 : rn_V} {vl12 : rn_V} (J : rn_Jq G M N n K)  (h1 : rn_ca vl1 = 1) (k1 : (N 2 = 20) → ∀ M', rn_Jq G M' N n K → rn_WP 129 43 [rn_R 8, vl1, rn_G (rn_pr N), rn_J, rn_I n, rn_I (-9), rn_I 0, rn_I 1, rn_I 1, rn_I 0, vl10, vl11, vl12] [] M' Q) (k2 : (¬ (N 2 = 20)) → ∀ M', rn_Jq G M' N n K → rn_WP 129 43 [rn_R 8, vl1, rn_G (rn_pr N), rn_J, rn_I n, rn_I (-9), rn_I 0, rn_I 1, rn_I 0, rn_I 0, vl10, vl11, vl12] [] M' Q) : rn_WP 129 0 [rn_R 8, vl1, vl2, vl3, vl4, vl5, vl6, vl7, vl8, vl9, vl10, vl11, vl12] [] M Q := by
  refine (rn_step (e := (.aload_n 0, 1, 0, 0, 0, 0, 0, [])) rfl).mpr ?_
  refine (rn_step (e := (.invokestatic 35, 4, 126, 1, 421, 0, 0, [0])) rfl).mpr (iq_print J  (fun M1 J1 => ?_))
  refine (rn_step (e := (.lstore_n 2, 5, 2, 0, 0, 1, 0, [])) rfl).mpr (And.intro (rn_lnq rfl h1) (?_))
  refine (rn_step (e := (.aload_n 0, 6, 0, 0, 0, 0, 0, [])) rfl).mpr ?_
  refine (rn_step (e := (.bipush 8, 8, 0, 0, 0, 0, 0, [])) rfl).mpr ?_
  refine (rn_step (e := (.invokevirtual 13, 11, 106, 2, 276, 0, 10, [0])) rfl).mpr (And.intro ((rn_J8 J1)) ((iq_count8 J1  (fun M2 J2 => ?_))))
  refine (rn_step (e := (.istore 4, 13, 4, 0, 0, 1, 0, [])) rfl).mpr (And.intro (rn_lnq rfl rfl) (?_))
  refine (rn_step (e := (.bipush (-9), 15, 0, 0, 0, 0, 0, [])) rfl).mpr ?_
  refine (rn_step (e := (.istore 5, 17, 5, 0, 0, 1, 0, [])) rfl).mpr (And.intro (rn_lnq rfl rfl) (?_))
  refine (rn_step (e := (.iconst 0, 18, 0, 0, 0, 0, 0, [])) rfl).mpr ?_
  refine (rn_step (e := (.istore 6, 20, 6, 0, 0, 1, 0, [])) rfl).mpr (And.intro (rn_lnq rfl rfl) (?_))
  refine (rn_step (e := (.iconst 1, 21, 0, 0, 0, 0, 0, [])) rfl).mpr ?_
  refine (rn_step (e := (.istore 7, 23, 7, 0, 0, 1, 0, [])) rfl).mpr (And.intro (rn_lnq rfl rfl) (?_))
  refine (rn_step (e := (.aload_n 0, 24, 0, 0, 0, 0, 0, [])) rfl).mpr ?_
  refine (rn_step (e := (.iconst 2, 25, 0, 0, 0, 0, 0, [])) rfl).mpr ?_
  refine (rn_step (e := (.invokevirtual 13, 28, 106, 2, 276, 0, 10, [0])) rfl).mpr (And.intro ((rn_J8 J2)) ((iq_count2 J2  (fun M3 J3 => ?_))))
  refine (rn_step (e := (.bipush 20, 30, 0, 0, 0, 0, 0, [])) rfl).mpr ?_
  refine (rn_step (e := (.if_icmp .ne 7, 33, 37, 0, 0, 0, 0, [])) rfl).mpr (And.intro (fun c1 => ?_) (fun c1 => ?_))
  ·
    refine (rn_step (e := (.iconst 1, 34, 0, 0, 0, 0, 0, [])) rfl).mpr ?_
    refine (rn_step (e := (.goto 4, 37, 38, 0, 0, 0, 0, [])) rfl).mpr ?_
    refine (rn_step (e := (.istore 8, 40, 8, 0, 0, 1, 0, [])) rfl).mpr (And.intro (rn_lnq rfl rfl) (?_))
    refine (rn_step (e := (.iconst 0, 41, 0, 0, 0, 0, 0, [])) rfl).mpr ?_
    refine (rn_step (e := (.istore 9, 43, 9, 0, 0, 1, 0, [])) rfl).mpr (And.intro (rn_lnq rfl rfl) (?_))
    exact (k1 c1 M3 J3)
  ·
    refine (rn_step (e := (.iconst 0, 38, 0, 0, 0, 0, 0, [])) rfl).mpr ?_
    refine (rn_step (e := (.istore 8, 40, 8, 0, 0, 1, 0, [])) rfl).mpr (And.intro (rn_lnq rfl rfl) (?_))
    refine (rn_step (e := (.iconst 0, 41, 0, 0, 0, 0, 0, [])) rfl).mpr ?_
    refine (rn_step (e := (.istore 9, 43, 9, 0, 0, 1, 0, [])) rfl).mpr (And.intro (rn_lnq rfl rfl) (?_))
    exact (k2 c1 M3 J3)
set_option maxRecDepth 4000 in
theorem rb_Lw_areStarts_43 {M : rn_M} {Q : rn_Q} {G : Nat × (Nat → Int)} {N : Nat → Int} {n : Int} {K : Nat → Nat → Int} {xl1 : Int} {vl2 : rn_V} {vl3 : rn_V} {vl4 : rn_V} {vl5 : rn_V} {vl6 : rn_V} {vl8 : rn_V} {xl9 : Int} {vl10 : rn_V} {vl11 : rn_V} {vl12 : rn_V} (J : rn_Jq G M N n K)   (hr1 : (xl9 < 61) → (((0 : Int) ≤ xl1 ∧ xl1 < N 0) ∧ (0 : Int) ≤ xl9 ∧ (xl9 : Int) ≤ 60)) (k1 : (xl9 < 61) → ∀ M', rn_Jq G M' N n K → rn_ME 101 [rn_R 8, rn_I xl1, rn_I xl9] M' (fun r M1 => rn_WP 129 71 [rn_R 8, rn_I xl1, vl2, vl3, vl4, vl5, vl6, rn_I 1, vl8, rn_I xl9, rn_I (rn_why N xl1 xl9 (rn_o N xl1 1) (-9)), vl11, vl12] (r.toList ++ []) M1 Q)) (k2 : (¬ (xl9 < 61)) → ∀ M', rn_Jq G M' N n K → rn_WP 129 378 [rn_R 8, rn_I xl1, vl2, vl3, vl4, vl5, vl6, rn_I 1, vl8, rn_I xl9, vl10, vl11, vl12] [] M' Q) : rn_WP 129 43 [rn_R 8, rn_I xl1, vl2, vl3, vl4, vl5, vl6, rn_I 1, vl8, rn_I xl9, vl10, vl11, vl12] [] M Q := by
  refine (rn_step (e := (.iload 9, 45, 9, 0, 0, 0, 0, [])) rfl).mpr ?_
  refine (rn_step (e := (.bipush 61, 47, 0, 0, 0, 0, 0, [])) rfl).mpr ?_
  refine (rn_step (e := (.if_icmp .ge 331, 50, 378, 0, 0, 0, 0, [])) rfl).mpr (And.intro (fun c1 => ?_) (fun c1 => ?_))
  ·
    refine (rn_step (e := (.iload 7, 52, 7, 0, 0, 0, 0, [])) rfl).mpr ?_
    refine (rn_step (e := (.ifCond .eq 326, 55, 378, 0, 0, 0, 0, [])) rfl).mpr (And.intro (fun q => absurd q (by decide)) (fun q => ?_))
    refine (rn_step (e := (.aload_n 0, 56, 0, 0, 0, 0, 0, [])) rfl).mpr ?_
    refine (rn_step (e := (.iload_n 1, 57, 1, 0, 0, 0, 0, [])) rfl).mpr ?_
    refine (rn_step (e := (.iload 9, 59, 9, 0, 0, 0, 0, [])) rfl).mpr ?_
    refine (rn_step (e := (.invokevirtual 85, 62, 115, 3, 701, 0, 10, [0])) rfl).mpr (And.intro ((rn_J8 J)) ((iq_reason J ((hr1 c1)) (fun M1 J1 => ?_))))
    refine (rn_step (e := (.istore 10, 64, 10, 0, 0, 1, 0, [])) rfl).mpr (And.intro (rn_lnq rfl rfl) (?_))
    refine (rn_step (e := (.aload_n 0, 65, 0, 0, 0, 0, 0, [])) rfl).mpr ?_
    refine (rn_step (e := (.iload_n 1, 66, 1, 0, 0, 0, 0, [])) rfl).mpr ?_
    refine (rn_step (e := (.iload 9, 68, 9, 0, 0, 0, 0, [])) rfl).mpr ?_
    exact (rn_step (e := (.invokevirtual 66, 71, 101, 3, 632, 0, 10, [0])) rfl).mpr (And.intro ((rn_J8 J1)) ((k1 c1 M1 J1)))
  ·
    exact (k2 c1 M J)
set_option maxRecDepth 4000 in
theorem rb_Lw_areStarts_71 {M : rn_M} {Q : rn_Q} {G : Nat × (Nat → Int)} {N : Nat → Int} {n : Int} {K : Nat → Nat → Int} {vl1 : rn_V} {vl2 : rn_V} {vl3 : rn_V} {vl4 : rn_V} {vl5 : rn_V} {vl6 : rn_V} {vl7 : rn_V} {xl8 : Int} {vl9 : rn_V} {xl10 : Int} {vl11 : rn_V} {vl12 : rn_V} {xs0 : Int} (J : rn_Jq G M N n K)   (hr1 : ¬ (xl10 < 0) ∧ xl10 < 5) (hr2 : (xl10 ≤ 0) → (xl8 = 0) → (-2147483648 : Int) ≤ (N 2) - 1 ∧ (N 2) - 1 ≤ 2147483647) (k1 : (xl10 ≤ 0) → (xl8 = 0) → ∀ M', rn_Jq G M' N n K → rn_WP 129 113 [rn_R 8, vl1, vl2, vl3, vl4, vl5, vl6, vl7, rn_I xl8, vl9, rn_I xl10, rn_I xs0, vl12] [rn_I ((N 2) - 1), rn_I xs0] M' Q) (k2 : (xl10 ≤ 0) → (¬ (xl8 = 0)) → ∀ M', rn_Jq G M' N n K → rn_WP 129 113 [rn_R 8, vl1, vl2, vl3, vl4, vl5, vl6, vl7, rn_I xl8, vl9, rn_I xl10, rn_I xs0, vl12] [rn_I (-3), rn_I xs0] M' Q) (k3 : (¬ (xl10 ≤ 0)) → ∀ M', rn_Jq G M' N n K → rn_WP 129 113 [rn_R 8, vl1, vl2, vl3, vl4, vl5, vl6, vl7, rn_I xl8, vl9, rn_I xl10, rn_I xs0, vl12] [rn_I (-2), rn_I xs0] M' Q) : rn_WP 129 71 [rn_R 8, vl1, vl2, vl3, vl4, vl5, vl6, vl7, rn_I xl8, vl9, rn_I xl10, vl11, vl12] [rn_I xs0] M Q := by
  refine (rn_step (e := (.istore 11, 73, 11, 0, 0, 1, 0, [])) rfl).mpr (And.intro (rn_lnq rfl rfl) (?_))
  refine (rn_step (e := (.iload 10, 75, 10, 0, 0, 0, 0, [])) rfl).mpr ?_
  refine (rn_step (e := (.ifCond .lt 84, 78, 159, 0, 0, 0, 0, [])) rfl).mpr (And.intro (fun q => absurd q hr1.1) (fun q => ?_))
  refine (rn_step (e := (.iload 10, 80, 10, 0, 0, 0, 0, [])) rfl).mpr ?_
  refine (rn_step (e := (.iconst 5, 81, 0, 0, 0, 0, 0, [])) rfl).mpr ?_
  refine (rn_step (e := (.if_icmp .ge 78, 84, 159, 0, 0, 0, 0, [])) rfl).mpr (And.intro (fun q => ?_) (fun q => absurd hr1.2 q))
  refine (rn_step (e := (.iload 11, 86, 11, 0, 0, 0, 0, [])) rfl).mpr ?_
  refine (rn_step (e := (.iload 10, 88, 10, 0, 0, 0, 0, [])) rfl).mpr ?_
  refine (rn_step (e := (.ifCond .le 8, 91, 96, 0, 0, 0, 0, [])) rfl).mpr (And.intro (fun c1 => ?_) (fun c1 => ?_))
  ·
    refine (rn_step (e := (.iload 8, 98, 8, 0, 0, 0, 0, [])) rfl).mpr ?_
    refine (rn_step (e := (.ifCond .eq 8, 101, 106, 0, 0, 0, 0, [])) rfl).mpr (And.intro (fun c2 => ?_) (fun c2 => ?_))
    ·
      refine (rn_step (e := (.aload_n 0, 107, 0, 0, 0, 0, 0, [])) rfl).mpr ?_
      refine (rn_step (e := (.iconst 2, 108, 0, 0, 0, 0, 0, [])) rfl).mpr ?_
      refine (rn_step (e := (.invokevirtual 13, 111, 106, 2, 276, 0, 10, [0])) rfl).mpr (And.intro ((rn_J8 J)) ((iq_count2 J  (fun M1 J1 => ?_))))
      refine (rn_step (e := (.iconst 1, 112, 0, 0, 0, 0, 0, [])) rfl).mpr ?_
      refine (rn_step (e := (.isub, 113, 0, 0, 0, 0, 0, [])) rfl).mpr (rn_cw (hr2 c1 c2).1 (hr2 c1 c2).2 ?_)
      exact (k1 c1 c2 M1 J1)
    ·
      refine (rn_step (e := (.bipush (-3), 103, 0, 0, 0, 0, 0, [])) rfl).mpr ?_
      refine (rn_step (e := (.goto 10, 106, 113, 0, 0, 0, 0, [])) rfl).mpr ?_
      exact (k2 c1 c2 M J)
  ·
    refine (rn_step (e := (.bipush (-2), 93, 0, 0, 0, 0, 0, [])) rfl).mpr ?_
    refine (rn_step (e := (.goto 20, 96, 113, 0, 0, 0, 0, [])) rfl).mpr ?_
    exact (k3 c1 M J)
set_option maxRecDepth 4000 in
theorem rb_Lw_areStarts_113 {M : rn_M} {Q : rn_Q} {G : Nat × (Nat → Int)} {N : Nat → Int} {n : Int} {K : Nat → Nat → Int} {xl1 : Int} {vl2 : rn_V} {vl3 : rn_V} {vl4 : rn_V} {vl5 : rn_V} {vl6 : rn_V} {vl7 : rn_V} {vl8 : rn_V} {xl9 : Int} {xl10 : Int} {vl11 : rn_V} {vl12 : rn_V} {xs0 : Int} {xs1 : Int} (J : rn_Jq G M N n K)  (h1 : rn_ca vl6 = 1) (hr1 : xs1 = xs0) (hr2 : (xl10 = 1) → ((0 : Int) ≤ xl1 ∧ xl1 < N 0) ∧ (-2147483648 : Int) ≤ xl9 + (rn_o N xl1 0) ∧ xl9 + (rn_o N xl1 0) ≤ 2147483647 ∧ (-2147483648 : Int) ≤ rn_o N xl1 5 + 1 ∧ rn_o N xl1 5 + 1 ≤ 2147483647) (hr3 : (xl10 = 1) → (xl9 + (rn_o N xl1 0) ≤ rn_o N xl1 5 + 1) → False) (hr4 : (¬ (xl10 = 1)) → ((0 : Int) ≤ xl1 ∧ xl1 < N 0) ∧ (-2147483648 : Int) ≤ xl9 + (rn_o N xl1 0) ∧ xl9 + (rn_o N xl1 0) ≤ 2147483647 ∧ (-2147483648 : Int) ≤ rn_o N xl1 5 + 1 ∧ rn_o N xl1 5 + 1 ≤ 2147483647) (hr5 : (¬ (xl10 = 1)) → (¬ (xl9 + (rn_o N xl1 0) ≤ rn_o N xl1 5 + 1)) → False) (k1 : (xl10 = 1) → (¬ (xl9 + (rn_o N xl1 0) ≤ rn_o N xl1 5 + 1)) → ∀ M', rn_Jq G M' N n K → rn_WP 129 162 [rn_R 8, rn_I xl1, vl2, vl3, vl4, vl5, vl6, rn_I 1, vl8, rn_I xl9, rn_I xl10, vl11, vl12] [] M' Q) (k2 : (¬ (xl10 = 1)) → (xl9 + (rn_o N xl1 0) ≤ rn_o N xl1 5 + 1) → ∀ M', rn_Jq G M' N n K → rn_WP 129 162 [rn_R 8, rn_I xl1, vl2, vl3, vl4, vl5, vl6, rn_I 1, vl8, rn_I xl9, rn_I xl10, vl11, vl12] [] M' Q) : rn_WP 129 113 [rn_R 8, rn_I xl1, vl2, vl3, vl4, vl5, vl6, vl7, vl8, rn_I xl9, rn_I xl10, vl11, vl12] [rn_I xs0, rn_I xs1] M Q := by
  refine (rn_step (e := (.if_icmp .ne 46, 116, 159, 0, 0, 0, 0, [])) rfl).mpr (And.intro (fun q => ?_) (fun q => absurd hr1 q))
  refine (rn_step (e := (.iload 10, 118, 10, 0, 0, 0, 0, [])) rfl).mpr ?_
  refine (rn_step (e := (.iconst 1, 119, 0, 0, 0, 0, 0, [])) rfl).mpr ?_
  refine (rn_step (e := (.if_icmp .ne 7, 122, 126, 0, 0, 0, 0, [])) rfl).mpr (And.intro (fun c1 => ?_) (fun c1 => ?_))
  ·
    refine (rn_step (e := (.iconst 1, 123, 0, 0, 0, 0, 0, [])) rfl).mpr ?_
    refine (rn_step (e := (.goto 4, 126, 127, 0, 0, 0, 0, [])) rfl).mpr ?_
    refine (rn_step (e := (.iload 9, 129, 9, 0, 0, 0, 0, [])) rfl).mpr ?_
    refine (rn_step (e := (.aload_n 0, 130, 0, 0, 0, 0, 0, [])) rfl).mpr ?_
    refine (rn_step (e := (.iload_n 1, 131, 1, 0, 0, 0, 0, [])) rfl).mpr ?_
    refine (rn_step (e := (.iconst 2, 132, 0, 0, 0, 0, 0, [])) rfl).mpr ?_
    refine (rn_step (e := (.invokevirtual 19, 135, 107, 3, 426, 0, 10, [0])) rfl).mpr (And.intro ((rn_J8 J)) ((iq_river2 J ((hr2 c1).1) (fun M1 J1 => ?_))))
    refine (rn_step (e := (.iadd, 136, 0, 0, 0, 0, 0, [])) rfl).mpr (rn_cw (hr2 c1).2.1 (hr2 c1).2.2.1 ?_)
    refine (rn_step (e := (.aload_n 0, 137, 0, 0, 0, 0, 0, [])) rfl).mpr ?_
    refine (rn_step (e := (.iload_n 1, 138, 1, 0, 0, 0, 0, [])) rfl).mpr ?_
    refine (rn_step (e := (.iconst 3, 139, 0, 0, 0, 0, 0, [])) rfl).mpr ?_
    refine (rn_step (e := (.invokevirtual 19, 142, 107, 3, 426, 0, 10, [0])) rfl).mpr (And.intro ((rn_J8 J1)) ((iq_river3 J1 ((hr2 c1).1) (fun M2 J2 => ?_))))
    refine (rn_step (e := (.iconst 1, 143, 0, 0, 0, 0, 0, [])) rfl).mpr ?_
    refine (rn_step (e := (.iadd, 144, 0, 0, 0, 0, 0, [])) rfl).mpr (rn_cw (hr2 c1).2.2.2.1 (hr2 c1).2.2.2.2 ?_)
    refine (rn_step (e := (.if_icmp .le 7, 147, 151, 0, 0, 0, 0, [])) rfl).mpr (And.intro (fun c2 => ?_) (fun c2 => ?_))
    ·
      refine (rn_step (e := (.iconst 0, 152, 0, 0, 0, 0, 0, [])) rfl).mpr ?_
      exact False.elim (hr3 c1 c2)
    ·
      refine (rn_step (e := (.iconst 1, 148, 0, 0, 0, 0, 0, [])) rfl).mpr ?_
      refine (rn_step (e := (.goto 4, 151, 152, 0, 0, 0, 0, [])) rfl).mpr ?_
      refine (rn_step (e := (.if_icmp .ne 7, 155, 159, 0, 0, 0, 0, [])) rfl).mpr (And.intro (fun q => ?_) (fun q => absurd (by decide) q))
      refine (rn_step (e := (.iconst 1, 156, 0, 0, 0, 0, 0, [])) rfl).mpr ?_
      refine (rn_step (e := (.goto 4, 159, 160, 0, 0, 0, 0, [])) rfl).mpr ?_
      refine (rn_step (e := (.istore 7, 162, 7, 0, 0, 1, 0, [])) rfl).mpr (And.intro (rn_lnq rfl h1) (?_))
      exact (k1 c1 c2 M2 J2)
  ·
    refine (rn_step (e := (.iconst 0, 127, 0, 0, 0, 0, 0, [])) rfl).mpr ?_
    refine (rn_step (e := (.iload 9, 129, 9, 0, 0, 0, 0, [])) rfl).mpr ?_
    refine (rn_step (e := (.aload_n 0, 130, 0, 0, 0, 0, 0, [])) rfl).mpr ?_
    refine (rn_step (e := (.iload_n 1, 131, 1, 0, 0, 0, 0, [])) rfl).mpr ?_
    refine (rn_step (e := (.iconst 2, 132, 0, 0, 0, 0, 0, [])) rfl).mpr ?_
    refine (rn_step (e := (.invokevirtual 19, 135, 107, 3, 426, 0, 10, [0])) rfl).mpr (And.intro ((rn_J8 J)) ((iq_river2 J ((hr4 c1).1) (fun M3 J3 => ?_))))
    refine (rn_step (e := (.iadd, 136, 0, 0, 0, 0, 0, [])) rfl).mpr (rn_cw (hr4 c1).2.1 (hr4 c1).2.2.1 ?_)
    refine (rn_step (e := (.aload_n 0, 137, 0, 0, 0, 0, 0, [])) rfl).mpr ?_
    refine (rn_step (e := (.iload_n 1, 138, 1, 0, 0, 0, 0, [])) rfl).mpr ?_
    refine (rn_step (e := (.iconst 3, 139, 0, 0, 0, 0, 0, [])) rfl).mpr ?_
    refine (rn_step (e := (.invokevirtual 19, 142, 107, 3, 426, 0, 10, [0])) rfl).mpr (And.intro ((rn_J8 J3)) ((iq_river3 J3 ((hr4 c1).1) (fun M4 J4 => ?_))))
    refine (rn_step (e := (.iconst 1, 143, 0, 0, 0, 0, 0, [])) rfl).mpr ?_
    refine (rn_step (e := (.iadd, 144, 0, 0, 0, 0, 0, [])) rfl).mpr (rn_cw (hr4 c1).2.2.2.1 (hr4 c1).2.2.2.2 ?_)
    refine (rn_step (e := (.if_icmp .le 7, 147, 151, 0, 0, 0, 0, [])) rfl).mpr (And.intro (fun c2 => ?_) (fun c2 => ?_))
    ·
      refine (rn_step (e := (.iconst 0, 152, 0, 0, 0, 0, 0, [])) rfl).mpr ?_
      refine (rn_step (e := (.if_icmp .ne 7, 155, 159, 0, 0, 0, 0, [])) rfl).mpr (And.intro (fun q => ?_) (fun q => absurd (by decide) q))
      refine (rn_step (e := (.iconst 1, 156, 0, 0, 0, 0, 0, [])) rfl).mpr ?_
      refine (rn_step (e := (.goto 4, 159, 160, 0, 0, 0, 0, [])) rfl).mpr ?_
      refine (rn_step (e := (.istore 7, 162, 7, 0, 0, 1, 0, [])) rfl).mpr (And.intro (rn_lnq rfl h1) (?_))
      exact (k2 c1 c2 M4 J4)
    ·
      refine (rn_step (e := (.iconst 1, 148, 0, 0, 0, 0, 0, [])) rfl).mpr ?_
      refine (rn_step (e := (.goto 4, 151, 152, 0, 0, 0, 0, [])) rfl).mpr ?_
      exact False.elim (hr5 c1 c2)
set_option maxRecDepth 4000 in
theorem rb_Lw_areStarts_162 {M : rn_M} {Q : rn_Q} {G : Nat × (Nat → Int)} {N : Nat → Int} {n : Int} {K : Nat → Nat → Int} {vl1 : rn_V} {vl2 : rn_V} {vl3 : rn_V} {vl4 : rn_V} {xl5 : Int} {xl6 : Int} {xl8 : Int} {xl9 : Int} {xl10 : Int} {xl11 : Int} {vl12 : rn_V} (J : rn_Jq G M N n K)  (h1 : rn_ca vl4 = 1) (hr1 : (xl10 = 0) → (xl8 = 0) → ((0 : Int) ≤ xl11 ∧ xl11 < N 2)) (k1 : (xl10 = 0) → (xl8 = 0) → (xl5 < 0) → ∀ M', rn_Jq G M' N n K → rn_WP 129 207 [rn_R 8, vl1, vl2, vl3, vl4, rn_I xl9, rn_I xl6, rn_I 1, rn_I xl8, rn_I xl9, rn_I xl10, rn_I xl11, rn_I (rn_cost N (rn_lb N xl11 0) (rn_lb N xl11 1))] [] M' Q) (k2 : (xl10 = 0) → (xl8 = 0) → (¬ (xl5 < 0)) → (rn_cost N (rn_lb N xl11 0) (rn_lb N xl11 1) < xl6) → ∀ M', rn_Jq G M' N n K → rn_WP 129 207 [rn_R 8, vl1, vl2, vl3, vl4, rn_I xl9, rn_I xl6, rn_I 1, rn_I xl8, rn_I xl9, rn_I xl10, rn_I xl11, rn_I (rn_cost N (rn_lb N xl11 0) (rn_lb N xl11 1))] [] M' Q) (k3 : (xl10 = 0) → (xl8 = 0) → (¬ (xl5 < 0)) → (¬ (rn_cost N (rn_lb N xl11 0) (rn_lb N xl11 1) < xl6)) → ∀ M', rn_Jq G M' N n K → rn_WP 129 207 [rn_R 8, vl1, vl2, vl3, vl4, rn_I xl5, rn_I xl6, rn_I 1, rn_I xl8, rn_I xl9, rn_I xl10, rn_I xl11, rn_I (rn_cost N (rn_lb N xl11 0) (rn_lb N xl11 1))] [] M' Q) (k4 : (xl10 = 0) → (¬ (xl8 = 0)) → ∀ M', rn_Jq G M' N n K → rn_WP 129 359 [rn_R 8, vl1, vl2, vl3, vl4, rn_I xl5, rn_I xl6, rn_I 1, rn_I xl8, rn_I xl9, rn_I xl10, rn_I xl11, vl12] [] M' Q) (k5 : (¬ (xl10 = 0)) → ∀ M', rn_Jq G M' N n K → rn_WP 129 359 [rn_R 8, vl1, vl2, vl3, vl4, rn_I xl5, rn_I xl6, rn_I 1, rn_I xl8, rn_I xl9, rn_I xl10, rn_I xl11, vl12] [] M' Q) : rn_WP 129 162 [rn_R 8, vl1, vl2, vl3, vl4, rn_I xl5, rn_I xl6, rn_I 1, rn_I xl8, rn_I xl9, rn_I xl10, rn_I xl11, vl12] [] M Q := by
  refine (rn_step (e := (.iload 7, 164, 7, 0, 0, 0, 0, [])) rfl).mpr ?_
  refine (rn_step (e := (.ifCond .eq 195, 167, 359, 0, 0, 0, 0, [])) rfl).mpr (And.intro (fun q => absurd q (by decide)) (fun q => ?_))
  refine (rn_step (e := (.iload 10, 169, 10, 0, 0, 0, 0, [])) rfl).mpr ?_
  refine (rn_step (e := (.ifCond .ne 190, 172, 359, 0, 0, 0, 0, [])) rfl).mpr (And.intro (fun c1 => ?_) (fun c1 => ?_))
  ·
    refine (rn_step (e := (.iload 8, 174, 8, 0, 0, 0, 0, [])) rfl).mpr ?_
    refine (rn_step (e := (.ifCond .ne 185, 177, 359, 0, 0, 0, 0, [])) rfl).mpr (And.intro (fun c2 => ?_) (fun c2 => ?_))
    ·
      refine (rn_step (e := (.aload_n 0, 178, 0, 0, 0, 0, 0, [])) rfl).mpr ?_
      refine (rn_step (e := (.iload 11, 180, 11, 0, 0, 0, 0, [])) rfl).mpr ?_
      refine (rn_step (e := (.iconst 2, 181, 0, 0, 0, 0, 0, [])) rfl).mpr ?_
      refine (rn_step (e := (.invokevirtual 29, 184, 111, 3, 461, 0, 10, [0])) rfl).mpr (And.intro ((rn_J8 J)) ((iq_label2 J ((hr1 c1 c2)) (fun M1 J1 => ?_))))
      refine (rn_step (e := (.istore 12, 186, 12, 0, 0, 1, 0, [])) rfl).mpr (And.intro (rn_lnq rfl rfl) (?_))
      refine (rn_step (e := (.iload 5, 188, 5, 0, 0, 0, 0, [])) rfl).mpr ?_
      refine (rn_step (e := (.ifCond .lt 10, 191, 198, 0, 0, 0, 0, [])) rfl).mpr (And.intro (fun c3 => ?_) (fun c3 => ?_))
      ·
        refine (rn_step (e := (.iload 9, 200, 9, 0, 0, 0, 0, [])) rfl).mpr ?_
        refine (rn_step (e := (.goto 5, 203, 205, 0, 0, 0, 0, [])) rfl).mpr ?_
        refine (rn_step (e := (.istore 5, 207, 5, 0, 0, 1, 0, [])) rfl).mpr (And.intro (rn_lnq rfl h1) (?_))
        exact (k1 c1 c2 c3 M1 J1)
      ·
        refine (rn_step (e := (.iload 12, 193, 12, 0, 0, 0, 0, [])) rfl).mpr ?_
        refine (rn_step (e := (.iload 6, 195, 6, 0, 0, 0, 0, [])) rfl).mpr ?_
        refine (rn_step (e := (.if_icmp .ge 8, 198, 203, 0, 0, 0, 0, [])) rfl).mpr (And.intro (fun c4 => ?_) (fun c4 => ?_))
        ·
          refine (rn_step (e := (.iload 9, 200, 9, 0, 0, 0, 0, [])) rfl).mpr ?_
          refine (rn_step (e := (.goto 5, 203, 205, 0, 0, 0, 0, [])) rfl).mpr ?_
          refine (rn_step (e := (.istore 5, 207, 5, 0, 0, 1, 0, [])) rfl).mpr (And.intro (rn_lnq rfl h1) (?_))
          exact (k2 c1 c2 c3 c4 M1 J1)
        ·
          refine (rn_step (e := (.iload 5, 205, 5, 0, 0, 0, 0, [])) rfl).mpr ?_
          refine (rn_step (e := (.istore 5, 207, 5, 0, 0, 1, 0, [])) rfl).mpr (And.intro (rn_lnq rfl h1) (?_))
          exact (k3 c1 c2 c3 c4 M1 J1)
    ·
      exact (k4 c1 c2 M J)
  ·
    exact (k5 c1 M J)
set_option maxRecDepth 4000 in
theorem rb_Lw_areStarts_207 {M : rn_M} {Q : rn_Q} {G : Nat × (Nat → Int)} {N : Nat → Int} {n : Int} {K : Nat → Nat → Int} {vl1 : rn_V} {vl2 : rn_V} {vl3 : rn_V} {vl4 : rn_V} {xl5 : Int} {xl6 : Int} {vl7 : rn_V} {vl8 : rn_V} {xl9 : Int} {vl10 : rn_V} {vl11 : rn_V} {xl12 : Int} (J : rn_Jq G M N n K)   (k1 : (xl5 = xl9) → ∀ M', rn_Jq G M' N n K → rn_WP 129 223 [rn_R 8, vl1, vl2, vl3, vl4, rn_I xl5, rn_I xl12, vl7, vl8, rn_I xl9, vl10, vl11, rn_I xl12] [] M' Q) (k2 : (¬ (xl5 = xl9)) → ∀ M', rn_Jq G M' N n K → rn_WP 129 223 [rn_R 8, vl1, vl2, vl3, vl4, rn_I xl5, rn_I xl6, vl7, vl8, rn_I xl9, vl10, vl11, rn_I xl12] [] M' Q) : rn_WP 129 207 [rn_R 8, vl1, vl2, vl3, vl4, rn_I xl5, rn_I xl6, vl7, vl8, rn_I xl9, vl10, vl11, rn_I xl12] [] M Q := by
  refine (rn_step (e := (.iload 5, 209, 5, 0, 0, 0, 0, [])) rfl).mpr ?_
  refine (rn_step (e := (.iload 9, 211, 9, 0, 0, 0, 0, [])) rfl).mpr ?_
  refine (rn_step (e := (.if_icmp .ne 8, 214, 219, 0, 0, 0, 0, [])) rfl).mpr (And.intro (fun c1 => ?_) (fun c1 => ?_))
  ·
    refine (rn_step (e := (.iload 12, 216, 12, 0, 0, 0, 0, [])) rfl).mpr ?_
    refine (rn_step (e := (.goto 5, 219, 221, 0, 0, 0, 0, [])) rfl).mpr ?_
    refine (rn_step (e := (.istore 6, 223, 6, 0, 0, 1, 0, [])) rfl).mpr (And.intro (rn_lnq rfl rfl) (?_))
    exact (k1 c1 M J)
  ·
    refine (rn_step (e := (.iload 6, 221, 6, 0, 0, 0, 0, [])) rfl).mpr ?_
    refine (rn_step (e := (.istore 6, 223, 6, 0, 0, 1, 0, [])) rfl).mpr (And.intro (rn_lnq rfl rfl) (?_))
    exact (k2 c1 M J)
set_option maxRecDepth 4000 in
theorem rb_Lw_areStarts_223 {M : rn_M} {Q : rn_Q} {G : Nat × (Nat → Int)} {N : Nat → Int} {n : Int} {K : Nat → Nat → Int} {xl1 : Int} {vl2 : rn_V} {vl3 : rn_V} {vl4 : rn_V} {vl5 : rn_V} {vl6 : rn_V} {vl7 : rn_V} {vl8 : rn_V} {xl9 : Int} {vl10 : rn_V} {xl11 : Int} {xl12 : Int} (J : rn_Jq G M N n K)   (hr1 : ((0 : Int) ≤ xl11 ∧ xl11 < N 2) ∧ rn_why N (rn_lb N xl11 0) (rn_lb N xl11 1) (rn_o N (rn_lb N xl11 0) 1) xl11 = 0 ∧ rn_lb N xl11 0 = xl1 ∧ rn_lb N xl11 1 = xl9 ∧ (-2147483648 : Int) ≤ 10 * (rn_bend N (rn_lb N xl11 0) (rn_lb N xl11 1) (rn_o N (rn_lb N xl11 0) 0)) ∧ 10 * (rn_bend N (rn_lb N xl11 0) (rn_lb N xl11 1) (rn_o N (rn_lb N xl11 0) 0)) ≤ 2147483647 ∧ (-2147483648 : Int) ≤ 2 * xl9 ∧ 2 * xl9 ≤ 2147483647 ∧ ((0 : Int) ≤ xl1 ∧ xl1 < N 0) ∧ (-2147483648 : Int) ≤ (2 * xl9) + (rn_o N xl1 0) ∧ (2 * xl9) + (rn_o N xl1 0) ≤ 2147483647 ∧ (-2147483648 : Int) ≤ ((2 * xl9) + (rn_o N xl1 0)) - 1 ∧ ((2 * xl9) + (rn_o N xl1 0)) - 1 ≤ 2147483647 ∧ (-2147483648 : Int) ≤ (((2 * xl9) + (rn_o N xl1 0)) - 1) - (rn_o N xl1 5) ∧ (((2 * xl9) + (rn_o N xl1 0)) - 1) - (rn_o N xl1 5) ≤ 2147483647 ∧ ((-2147483647 : Int) ≤ (((2 * xl9) + (rn_o N xl1 0)) - 1) - (rn_o N xl1 5) ∧ (((2 * xl9) + (rn_o N xl1 0)) - 1) - (rn_o N xl1 5) ≤ 2147483647) ∧ (-2147483648 : Int) ≤ (10 * (rn_bend N (rn_lb N xl11 0) (rn_lb N xl11 1) (rn_o N (rn_lb N xl11 0) 0))) + (max ((((2 * xl9) + (rn_o N xl1 0)) - 1) - (rn_o N xl1 5)) (-((((2 * xl9) + (rn_o N xl1 0)) - 1) - (rn_o N xl1 5)))) ∧ (10 * (rn_bend N (rn_lb N xl11 0) (rn_lb N xl11 1) (rn_o N (rn_lb N xl11 0) 0))) + (max ((((2 * xl9) + (rn_o N xl1 0)) - 1) - (rn_o N xl1 5)) (-((((2 * xl9) + (rn_o N xl1 0)) - 1) - (rn_o N xl1 5)))) ≤ 2147483647 ∧ xl12 = (10 * (rn_bend N (rn_lb N xl11 0) (rn_lb N xl11 1) (rn_o N (rn_lb N xl11 0) 0))) + (max ((((2 * xl9) + (rn_o N xl1 0)) - 1) - (rn_o N xl1 5)) (-((((2 * xl9) + (rn_o N xl1 0)) - 1) - (rn_o N xl1 5)))) ∧ (((0 : Int) ≤ xl1 ∧ xl1 < N 0) ∧ (0 : Int) ≤ xl9 ∧ (1 : Int) ≤ rn_o N xl1 0 ∧ xl9 + (rn_o N xl1 0) ≤ rn_o N xl1 5 + 1) ∧ rn_bend N (rn_lb N xl11 0) (rn_lb N xl11 1) (rn_o N (rn_lb N xl11 0) 0) = rn_bend N xl1 xl9 (rn_o N xl1 0)) (k1 : ∀ M', rn_Jq G M' N n K → rn_ME 105 [rn_R 8] M' (fun r M1 => rn_WP 129 323 [rn_R 8, rn_I xl1, vl2, vl3, vl4, vl5, vl6, vl7, vl8, rn_I xl9, vl10, rn_I xl11, rn_I xl12] (r.toList ++ []) M1 Q)) : rn_WP 129 223 [rn_R 8, rn_I xl1, vl2, vl3, vl4, vl5, vl6, vl7, vl8, rn_I xl9, vl10, rn_I xl11, rn_I xl12] [] M Q := by
  refine (rn_step (e := (.aload_n 0, 224, 0, 0, 0, 0, 0, [])) rfl).mpr ?_
  refine (rn_step (e := (.iload 11, 226, 11, 0, 0, 0, 0, [])) rfl).mpr ?_
  refine (rn_step (e := (.bipush 6, 228, 0, 0, 0, 0, 0, [])) rfl).mpr ?_
  refine (rn_step (e := (.invokevirtual 29, 231, 111, 3, 461, 0, 10, [0])) rfl).mpr (And.intro ((rn_J8 J)) ((iq_label6 J (hr1.1) (fun M1 J1 => ?_))))
  refine (rn_step (e := (.ifCond .ne 111, 234, 342, 0, 0, 0, 0, [])) rfl).mpr (And.intro (fun q => ?_) (fun q => absurd hr1.2.1 q))
  refine (rn_step (e := (.aload_n 0, 235, 0, 0, 0, 0, 0, [])) rfl).mpr ?_
  refine (rn_step (e := (.iload 11, 237, 11, 0, 0, 0, 0, [])) rfl).mpr ?_
  refine (rn_step (e := (.iconst 0, 238, 0, 0, 0, 0, 0, [])) rfl).mpr ?_
  refine (rn_step (e := (.invokevirtual 29, 241, 111, 3, 461, 0, 10, [0])) rfl).mpr (And.intro ((rn_J8 J1)) ((iq_label0 J1 (hr1.1) (fun M2 J2 => ?_))))
  refine (rn_step (e := (.iload_n 1, 242, 1, 0, 0, 0, 0, [])) rfl).mpr ?_
  refine (rn_step (e := (.if_icmp .ne 100, 245, 342, 0, 0, 0, 0, [])) rfl).mpr (And.intro (fun q => ?_) (fun q => absurd hr1.2.2.1 q))
  refine (rn_step (e := (.aload_n 0, 246, 0, 0, 0, 0, 0, [])) rfl).mpr ?_
  refine (rn_step (e := (.iload 11, 248, 11, 0, 0, 0, 0, [])) rfl).mpr ?_
  refine (rn_step (e := (.iconst 1, 249, 0, 0, 0, 0, 0, [])) rfl).mpr ?_
  refine (rn_step (e := (.invokevirtual 29, 252, 111, 3, 461, 0, 10, [0])) rfl).mpr (And.intro ((rn_J8 J2)) ((iq_label1 J2 (hr1.1) (fun M3 J3 => ?_))))
  refine (rn_step (e := (.iload 9, 254, 9, 0, 0, 0, 0, [])) rfl).mpr ?_
  refine (rn_step (e := (.if_icmp .ne 88, 257, 342, 0, 0, 0, 0, [])) rfl).mpr (And.intro (fun q => ?_) (fun q => absurd hr1.2.2.2.1 q))
  refine (rn_step (e := (.iload 12, 259, 12, 0, 0, 0, 0, [])) rfl).mpr ?_
  refine (rn_step (e := (.bipush 10, 261, 0, 0, 0, 0, 0, [])) rfl).mpr ?_
  refine (rn_step (e := (.aload_n 0, 262, 0, 0, 0, 0, 0, [])) rfl).mpr ?_
  refine (rn_step (e := (.iload 11, 264, 11, 0, 0, 0, 0, [])) rfl).mpr ?_
  refine (rn_step (e := (.iconst 3, 265, 0, 0, 0, 0, 0, [])) rfl).mpr ?_
  refine (rn_step (e := (.invokevirtual 29, 268, 111, 3, 461, 0, 10, [0])) rfl).mpr (And.intro ((rn_J8 J3)) ((iq_label3 J3 (hr1.1) (fun M4 J4 => ?_))))
  refine (rn_step (e := (.imul, 269, 0, 0, 0, 0, 0, [])) rfl).mpr (rn_cw hr1.2.2.2.2.1 hr1.2.2.2.2.2.1 ?_)
  refine (rn_step (e := (.iconst 2, 270, 0, 0, 0, 0, 0, [])) rfl).mpr ?_
  refine (rn_step (e := (.iload 9, 272, 9, 0, 0, 0, 0, [])) rfl).mpr ?_
  refine (rn_step (e := (.imul, 273, 0, 0, 0, 0, 0, [])) rfl).mpr (rn_cw hr1.2.2.2.2.2.2.1 hr1.2.2.2.2.2.2.2.1 ?_)
  refine (rn_step (e := (.aload_n 0, 274, 0, 0, 0, 0, 0, [])) rfl).mpr ?_
  refine (rn_step (e := (.iload_n 1, 275, 1, 0, 0, 0, 0, [])) rfl).mpr ?_
  refine (rn_step (e := (.iconst 2, 276, 0, 0, 0, 0, 0, [])) rfl).mpr ?_
  refine (rn_step (e := (.invokevirtual 19, 279, 107, 3, 426, 0, 10, [0])) rfl).mpr (And.intro ((rn_J8 J4)) ((iq_river2 J4 (hr1.2.2.2.2.2.2.2.2.1) (fun M5 J5 => ?_))))
  refine (rn_step (e := (.iadd, 280, 0, 0, 0, 0, 0, [])) rfl).mpr (rn_cw hr1.2.2.2.2.2.2.2.2.2.1 hr1.2.2.2.2.2.2.2.2.2.2.1 ?_)
  refine (rn_step (e := (.iconst 1, 281, 0, 0, 0, 0, 0, [])) rfl).mpr ?_
  refine (rn_step (e := (.isub, 282, 0, 0, 0, 0, 0, [])) rfl).mpr (rn_cw hr1.2.2.2.2.2.2.2.2.2.2.2.1 hr1.2.2.2.2.2.2.2.2.2.2.2.2.1 ?_)
  refine (rn_step (e := (.aload_n 0, 283, 0, 0, 0, 0, 0, [])) rfl).mpr ?_
  refine (rn_step (e := (.iload_n 1, 284, 1, 0, 0, 0, 0, [])) rfl).mpr ?_
  refine (rn_step (e := (.iconst 3, 285, 0, 0, 0, 0, 0, [])) rfl).mpr ?_
  refine (rn_step (e := (.invokevirtual 19, 288, 107, 3, 426, 0, 10, [0])) rfl).mpr (And.intro ((rn_J8 J5)) ((iq_river3 J5 (hr1.2.2.2.2.2.2.2.2.1) (fun M6 J6 => ?_))))
  refine (rn_step (e := (.isub, 289, 0, 0, 0, 0, 0, [])) rfl).mpr (rn_cw hr1.2.2.2.2.2.2.2.2.2.2.2.2.2.1 hr1.2.2.2.2.2.2.2.2.2.2.2.2.2.2.1 ?_)
  refine (rn_step (e := (.invokestatic 94, 292, 125, 1, 729, 0, 0, [0])) rfl).mpr (rc_Lw_size (hr1.2.2.2.2.2.2.2.2.2.2.2.2.2.2.2.1) ?_)
  refine (rn_step (e := (.iadd, 293, 0, 0, 0, 0, 0, [])) rfl).mpr (rn_cw hr1.2.2.2.2.2.2.2.2.2.2.2.2.2.2.2.2.1 hr1.2.2.2.2.2.2.2.2.2.2.2.2.2.2.2.2.2.1 ?_)
  refine (rn_step (e := (.if_icmp .ne 49, 296, 342, 0, 0, 0, 0, [])) rfl).mpr (And.intro (fun q => ?_) (fun q => absurd hr1.2.2.2.2.2.2.2.2.2.2.2.2.2.2.2.2.2.2.1 q))
  refine (rn_step (e := (.aload_n 0, 297, 0, 0, 0, 0, 0, [])) rfl).mpr ?_
  refine (rn_step (e := (.iload 11, 299, 11, 0, 0, 0, 0, [])) rfl).mpr ?_
  refine (rn_step (e := (.iconst 3, 300, 0, 0, 0, 0, 0, [])) rfl).mpr ?_
  refine (rn_step (e := (.invokevirtual 29, 303, 111, 3, 461, 0, 10, [0])) rfl).mpr (And.intro ((rn_J8 J6)) ((iq_label3 J6 (hr1.1) (fun M7 J7 => ?_))))
  refine (rn_step (e := (.aload_n 0, 304, 0, 0, 0, 0, 0, [])) rfl).mpr ?_
  refine (rn_step (e := (.iload_n 1, 305, 1, 0, 0, 0, 0, [])) rfl).mpr ?_
  refine (rn_step (e := (.iload 9, 307, 9, 0, 0, 0, 0, [])) rfl).mpr ?_
  refine (rn_step (e := (.aload_n 0, 308, 0, 0, 0, 0, 0, [])) rfl).mpr ?_
  refine (rn_step (e := (.iload_n 1, 309, 1, 0, 0, 0, 0, [])) rfl).mpr ?_
  refine (rn_step (e := (.iconst 2, 310, 0, 0, 0, 0, 0, [])) rfl).mpr ?_
  refine (rn_step (e := (.invokevirtual 19, 313, 107, 3, 426, 0, 10, [0])) rfl).mpr (And.intro ((rn_J8 J7)) ((iq_river2 J7 (hr1.2.2.2.2.2.2.2.2.1) (fun M8 J8 => ?_))))
  refine (rn_step (e := (.invokevirtual 78, 316, 113, 4, 687, 0, 10, [0])) rfl).mpr (And.intro ((rn_J8 J8)) ((iq_bendV J8 (hr1.2.2.2.2.2.2.2.2.2.2.2.2.2.2.2.2.2.2.2.1) (fun M9 J9 => ?_))))
  refine (rn_step (e := (.if_icmp .ne 26, 319, 342, 0, 0, 0, 0, [])) rfl).mpr (And.intro (fun q => ?_) (fun q => absurd hr1.2.2.2.2.2.2.2.2.2.2.2.2.2.2.2.2.2.2.2.2 q))
  refine (rn_step (e := (.aload_n 0, 320, 0, 0, 0, 0, 0, [])) rfl).mpr ?_
  exact (rn_step (e := (.invokevirtual 97, 323, 105, 1, 265, 0, 10, [0])) rfl).mpr (And.intro ((rn_J8 J9)) ((k1 M9 J9)))
set_option maxRecDepth 4000 in
theorem rb_Lw_areStarts_323 {M : rn_M} {Q : rn_Q} {G : Nat × (Nat → Int)} {N : Nat → Int} {n : Int} {K : Nat → Nat → Int} {vl1 : rn_V} {vl2 : rn_V} {vl3 : rn_V} {xl4 : Int} {vl5 : rn_V} {vl6 : rn_V} {vl7 : rn_V} {vl8 : rn_V} {vl9 : rn_V} {vl10 : rn_V} {vl11 : rn_V} {vl12 : rn_V} {xs0 : Int} (J : rn_Jq G M N n K)  (h1 : rn_ca vl6 = 1) (hr1 : (xl4 = 5) → xs0 = 4) (hr2 : (¬ (xl4 = 5)) → xs0 = xl4) (k1 : (xl4 = 5) → ∀ M', rn_Jq G M' N n K → rn_WP 129 345 [rn_R 8, vl1, vl2, vl3, rn_I xl4, vl5, vl6, rn_I 1, vl8, vl9, vl10, vl11, vl12] [] M' Q) (k2 : (¬ (xl4 = 5)) → ∀ M', rn_Jq G M' N n K → rn_WP 129 345 [rn_R 8, vl1, vl2, vl3, rn_I xl4, vl5, vl6, rn_I 1, vl8, vl9, vl10, vl11, vl12] [] M' Q) : rn_WP 129 323 [rn_R 8, vl1, vl2, vl3, rn_I xl4, vl5, vl6, vl7, vl8, vl9, vl10, vl11, vl12] [rn_I xs0] M Q := by
  refine (rn_step (e := (.iload 4, 325, 4, 0, 0, 0, 0, [])) rfl).mpr ?_
  refine (rn_step (e := (.iconst 5, 326, 0, 0, 0, 0, 0, [])) rfl).mpr ?_
  refine (rn_step (e := (.if_icmp .ne 7, 329, 333, 0, 0, 0, 0, [])) rfl).mpr (And.intro (fun c1 => ?_) (fun c1 => ?_))
  ·
    refine (rn_step (e := (.iconst 4, 330, 0, 0, 0, 0, 0, [])) rfl).mpr ?_
    refine (rn_step (e := (.goto 5, 333, 335, 0, 0, 0, 0, [])) rfl).mpr ?_
    refine (rn_step (e := (.if_icmp .ne 7, 338, 342, 0, 0, 0, 0, [])) rfl).mpr (And.intro (fun q => ?_) (fun q => absurd (hr1 c1) q))
    refine (rn_step (e := (.iconst 1, 339, 0, 0, 0, 0, 0, [])) rfl).mpr ?_
    refine (rn_step (e := (.goto 4, 342, 343, 0, 0, 0, 0, [])) rfl).mpr ?_
    refine (rn_step (e := (.istore 7, 345, 7, 0, 0, 1, 0, [])) rfl).mpr (And.intro (rn_lnq rfl h1) (?_))
    exact (k1 c1 M J)
  ·
    refine (rn_step (e := (.iload 4, 335, 4, 0, 0, 0, 0, [])) rfl).mpr ?_
    refine (rn_step (e := (.if_icmp .ne 7, 338, 342, 0, 0, 0, 0, [])) rfl).mpr (And.intro (fun q => ?_) (fun q => absurd (hr2 c1) q))
    refine (rn_step (e := (.iconst 1, 339, 0, 0, 0, 0, 0, [])) rfl).mpr ?_
    refine (rn_step (e := (.goto 4, 342, 343, 0, 0, 0, 0, [])) rfl).mpr ?_
    refine (rn_step (e := (.istore 7, 345, 7, 0, 0, 1, 0, [])) rfl).mpr (And.intro (rn_lnq rfl h1) (?_))
    exact (k2 c1 M J)
set_option maxRecDepth 4000 in
theorem rb_Lw_areStarts_345 {M : rn_M} {Q : rn_Q} {G : Nat × (Nat → Int)} {N : Nat → Int} {n : Int} {K : Nat → Nat → Int} {vl1 : rn_V} {vl2 : rn_V} {vl3 : rn_V} {xl4 : Int} {vl5 : rn_V} {vl6 : rn_V} {vl8 : rn_V} {vl9 : rn_V} {vl10 : rn_V} {vl11 : rn_V} {vl12 : rn_V} (J : rn_Jq G M N n K)  (h1 : rn_ca vl3 = 1) (k1 : (xl4 = 5) → ∀ M', rn_Jq G M' N n K → rn_WP 129 359 [rn_R 8, vl1, vl2, vl3, rn_I 4, vl5, vl6, rn_I 1, vl8, vl9, vl10, vl11, vl12] [] M' Q) (k2 : (¬ (xl4 = 5)) → ∀ M', rn_Jq G M' N n K → rn_WP 129 359 [rn_R 8, vl1, vl2, vl3, rn_I xl4, vl5, vl6, rn_I 1, vl8, vl9, vl10, vl11, vl12] [] M' Q) : rn_WP 129 345 [rn_R 8, vl1, vl2, vl3, rn_I xl4, vl5, vl6, rn_I 1, vl8, vl9, vl10, vl11, vl12] [] M Q := by
  refine (rn_step (e := (.iload 4, 347, 4, 0, 0, 0, 0, [])) rfl).mpr ?_
  refine (rn_step (e := (.iconst 5, 348, 0, 0, 0, 0, 0, [])) rfl).mpr ?_
  refine (rn_step (e := (.if_icmp .ne 7, 351, 355, 0, 0, 0, 0, [])) rfl).mpr (And.intro (fun c1 => ?_) (fun c1 => ?_))
  ·
    refine (rn_step (e := (.iconst 4, 352, 0, 0, 0, 0, 0, [])) rfl).mpr ?_
    refine (rn_step (e := (.goto 5, 355, 357, 0, 0, 0, 0, [])) rfl).mpr ?_
    refine (rn_step (e := (.istore 4, 359, 4, 0, 0, 1, 0, [])) rfl).mpr (And.intro (rn_lnq rfl h1) (?_))
    exact (k1 c1 M J)
  ·
    refine (rn_step (e := (.iload 4, 357, 4, 0, 0, 0, 0, [])) rfl).mpr ?_
    refine (rn_step (e := (.istore 4, 359, 4, 0, 0, 1, 0, [])) rfl).mpr (And.intro (rn_lnq rfl h1) (?_))
    exact (k2 c1 M J)
set_option maxRecDepth 4000 in
theorem rb_Lw_areStarts_359 {M : rn_M} {Q : rn_Q} {G : Nat × (Nat → Int)} {N : Nat → Int} {n : Int} {K : Nat → Nat → Int} {vl1 : rn_V} {vl2 : rn_V} {vl3 : rn_V} {vl4 : rn_V} {vl5 : rn_V} {vl6 : rn_V} {xl8 : Int} {xl9 : Int} {vl10 : rn_V} {vl11 : rn_V} {vl12 : rn_V} (J : rn_Jq G M N n K)   (hr1 : (xl8 = 0) → (-2147483648 : Int) ≤ xl9 + 1 ∧ xl9 + 1 ≤ 2147483647) (hr2 : (¬ (xl8 = 0)) → (-2147483648 : Int) ≤ xl9 + 61 ∧ xl9 + 61 ≤ 2147483647) (k1 : (xl8 = 0) → ∀ M', rn_Jq G M' N n K → rn_WP 129 43 [rn_R 8, vl1, vl2, vl3, vl4, vl5, vl6, rn_I 1, rn_I xl8, rn_I (xl9 + 1), vl10, vl11, vl12] [] M' Q) (k2 : (¬ (xl8 = 0)) → ∀ M', rn_Jq G M' N n K → rn_WP 129 43 [rn_R 8, vl1, vl2, vl3, vl4, vl5, vl6, rn_I 1, rn_I xl8, rn_I (xl9 + 61), vl10, vl11, vl12] [] M' Q) : rn_WP 129 359 [rn_R 8, vl1, vl2, vl3, vl4, vl5, vl6, rn_I 1, rn_I xl8, rn_I xl9, vl10, vl11, vl12] [] M Q := by
  refine (rn_step (e := (.iload 9, 361, 9, 0, 0, 0, 0, [])) rfl).mpr ?_
  refine (rn_step (e := (.iload 8, 363, 8, 0, 0, 0, 0, [])) rfl).mpr ?_
  refine (rn_step (e := (.ifCond .eq 8, 366, 371, 0, 0, 0, 0, [])) rfl).mpr (And.intro (fun c1 => ?_) (fun c1 => ?_))
  ·
    refine (rn_step (e := (.iconst 1, 372, 0, 0, 0, 0, 0, [])) rfl).mpr ?_
    refine (rn_step (e := (.iadd, 373, 0, 0, 0, 0, 0, [])) rfl).mpr (rn_cw (hr1 c1).1 (hr1 c1).2 ?_)
    refine (rn_step (e := (.istore 9, 375, 9, 0, 0, 1, 0, [])) rfl).mpr (And.intro (rn_lnq rfl rfl) (?_))
    refine (rn_step (e := (.goto (-332), 378, 43, 0, 0, 0, 0, [])) rfl).mpr ?_
    exact (k1 c1 M J)
  ·
    refine (rn_step (e := (.bipush 61, 368, 0, 0, 0, 0, 0, [])) rfl).mpr ?_
    refine (rn_step (e := (.goto 4, 371, 372, 0, 0, 0, 0, [])) rfl).mpr ?_
    refine (rn_step (e := (.iadd, 373, 0, 0, 0, 0, 0, [])) rfl).mpr (rn_cw (hr2 c1).1 (hr2 c1).2 ?_)
    refine (rn_step (e := (.istore 9, 375, 9, 0, 0, 1, 0, [])) rfl).mpr (And.intro (rn_lnq rfl rfl) (?_))
    refine (rn_step (e := (.goto (-332), 378, 43, 0, 0, 0, 0, [])) rfl).mpr ?_
    exact (k2 c1 M J)
set_option maxRecDepth 4000 in
theorem rb_Lw_areStarts_378 {M : rn_M} {Q : rn_Q} {G : Nat × (Nat → Int)} {N : Nat → Int} {n : Int} {K : Nat → Nat → Int} {xl1 : Int} {gl2 : Int64} {vl3 : rn_V} {vl4 : rn_V} {xl5 : Int} {xl6 : Int} {xl8 : Int} {vl9 : rn_V} {vl10 : rn_V} {vl11 : rn_V} {vl12 : rn_V} (J : rn_Jq G M N n K)   (hr1 : (xl8 = 0) → ((0 : Int) ≤ xl1 ∧ xl1 < N 0) ∧ rn_best N xl1 = xl5) (hr2 : (xl8 = 0) → (0 ≤ xl5) → rn_aBest N xl1 1 = xl6 ∧ (lg_cmp (rn_pr N) gl2).toInt = 0) (hr3 : (xl8 = 0) → (¬ (0 ≤ xl5)) → rn_aBest N xl1 1 = (-9) ∧ (lg_cmp (rn_pr N) gl2).toInt = 0) (hr4 : (¬ (xl8 = 0)) → (lg_cmp (rn_pr N) gl2).toInt = 0) (k1 : (xl8 = 0) → (0 ≤ xl5) → ∀ M', rn_Jq G M' N n K → rn_ME 117 [rn_R 8, rn_I xl1] M' (fun r M1 => rn_WP 129 441 [rn_R 8, rn_I xl1, rn_G gl2, vl3, vl4, rn_I xl5, rn_I xl6, rn_I 1, rn_I xl8, vl9, vl10, vl11, vl12] (r.toList ++ []) M1 Q)) (k2 : (xl8 = 0) → (¬ (0 ≤ xl5)) → ∀ M', rn_Jq G M' N n K → rn_ME 117 [rn_R 8, rn_I xl1] M' (fun r M1 => rn_WP 129 441 [rn_R 8, rn_I xl1, rn_G gl2, vl3, vl4, rn_I xl5, rn_I xl6, rn_I 1, rn_I xl8, vl9, vl10, vl11, vl12] (r.toList ++ []) M1 Q)) (k3 : (¬ (xl8 = 0)) → ∀ M', rn_Jq G M' N n K → rn_ME 117 [rn_R 8, rn_I xl1] M' (fun r M1 => rn_WP 129 441 [rn_R 8, rn_I xl1, rn_G gl2, vl3, vl4, rn_I xl5, rn_I xl6, rn_I 1, rn_I xl8, vl9, vl10, vl11, vl12] (r.toList ++ []) M1 Q)) : rn_WP 129 378 [rn_R 8, rn_I xl1, rn_G gl2, vl3, vl4, rn_I xl5, rn_I xl6, rn_I 1, rn_I xl8, vl9, vl10, vl11, vl12] [] M Q := by
  refine (rn_step (e := (.iload 7, 380, 7, 0, 0, 0, 0, [])) rfl).mpr ?_
  refine (rn_step (e := (.ifCond .eq 53, 383, 433, 0, 0, 0, 0, [])) rfl).mpr (And.intro (fun q => absurd q (by decide)) (fun q => ?_))
  refine (rn_step (e := (.iload 8, 385, 8, 0, 0, 0, 0, [])) rfl).mpr ?_
  refine (rn_step (e := (.ifCond .ne 35, 388, 420, 0, 0, 0, 0, [])) rfl).mpr (And.intro (fun c1 => ?_) (fun c1 => ?_))
  ·
    refine (rn_step (e := (.aload_n 0, 389, 0, 0, 0, 0, 0, [])) rfl).mpr ?_
    refine (rn_step (e := (.iload_n 1, 390, 1, 0, 0, 0, 0, [])) rfl).mpr ?_
    refine (rn_step (e := (.iconst 0, 391, 0, 0, 0, 0, 0, [])) rfl).mpr ?_
    refine (rn_step (e := (.invokevirtual 88, 394, 116, 3, 705, 0, 10, [0])) rfl).mpr (And.intro ((rn_J8 J)) ((iq_best0 J ((hr1 c1).1) (fun M1 J1 => ?_))))
    refine (rn_step (e := (.iload 5, 396, 5, 0, 0, 0, 0, [])) rfl).mpr ?_
    refine (rn_step (e := (.if_icmp .ne 37, 399, 433, 0, 0, 0, 0, [])) rfl).mpr (And.intro (fun q => ?_) (fun q => absurd (hr1 c1).2 q))
    refine (rn_step (e := (.aload_n 0, 400, 0, 0, 0, 0, 0, [])) rfl).mpr ?_
    refine (rn_step (e := (.iload_n 1, 401, 1, 0, 0, 0, 0, [])) rfl).mpr ?_
    refine (rn_step (e := (.iconst 1, 402, 0, 0, 0, 0, 0, [])) rfl).mpr ?_
    refine (rn_step (e := (.invokevirtual 88, 405, 116, 3, 705, 0, 10, [0])) rfl).mpr (And.intro ((rn_J8 J1)) ((iq_best1 J1  (fun M2 J2 => ?_))))
    refine (rn_step (e := (.iload 5, 407, 5, 0, 0, 0, 0, [])) rfl).mpr ?_
    refine (rn_step (e := (.ifCond .ge 8, 410, 415, 0, 0, 0, 0, [])) rfl).mpr (And.intro (fun c2 => ?_) (fun c2 => ?_))
    ·
      refine (rn_step (e := (.iload 6, 417, 6, 0, 0, 0, 0, [])) rfl).mpr ?_
      refine (rn_step (e := (.if_icmp .ne 16, 420, 433, 0, 0, 0, 0, [])) rfl).mpr (And.intro (fun q => ?_) (fun q => absurd (hr2 c1 c2).1 q))
      refine (rn_step (e := (.aload_n 0, 421, 0, 0, 0, 0, 0, [])) rfl).mpr ?_
      refine (rn_step (e := (.invokestatic 35, 424, 126, 1, 421, 0, 0, [0])) rfl).mpr (iq_print J2  (fun M3 J3 => ?_))
      refine (rn_step (e := (.lload_n 2, 425, 2, 0, 0, 0, 0, [])) rfl).mpr ?_
      refine (rn_step (e := (.lcmp, 426, 0, 0, 0, 0, 0, [])) rfl).mpr ?_
      refine (rn_step (e := (.ifCond .ne 7, 429, 433, 0, 0, 0, 0, [])) rfl).mpr (And.intro (fun q => ?_) (fun q => absurd (hr2 c1 c2).2 q))
      refine (rn_step (e := (.iconst 1, 430, 0, 0, 0, 0, 0, [])) rfl).mpr ?_
      refine (rn_step (e := (.goto 4, 433, 434, 0, 0, 0, 0, [])) rfl).mpr ?_
      refine (rn_step (e := (.istore 7, 436, 7, 0, 0, 1, 0, [])) rfl).mpr (And.intro (rn_lnq rfl rfl) (?_))
      refine (rn_step (e := (.aload_n 0, 437, 0, 0, 0, 0, 0, [])) rfl).mpr ?_
      refine (rn_step (e := (.iload_n 1, 438, 1, 0, 0, 0, 0, [])) rfl).mpr ?_
      exact (rn_step (e := (.invokevirtual 91, 441, 117, 2, 713, 0, 10, [0])) rfl).mpr (And.intro ((rn_J8 J3)) ((k1 c1 c2 M3 J3)))
    ·
      refine (rn_step (e := (.bipush (-9), 412, 0, 0, 0, 0, 0, [])) rfl).mpr ?_
      refine (rn_step (e := (.goto 5, 415, 417, 0, 0, 0, 0, [])) rfl).mpr ?_
      refine (rn_step (e := (.if_icmp .ne 16, 420, 433, 0, 0, 0, 0, [])) rfl).mpr (And.intro (fun q => ?_) (fun q => absurd (hr3 c1 c2).1 q))
      refine (rn_step (e := (.aload_n 0, 421, 0, 0, 0, 0, 0, [])) rfl).mpr ?_
      refine (rn_step (e := (.invokestatic 35, 424, 126, 1, 421, 0, 0, [0])) rfl).mpr (iq_print J2  (fun M4 J4 => ?_))
      refine (rn_step (e := (.lload_n 2, 425, 2, 0, 0, 0, 0, [])) rfl).mpr ?_
      refine (rn_step (e := (.lcmp, 426, 0, 0, 0, 0, 0, [])) rfl).mpr ?_
      refine (rn_step (e := (.ifCond .ne 7, 429, 433, 0, 0, 0, 0, [])) rfl).mpr (And.intro (fun q => ?_) (fun q => absurd (hr3 c1 c2).2 q))
      refine (rn_step (e := (.iconst 1, 430, 0, 0, 0, 0, 0, [])) rfl).mpr ?_
      refine (rn_step (e := (.goto 4, 433, 434, 0, 0, 0, 0, [])) rfl).mpr ?_
      refine (rn_step (e := (.istore 7, 436, 7, 0, 0, 1, 0, [])) rfl).mpr (And.intro (rn_lnq rfl rfl) (?_))
      refine (rn_step (e := (.aload_n 0, 437, 0, 0, 0, 0, 0, [])) rfl).mpr ?_
      refine (rn_step (e := (.iload_n 1, 438, 1, 0, 0, 0, 0, [])) rfl).mpr ?_
      exact (rn_step (e := (.invokevirtual 91, 441, 117, 2, 713, 0, 10, [0])) rfl).mpr (And.intro ((rn_J8 J4)) ((k2 c1 c2 M4 J4)))
  ·
    refine (rn_step (e := (.aload_n 0, 421, 0, 0, 0, 0, 0, [])) rfl).mpr ?_
    refine (rn_step (e := (.invokestatic 35, 424, 126, 1, 421, 0, 0, [0])) rfl).mpr (iq_print J  (fun M5 J5 => ?_))
    refine (rn_step (e := (.lload_n 2, 425, 2, 0, 0, 0, 0, [])) rfl).mpr ?_
    refine (rn_step (e := (.lcmp, 426, 0, 0, 0, 0, 0, [])) rfl).mpr ?_
    refine (rn_step (e := (.ifCond .ne 7, 429, 433, 0, 0, 0, 0, [])) rfl).mpr (And.intro (fun q => ?_) (fun q => absurd (hr4 c1) q))
    refine (rn_step (e := (.iconst 1, 430, 0, 0, 0, 0, 0, [])) rfl).mpr ?_
    refine (rn_step (e := (.goto 4, 433, 434, 0, 0, 0, 0, [])) rfl).mpr ?_
    refine (rn_step (e := (.istore 7, 436, 7, 0, 0, 1, 0, [])) rfl).mpr (And.intro (rn_lnq rfl rfl) (?_))
    refine (rn_step (e := (.aload_n 0, 437, 0, 0, 0, 0, 0, [])) rfl).mpr ?_
    refine (rn_step (e := (.iload_n 1, 438, 1, 0, 0, 0, 0, [])) rfl).mpr ?_
    exact (rn_step (e := (.invokevirtual 91, 441, 117, 2, 713, 0, 10, [0])) rfl).mpr (And.intro ((rn_J8 J5)) ((k3 c1 M5 J5)))
set_option maxRecDepth 4000 in
theorem rb_Lw_areStarts_441 {M : rn_M} {Q : rn_Q} {G : Nat × (Nat → Int)} {N : Nat → Int} {n : Int} {K : Nat → Nat → Int} {xl1 : Int} {vl2 : rn_V} {vl3 : rn_V} {vl4 : rn_V} {vl5 : rn_V} {vl6 : rn_V} {vl8 : rn_V} {vl9 : rn_V} {vl10 : rn_V} {vl11 : rn_V} {vl12 : rn_V} {xs0 : Int} (J : rn_Jq G M N n K)  (h1 : rn_ca vl8 = 1) (hr1 : ((0 : Int) ≤ xl1 ∧ xl1 < N 0)) (k1 : (xs0 ≤ 0) → ∀ M', rn_Jq G M' N n K → rn_WP 129 534 [rn_R 8, rn_I xl1, vl2, vl3, vl4, vl5, vl6, rn_I 1, vl8, rn_I xs0, rn_I (rn_o N xl1 1), vl11, vl12] [] M' Q) (k2 : (¬ (xs0 ≤ 0)) → ∀ M', rn_Jq G M' N n K → rn_ME 97 [rn_R 8, rn_I xl1, rn_I xs0] M' (fun r M1 => rn_WP 129 468 [rn_R 8, rn_I xl1, vl2, vl3, vl4, vl5, vl6, rn_I 1, vl8, rn_I xs0, rn_I (rn_o N xl1 1), vl11, vl12] (r.toList ++ []) M1 Q)) : rn_WP 129 441 [rn_R 8, rn_I xl1, vl2, vl3, vl4, vl5, vl6, rn_I 1, vl8, vl9, vl10, vl11, vl12] [rn_I xs0] M Q := by
  refine (rn_step (e := (.istore 9, 443, 9, 0, 0, 1, 0, [])) rfl).mpr (And.intro (rn_lnq rfl h1) (?_))
  refine (rn_step (e := (.aload_n 0, 444, 0, 0, 0, 0, 0, [])) rfl).mpr ?_
  refine (rn_step (e := (.iload_n 1, 445, 1, 0, 0, 0, 0, [])) rfl).mpr ?_
  refine (rn_step (e := (.iconst 0, 446, 0, 0, 0, 0, 0, [])) rfl).mpr ?_
  refine (rn_step (e := (.invokevirtual 19, 449, 107, 3, 426, 0, 10, [0])) rfl).mpr (And.intro ((rn_J8 J)) ((iq_river0 J (hr1) (fun M1 J1 => ?_))))
  refine (rn_step (e := (.istore 10, 451, 10, 0, 0, 1, 0, [])) rfl).mpr (And.intro (rn_lnq rfl rfl) (?_))
  refine (rn_step (e := (.iload 7, 453, 7, 0, 0, 0, 0, [])) rfl).mpr ?_
  refine (rn_step (e := (.ifCond .eq 81, 456, 534, 0, 0, 0, 0, [])) rfl).mpr (And.intro (fun q => absurd q (by decide)) (fun q => ?_))
  refine (rn_step (e := (.iload 9, 458, 9, 0, 0, 0, 0, [])) rfl).mpr ?_
  refine (rn_step (e := (.ifCond .le 76, 461, 534, 0, 0, 0, 0, [])) rfl).mpr (And.intro (fun c1 => ?_) (fun c1 => ?_))
  ·
    exact (k1 c1 M1 J1)
  ·
    refine (rn_step (e := (.aload_n 0, 462, 0, 0, 0, 0, 0, [])) rfl).mpr ?_
    refine (rn_step (e := (.iload_n 1, 463, 1, 0, 0, 0, 0, [])) rfl).mpr ?_
    refine (rn_step (e := (.iload 9, 465, 9, 0, 0, 0, 0, [])) rfl).mpr ?_
    exact (rn_step (e := (.invokevirtual 54, 468, 97, 3, 616, 0, 10, [0])) rfl).mpr (And.intro ((rn_J8 J1)) ((k2 c1 M1 J1)))
set_option maxRecDepth 4000 in
theorem rb_Lw_areStarts_468 {M : rn_M} {Q : rn_Q} {G : Nat × (Nat → Int)} {N : Nat → Int} {n : Int} {K : Nat → Nat → Int} {xl1 : Int} {vl2 : rn_V} {vl3 : rn_V} {vl4 : rn_V} {vl5 : rn_V} {vl6 : rn_V} {vl7 : rn_V} {vl8 : rn_V} {vl9 : rn_V} {xl10 : Int} {vl11 : rn_V} {vl12 : rn_V} {xs0 : Int} (J : rn_Jq G M N n K)   (hr1 : xs0 = xl10 ∧ ((0 : Int) ≤ xl1 ∧ xl1 < N 0) ∧ ¬ (rn_best N xl1 < 0)) (k1 : ∀ M', rn_Jq G M' N n K → rn_ME 105 [rn_R 8] M' (fun r M1 => rn_WP 129 486 [rn_R 8, rn_I xl1, vl2, vl3, vl4, vl5, vl6, vl7, vl8, vl9, rn_I xl10, vl11, vl12] (r.toList ++ []) M1 Q)) : rn_WP 129 468 [rn_R 8, rn_I xl1, vl2, vl3, vl4, vl5, vl6, vl7, vl8, vl9, rn_I xl10, vl11, vl12] [rn_I xs0] M Q := by
  refine (rn_step (e := (.iload 10, 470, 10, 0, 0, 0, 0, [])) rfl).mpr ?_
  refine (rn_step (e := (.if_icmp .ne 61, 473, 531, 0, 0, 0, 0, [])) rfl).mpr (And.intro (fun q => ?_) (fun q => absurd hr1.1 q))
  refine (rn_step (e := (.aload_n 0, 474, 0, 0, 0, 0, 0, [])) rfl).mpr ?_
  refine (rn_step (e := (.iload_n 1, 475, 1, 0, 0, 0, 0, [])) rfl).mpr ?_
  refine (rn_step (e := (.iconst 0, 476, 0, 0, 0, 0, 0, [])) rfl).mpr ?_
  refine (rn_step (e := (.invokevirtual 88, 479, 116, 3, 705, 0, 10, [0])) rfl).mpr (And.intro ((rn_J8 J)) ((iq_best0 J (hr1.2.1) (fun M1 J1 => ?_))))
  refine (rn_step (e := (.ifCond .lt 52, 482, 531, 0, 0, 0, 0, [])) rfl).mpr (And.intro (fun q => absurd q hr1.2.2) (fun q => ?_))
  refine (rn_step (e := (.aload_n 0, 483, 0, 0, 0, 0, 0, [])) rfl).mpr ?_
  exact (rn_step (e := (.invokevirtual 97, 486, 105, 1, 265, 0, 10, [0])) rfl).mpr (And.intro ((rn_J8 J1)) ((k1 M1 J1)))
set_option maxRecDepth 4000 in
theorem rb_Lw_areStarts_486 {M : rn_M} {Q : rn_Q} {G : Nat × (Nat → Int)} {N : Nat → Int} {n : Int} {K : Nat → Nat → Int} {xl1 : Int} {vl2 : rn_V} {vl3 : rn_V} {vl4 : rn_V} {vl5 : rn_V} {vl6 : rn_V} {vl7 : rn_V} {vl8 : rn_V} {xl9 : Int} {vl10 : rn_V} {vl11 : rn_V} {vl12 : rn_V} {xs0 : Int} (J : rn_Jq G M N n K)  (h1 : rn_ca vl6 = 1) (hr1 : ¬ (xs0 < 0)) (hr2 : (¬ (xl9 = 1)) → (-2147483648 : Int) ≤ xl9 - 1 ∧ xl9 - 1 ≤ 2147483647) (k1 : (xl9 = 1) → ∀ M', rn_Jq G M' N n K → rn_WP 129 534 [rn_R 8, rn_I xl1, vl2, vl3, vl4, vl5, vl6, rn_I 1, vl8, rn_I xl9, vl10, vl11, vl12] [] M' Q) (k2 : (¬ (xl9 = 1)) → ∀ M', rn_Jq G M' N n K → rn_ME 97 [rn_R 8, rn_I xl1, rn_I (xl9 - 1)] M' (fun r M1 => rn_WP 129 504 [rn_R 8, rn_I xl1, vl2, vl3, vl4, vl5, vl6, vl7, vl8, rn_I xl9, vl10, vl11, vl12] (r.toList ++ []) M1 Q)) : rn_WP 129 486 [rn_R 8, rn_I xl1, vl2, vl3, vl4, vl5, vl6, vl7, vl8, rn_I xl9, vl10, vl11, vl12] [rn_I xs0] M Q := by
  refine (rn_step (e := (.ifCond .lt 45, 489, 531, 0, 0, 0, 0, [])) rfl).mpr (And.intro (fun q => absurd q hr1) (fun q => ?_))
  refine (rn_step (e := (.iload 9, 491, 9, 0, 0, 0, 0, [])) rfl).mpr ?_
  refine (rn_step (e := (.iconst 1, 492, 0, 0, 0, 0, 0, [])) rfl).mpr ?_
  refine (rn_step (e := (.if_icmp .eq 35, 495, 527, 0, 0, 0, 0, [])) rfl).mpr (And.intro (fun c1 => ?_) (fun c1 => ?_))
  ·
    refine (rn_step (e := (.iconst 1, 528, 0, 0, 0, 0, 0, [])) rfl).mpr ?_
    refine (rn_step (e := (.goto 4, 531, 532, 0, 0, 0, 0, [])) rfl).mpr ?_
    refine (rn_step (e := (.istore 7, 534, 7, 0, 0, 1, 0, [])) rfl).mpr (And.intro (rn_lnq rfl h1) (?_))
    exact (k1 c1 M J)
  ·
    refine (rn_step (e := (.aload_n 0, 496, 0, 0, 0, 0, 0, [])) rfl).mpr ?_
    refine (rn_step (e := (.iload_n 1, 497, 1, 0, 0, 0, 0, [])) rfl).mpr ?_
    refine (rn_step (e := (.iload 9, 499, 9, 0, 0, 0, 0, [])) rfl).mpr ?_
    refine (rn_step (e := (.iconst 1, 500, 0, 0, 0, 0, 0, [])) rfl).mpr ?_
    refine (rn_step (e := (.isub, 501, 0, 0, 0, 0, 0, [])) rfl).mpr (rn_cw (hr2 c1).1 (hr2 c1).2 ?_)
    exact (rn_step (e := (.invokevirtual 54, 504, 97, 3, 616, 0, 10, [0])) rfl).mpr (And.intro ((rn_J8 J)) ((k2 c1 M J)))
set_option maxRecDepth 4000 in
theorem rb_Lw_areStarts_504 {M : rn_M} {Q : rn_Q} {G : Nat × (Nat → Int)} {N : Nat → Int} {n : Int} {K : Nat → Nat → Int} {xl1 : Int} {vl2 : rn_V} {vl3 : rn_V} {vl4 : rn_V} {vl5 : rn_V} {vl6 : rn_V} {vl7 : rn_V} {vl8 : rn_V} {vl9 : rn_V} {xl10 : Int} {vl11 : rn_V} {vl12 : rn_V} {xs0 : Int} (J : rn_Jq G M N n K)   (hr1 : xs0 = xl10 ∧ ((0 : Int) ≤ xl1 ∧ xl1 < N 0) ∧ rn_best N xl1 = (-9)) (k1 : ∀ M', rn_Jq G M' N n K → rn_ME 105 [rn_R 8] M' (fun r M1 => rn_WP 129 524 [rn_R 8, rn_I xl1, vl2, vl3, vl4, vl5, vl6, vl7, vl8, vl9, rn_I xl10, vl11, vl12] (r.toList ++ []) M1 Q)) : rn_WP 129 504 [rn_R 8, rn_I xl1, vl2, vl3, vl4, vl5, vl6, vl7, vl8, vl9, rn_I xl10, vl11, vl12] [rn_I xs0] M Q := by
  refine (rn_step (e := (.iload 10, 506, 10, 0, 0, 0, 0, [])) rfl).mpr ?_
  refine (rn_step (e := (.if_icmp .ne 25, 509, 531, 0, 0, 0, 0, [])) rfl).mpr (And.intro (fun q => ?_) (fun q => absurd hr1.1 q))
  refine (rn_step (e := (.aload_n 0, 510, 0, 0, 0, 0, 0, [])) rfl).mpr ?_
  refine (rn_step (e := (.iload_n 1, 511, 1, 0, 0, 0, 0, [])) rfl).mpr ?_
  refine (rn_step (e := (.iconst 0, 512, 0, 0, 0, 0, 0, [])) rfl).mpr ?_
  refine (rn_step (e := (.invokevirtual 88, 515, 116, 3, 705, 0, 10, [0])) rfl).mpr (And.intro ((rn_J8 J)) ((iq_best0 J (hr1.2.1) (fun M1 J1 => ?_))))
  refine (rn_step (e := (.bipush (-9), 517, 0, 0, 0, 0, 0, [])) rfl).mpr ?_
  refine (rn_step (e := (.if_icmp .ne 14, 520, 531, 0, 0, 0, 0, [])) rfl).mpr (And.intro (fun q => ?_) (fun q => absurd hr1.2.2 q))
  refine (rn_step (e := (.aload_n 0, 521, 0, 0, 0, 0, 0, [])) rfl).mpr ?_
  exact (rn_step (e := (.invokevirtual 97, 524, 105, 1, 265, 0, 10, [0])) rfl).mpr (And.intro ((rn_J8 J1)) ((k1 M1 J1)))
set_option maxRecDepth 4000 in
theorem rb_Lw_areStarts_524 {M : rn_M} {Q : rn_Q} {G : Nat × (Nat → Int)} {N : Nat → Int} {n : Int} {K : Nat → Nat → Int} {vl1 : rn_V} {vl2 : rn_V} {vl3 : rn_V} {vl4 : rn_V} {vl5 : rn_V} {vl6 : rn_V} {vl7 : rn_V} {vl8 : rn_V} {vl9 : rn_V} {vl10 : rn_V} {vl11 : rn_V} {vl12 : rn_V} {xs0 : Int} (J : rn_Jq G M N n K)  (h1 : rn_ca vl6 = 1) (hr1 : ¬ (xs0 < 0)) (k1 : ∀ M', rn_Jq G M' N n K → rn_WP 129 534 [rn_R 8, vl1, vl2, vl3, vl4, vl5, vl6, rn_I 1, vl8, vl9, vl10, vl11, vl12] [] M' Q) : rn_WP 129 524 [rn_R 8, vl1, vl2, vl3, vl4, vl5, vl6, vl7, vl8, vl9, vl10, vl11, vl12] [rn_I xs0] M Q := by
  refine (rn_step (e := (.ifCond .lt 7, 527, 531, 0, 0, 0, 0, [])) rfl).mpr (And.intro (fun q => absurd q hr1) (fun q => ?_))
  refine (rn_step (e := (.iconst 1, 528, 0, 0, 0, 0, 0, [])) rfl).mpr ?_
  refine (rn_step (e := (.goto 4, 531, 532, 0, 0, 0, 0, [])) rfl).mpr ?_
  refine (rn_step (e := (.istore 7, 534, 7, 0, 0, 1, 0, [])) rfl).mpr (And.intro (rn_lnq rfl h1) (?_))
  exact (k1 M J)
set_option maxRecDepth 4000 in
theorem rb_Lw_areStarts_534 {M : rn_M} {Q : rn_Q} {G : Nat × (Nat → Int)} {N : Nat → Int} {n : Int} {K : Nat → Nat → Int} {xl1 : Int} {gl2 : Int64} {vl3 : rn_V} {vl4 : rn_V} {vl5 : rn_V} {vl6 : rn_V} {vl8 : rn_V} {xl9 : Int} {xl10 : Int} {vl11 : rn_V} {vl12 : rn_V} (J : rn_Jq G M N n K)   (hr1 : (0 < xl9) → ((0 : Int) ≤ xl1 ∧ xl1 < N 0)) (hr2 : (0 < xl9) → (rn_best N xl1 < 0) → (lg_cmp (rn_pr N) gl2).toInt = 0) (hr3 : (0 < xl9) → (¬ (rn_best N xl1 < 0)) → ¬ (xl9 ≤ 0) ∧ ¬ (xl10 < xl9) ∧ (lg_cmp (rn_pr N) gl2).toInt = 0) (hr4 : (¬ (0 < xl9)) → xl9 = (-9) ∧ ((0 : Int) ≤ xl1 ∧ xl1 < N 0) ∧ rn_best N xl1 = (-9)) (hr5 : (¬ (0 < xl9)) → (rn_best N xl1 < 0) → (lg_cmp (rn_pr N) gl2).toInt = 0) (hr6 : (¬ (0 < xl9)) → (¬ (rn_best N xl1 < 0)) → ¬ (xl9 ≤ 0) ∧ ¬ (xl10 < xl9) ∧ (lg_cmp (rn_pr N) gl2).toInt = 0) (k1 : (0 < xl9) → (rn_best N xl1 < 0) → ∀ M', rn_Jq G M' N n K → Q (some (rn_I 1)) M') (k2 : (0 < xl9) → (¬ (rn_best N xl1 < 0)) → ∀ M', rn_Jq G M' N n K → Q (some (rn_I 1)) M') (k3 : (¬ (0 < xl9)) → (rn_best N xl1 < 0) → ∀ M', rn_Jq G M' N n K → Q (some (rn_I 1)) M') (k4 : (¬ (0 < xl9)) → (¬ (rn_best N xl1 < 0)) → ∀ M', rn_Jq G M' N n K → Q (some (rn_I 1)) M') : rn_WP 129 534 [rn_R 8, rn_I xl1, rn_G gl2, vl3, vl4, vl5, vl6, rn_I 1, vl8, rn_I xl9, rn_I xl10, vl11, vl12] [] M Q := by
  refine (rn_step (e := (.iload 7, 536, 7, 0, 0, 0, 0, [])) rfl).mpr ?_
  refine (rn_step (e := (.ifCond .eq 60, 539, 596, 0, 0, 0, 0, [])) rfl).mpr (And.intro (fun q => absurd q (by decide)) (fun q => ?_))
  refine (rn_step (e := (.iload 9, 541, 9, 0, 0, 0, 0, [])) rfl).mpr ?_
  refine (rn_step (e := (.ifCond .gt 21, 544, 562, 0, 0, 0, 0, [])) rfl).mpr (And.intro (fun c1 => ?_) (fun c1 => ?_))
  ·
    refine (rn_step (e := (.aload_n 0, 563, 0, 0, 0, 0, 0, [])) rfl).mpr ?_
    refine (rn_step (e := (.iload_n 1, 564, 1, 0, 0, 0, 0, [])) rfl).mpr ?_
    refine (rn_step (e := (.iconst 0, 565, 0, 0, 0, 0, 0, [])) rfl).mpr ?_
    refine (rn_step (e := (.invokevirtual 88, 568, 116, 3, 705, 0, 10, [0])) rfl).mpr (And.intro ((rn_J8 J)) ((iq_best0 J ((hr1 c1)) (fun M1 J1 => ?_))))
    refine (rn_step (e := (.ifCond .lt 15, 571, 583, 0, 0, 0, 0, [])) rfl).mpr (And.intro (fun c2 => ?_) (fun c2 => ?_))
    ·
      refine (rn_step (e := (.aload_n 0, 584, 0, 0, 0, 0, 0, [])) rfl).mpr ?_
      refine (rn_step (e := (.invokestatic 35, 587, 126, 1, 421, 0, 0, [0])) rfl).mpr (iq_print J1  (fun M2 J2 => ?_))
      refine (rn_step (e := (.lload_n 2, 588, 2, 0, 0, 0, 0, [])) rfl).mpr ?_
      refine (rn_step (e := (.lcmp, 589, 0, 0, 0, 0, 0, [])) rfl).mpr ?_
      refine (rn_step (e := (.ifCond .ne 7, 592, 596, 0, 0, 0, 0, [])) rfl).mpr (And.intro (fun q => ?_) (fun q => absurd (hr2 c1 c2) q))
      refine (rn_step (e := (.iconst 1, 593, 0, 0, 0, 0, 0, [])) rfl).mpr ?_
      refine (rn_step (e := (.goto 4, 596, 597, 0, 0, 0, 0, [])) rfl).mpr ?_
      exact (rn_step (e := (.ireturn, 598, 0, 0, 0, 1, 0, [])) rfl).mpr (And.intro ((Or.inr rfl)) ((k1 c1 c2 M2 J2)))
    ·
      refine (rn_step (e := (.iload 9, 573, 9, 0, 0, 0, 0, [])) rfl).mpr ?_
      refine (rn_step (e := (.ifCond .le 23, 576, 596, 0, 0, 0, 0, [])) rfl).mpr (And.intro (fun q => absurd q (hr3 c1 c2).1) (fun q => ?_))
      refine (rn_step (e := (.iload 9, 578, 9, 0, 0, 0, 0, [])) rfl).mpr ?_
      refine (rn_step (e := (.iload 10, 580, 10, 0, 0, 0, 0, [])) rfl).mpr ?_
      refine (rn_step (e := (.if_icmp .gt 16, 583, 596, 0, 0, 0, 0, [])) rfl).mpr (And.intro (fun q => absurd q (hr3 c1 c2).2.1) (fun q => ?_))
      refine (rn_step (e := (.aload_n 0, 584, 0, 0, 0, 0, 0, [])) rfl).mpr ?_
      refine (rn_step (e := (.invokestatic 35, 587, 126, 1, 421, 0, 0, [0])) rfl).mpr (iq_print J1  (fun M3 J3 => ?_))
      refine (rn_step (e := (.lload_n 2, 588, 2, 0, 0, 0, 0, [])) rfl).mpr ?_
      refine (rn_step (e := (.lcmp, 589, 0, 0, 0, 0, 0, [])) rfl).mpr ?_
      refine (rn_step (e := (.ifCond .ne 7, 592, 596, 0, 0, 0, 0, [])) rfl).mpr (And.intro (fun q => ?_) (fun q => absurd (hr3 c1 c2).2.2 q))
      refine (rn_step (e := (.iconst 1, 593, 0, 0, 0, 0, 0, [])) rfl).mpr ?_
      refine (rn_step (e := (.goto 4, 596, 597, 0, 0, 0, 0, [])) rfl).mpr ?_
      exact (rn_step (e := (.ireturn, 598, 0, 0, 0, 1, 0, [])) rfl).mpr (And.intro ((Or.inr rfl)) ((k2 c1 c2 M3 J3)))
  ·
    refine (rn_step (e := (.iload 9, 546, 9, 0, 0, 0, 0, [])) rfl).mpr ?_
    refine (rn_step (e := (.bipush (-9), 548, 0, 0, 0, 0, 0, [])) rfl).mpr ?_
    refine (rn_step (e := (.if_icmp .ne 48, 551, 596, 0, 0, 0, 0, [])) rfl).mpr (And.intro (fun q => ?_) (fun q => absurd (hr4 c1).1 q))
    refine (rn_step (e := (.aload_n 0, 552, 0, 0, 0, 0, 0, [])) rfl).mpr ?_
    refine (rn_step (e := (.iload_n 1, 553, 1, 0, 0, 0, 0, [])) rfl).mpr ?_
    refine (rn_step (e := (.iconst 0, 554, 0, 0, 0, 0, 0, [])) rfl).mpr ?_
    refine (rn_step (e := (.invokevirtual 88, 557, 116, 3, 705, 0, 10, [0])) rfl).mpr (And.intro ((rn_J8 J)) ((iq_best0 J ((hr4 c1).2.1) (fun M4 J4 => ?_))))
    refine (rn_step (e := (.bipush (-9), 559, 0, 0, 0, 0, 0, [])) rfl).mpr ?_
    refine (rn_step (e := (.if_icmp .ne 37, 562, 596, 0, 0, 0, 0, [])) rfl).mpr (And.intro (fun q => ?_) (fun q => absurd (hr4 c1).2.2 q))
    refine (rn_step (e := (.aload_n 0, 563, 0, 0, 0, 0, 0, [])) rfl).mpr ?_
    refine (rn_step (e := (.iload_n 1, 564, 1, 0, 0, 0, 0, [])) rfl).mpr ?_
    refine (rn_step (e := (.iconst 0, 565, 0, 0, 0, 0, 0, [])) rfl).mpr ?_
    refine (rn_step (e := (.invokevirtual 88, 568, 116, 3, 705, 0, 10, [0])) rfl).mpr (And.intro ((rn_J8 J4)) ((iq_best0 J4 ((hr4 c1).2.1) (fun M5 J5 => ?_))))
    refine (rn_step (e := (.ifCond .lt 15, 571, 583, 0, 0, 0, 0, [])) rfl).mpr (And.intro (fun c2 => ?_) (fun c2 => ?_))
    ·
      refine (rn_step (e := (.aload_n 0, 584, 0, 0, 0, 0, 0, [])) rfl).mpr ?_
      refine (rn_step (e := (.invokestatic 35, 587, 126, 1, 421, 0, 0, [0])) rfl).mpr (iq_print J5  (fun M6 J6 => ?_))
      refine (rn_step (e := (.lload_n 2, 588, 2, 0, 0, 0, 0, [])) rfl).mpr ?_
      refine (rn_step (e := (.lcmp, 589, 0, 0, 0, 0, 0, [])) rfl).mpr ?_
      refine (rn_step (e := (.ifCond .ne 7, 592, 596, 0, 0, 0, 0, [])) rfl).mpr (And.intro (fun q => ?_) (fun q => absurd (hr5 c1 c2) q))
      refine (rn_step (e := (.iconst 1, 593, 0, 0, 0, 0, 0, [])) rfl).mpr ?_
      refine (rn_step (e := (.goto 4, 596, 597, 0, 0, 0, 0, [])) rfl).mpr ?_
      exact (rn_step (e := (.ireturn, 598, 0, 0, 0, 1, 0, [])) rfl).mpr (And.intro ((Or.inr rfl)) ((k3 c1 c2 M6 J6)))
    ·
      refine (rn_step (e := (.iload 9, 573, 9, 0, 0, 0, 0, [])) rfl).mpr ?_
      refine (rn_step (e := (.ifCond .le 23, 576, 596, 0, 0, 0, 0, [])) rfl).mpr (And.intro (fun q => absurd q (hr6 c1 c2).1) (fun q => ?_))
      refine (rn_step (e := (.iload 9, 578, 9, 0, 0, 0, 0, [])) rfl).mpr ?_
      refine (rn_step (e := (.iload 10, 580, 10, 0, 0, 0, 0, [])) rfl).mpr ?_
      refine (rn_step (e := (.if_icmp .gt 16, 583, 596, 0, 0, 0, 0, [])) rfl).mpr (And.intro (fun q => absurd q (hr6 c1 c2).2.1) (fun q => ?_))
      refine (rn_step (e := (.aload_n 0, 584, 0, 0, 0, 0, 0, [])) rfl).mpr ?_
      refine (rn_step (e := (.invokestatic 35, 587, 126, 1, 421, 0, 0, [0])) rfl).mpr (iq_print J5  (fun M7 J7 => ?_))
      refine (rn_step (e := (.lload_n 2, 588, 2, 0, 0, 0, 0, [])) rfl).mpr ?_
      refine (rn_step (e := (.lcmp, 589, 0, 0, 0, 0, 0, [])) rfl).mpr ?_
      refine (rn_step (e := (.ifCond .ne 7, 592, 596, 0, 0, 0, 0, [])) rfl).mpr (And.intro (fun q => ?_) (fun q => absurd (hr6 c1 c2).2.2 q))
      refine (rn_step (e := (.iconst 1, 593, 0, 0, 0, 0, 0, [])) rfl).mpr ?_
      refine (rn_step (e := (.goto 4, 596, 597, 0, 0, 0, 0, [])) rfl).mpr ?_
      exact (rn_step (e := (.ireturn, 598, 0, 0, 0, 1, 0, [])) rfl).mpr (And.intro ((Or.inr rfl)) ((k4 c1 c2 M7 J7)))
