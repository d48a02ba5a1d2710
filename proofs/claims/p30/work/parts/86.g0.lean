theorem re_Lw_areTidied {M : rn_M} {Q : rn_Q} {v0 v1 : rn_V} (h : rn_WP 131 0 [v0, v1, rn_J, rn_J, rn_J, rn_J, rn_J, rn_J, rn_J, rn_J, rn_J, rn_J] [] M Q) : rn_ME 131 [v0, v1] M Q := h
set_option maxRecDepth 4000 in
theorem rb_Lw_areTidied_0 {M : rn_M} {Q : rn_Q} {G : Nat × (Nat → Int)} {N : Nat → Int} {n : Int} {K : Nat → Nat → Int} {vl1 : rn_V} {vl2 : rn_V} {vl3 : rn_V} {vl4 : rn_V} {vl5 : rn_V} {vl6 : rn_V} {vl7 : rn_V} {vl8 : rn_V} {vl9 : rn_V} {vl10 : rn_V} {vl11 : rn_V} (J : rn_Jq G M N n K)  (h1 : rn_ca vl1 = 1) (k1 : ∀ M', rn_Jq G M' N n K → rn_ME 104 [rn_R 8] M' (fun r M1 => rn_WP 131 23 [rn_R 8, vl1, rn_G (rn_pr N), rn_J, rn_I (rn_card (fun l => rn_mf N l) (N 2).toNat), rn_I (N 2), vl6, vl7, vl8, vl9, vl10, vl11] (r.toList ++ []) M1 Q)) : rn_WP 131 0 [rn_R 8, vl1, vl2, vl3, vl4, vl5, vl6, vl7, vl8, vl9, vl10, vl11] [] M Q := by
  refine (rn_step (e := (.aload_n 0, 1, 0, 0, 0, 0, 0, [])) rfl).mpr ?_
  refine (rn_step (e := (.invokestatic 35, 4, 126, 1, 421, 0, 0, [0])) rfl).mpr (iq_print J  (fun M1 J1 => ?_))
  refine (rn_step (e := (.lstore_n 2, 5, 2, 0, 0, 1, 0, [])) rfl).mpr (And.intro (rn_lnq rfl h1) (?_))
  refine (rn_step (e := (.aload_n 0, 6, 0, 0, 0, 0, 0, [])) rfl).mpr ?_
  refine (rn_step (e := (.iconst 5, 7, 0, 0, 0, 0, 0, [])) rfl).mpr ?_
  refine (rn_step (e := (.invokevirtual 13, 10, 106, 2, 276, 0, 10, [0])) rfl).mpr (And.intro ((rn_J8 J1)) ((iq_count5 J1  (fun M2 J2 => ?_))))
  refine (rn_step (e := (.istore 4, 12, 4, 0, 0, 1, 0, [])) rfl).mpr (And.intro (rn_lnq rfl rfl) (?_))
  refine (rn_step (e := (.aload_n 0, 13, 0, 0, 0, 0, 0, [])) rfl).mpr ?_
  refine (rn_step (e := (.iconst 2, 14, 0, 0, 0, 0, 0, [])) rfl).mpr ?_
  refine (rn_step (e := (.invokevirtual 13, 17, 106, 2, 276, 0, 10, [0])) rfl).mpr (And.intro ((rn_J8 J2)) ((iq_count2 J2  (fun M3 J3 => ?_))))
  refine (rn_step (e := (.istore 5, 19, 5, 0, 0, 1, 0, [])) rfl).mpr (And.intro (rn_lnq rfl rfl) (?_))
  refine (rn_step (e := (.aload_n 0, 20, 0, 0, 0, 0, 0, [])) rfl).mpr ?_
  exact (rn_step (e := (.invokevirtual 101, 23, 104, 1, 738, 0, 10, [0])) rfl).mpr (And.intro ((rn_J8 J3)) ((k1 M3 J3)))
set_option maxRecDepth 4000 in
theorem rb_Lw_areTidied_23 {M : rn_M} {Q : rn_Q} {G : Nat × (Nat → Int)} {N : Nat → Int} {n : Int} {K : Nat → Nat → Int} {vl1 : rn_V} {vl2 : rn_V} {vl3 : rn_V} {xl4 : Int} {xl5 : Int} {vl6 : rn_V} {vl7 : rn_V} {vl8 : rn_V} {vl9 : rn_V} {vl10 : rn_V} {vl11 : rn_V} {xs0 : Int} (J : rn_Jq G M N n K)   (hr1 : (xs0 = 0) → (xl4 = 0) → ¬ (xl5 < xs0) ∧ (-2147483648 : Int) ≤ xl5 - xs0 ∧ xl5 - xs0 ≤ 2147483647 ∧ N 2 = xl5 - xs0 ∧ rn_card (fun l => rn_mf N l) (N 2).toNat = 0) (hr2 : (xs0 = 0) → (¬ (xl4 = 0)) → False) (hr3 : (¬ (xs0 = 0)) → (xl4 = 0) → False) (hr4 : (¬ (xs0 = 0)) → (¬ (xl4 = 0)) → ¬ (xl5 < xs0) ∧ (-2147483648 : Int) ≤ xl5 - xs0 ∧ xl5 - xs0 ≤ 2147483647 ∧ N 2 = xl5 - xs0 ∧ rn_card (fun l => rn_mf N l) (N 2).toNat = 0) (k1 : (xs0 = 0) → (xl4 = 0) → ∀ M', rn_Jq G M' N n K → rn_ME 104 [rn_R 8] M' (fun r M1 => rn_WP 131 80 [rn_R 8, vl1, vl2, vl3, rn_I xl4, rn_I xl5, rn_I xs0, vl7, vl8, vl9, vl10, vl11] (r.toList ++ []) M1 Q)) (k2 : (¬ (xs0 = 0)) → (¬ (xl4 = 0)) → ∀ M', rn_Jq G M' N n K → rn_ME 104 [rn_R 8] M' (fun r M1 => rn_WP 131 80 [rn_R 8, vl1, vl2, vl3, rn_I xl4, rn_I xl5, rn_I xs0, vl7, vl8, vl9, vl10, vl11] (r.toList ++ []) M1 Q)) : rn_WP 131 23 [rn_R 8, vl1, vl2, vl3, rn_I xl4, rn_I xl5, vl6, vl7, vl8, vl9, vl10, vl11] [rn_I xs0] M Q := by
  refine (rn_step (e := (.istore 6, 25, 6, 0, 0, 1, 0, [])) rfl).mpr (And.intro (rn_lnq rfl rfl) (?_))
  refine (rn_step (e := (.iload 6, 27, 6, 0, 0, 0, 0, [])) rfl).mpr ?_
  refine (rn_step (e := (.ifCond .ne 7, 30, 34, 0, 0, 0, 0, [])) rfl).mpr (And.intro (fun c1 => ?_) (fun c1 => ?_))
  ·
    refine (rn_step (e := (.iconst 1, 31, 0, 0, 0, 0, 0, [])) rfl).mpr ?_
    refine (rn_step (e := (.goto 4, 34, 35, 0, 0, 0, 0, [])) rfl).mpr ?_
    refine (rn_step (e := (.iload 4, 37, 4, 0, 0, 0, 0, [])) rfl).mpr ?_
    refine (rn_step (e := (.ifCond .ne 7, 40, 44, 0, 0, 0, 0, [])) rfl).mpr (And.intro (fun c2 => ?_) (fun c2 => ?_))
    ·
      refine (rn_step (e := (.iconst 1, 41, 0, 0, 0, 0, 0, [])) rfl).mpr ?_
      refine (rn_step (e := (.goto 4, 44, 45, 0, 0, 0, 0, [])) rfl).mpr ?_
      refine (rn_step (e := (.if_icmp .ne 65, 48, 110, 0, 0, 0, 0, [])) rfl).mpr (And.intro (fun q => ?_) (fun q => absurd (by decide) q))
      refine (rn_step (e := (.iload 6, 50, 6, 0, 0, 0, 0, [])) rfl).mpr ?_
      refine (rn_step (e := (.iload 5, 52, 5, 0, 0, 0, 0, [])) rfl).mpr ?_
      refine (rn_step (e := (.if_icmp .gt 58, 55, 110, 0, 0, 0, 0, [])) rfl).mpr (And.intro (fun q => absurd q (hr1 c1 c2).1) (fun q => ?_))
      refine (rn_step (e := (.aload_n 0, 56, 0, 0, 0, 0, 0, [])) rfl).mpr ?_
      refine (rn_step (e := (.iconst 2, 57, 0, 0, 0, 0, 0, [])) rfl).mpr ?_
      refine (rn_step (e := (.invokevirtual 13, 60, 106, 2, 276, 0, 10, [0])) rfl).mpr (And.intro ((rn_J8 J)) ((iq_count2 J  (fun M1 J1 => ?_))))
      refine (rn_step (e := (.iload 5, 62, 5, 0, 0, 0, 0, [])) rfl).mpr ?_
      refine (rn_step (e := (.iload 6, 64, 6, 0, 0, 0, 0, [])) rfl).mpr ?_
      refine (rn_step (e := (.isub, 65, 0, 0, 0, 0, 0, [])) rfl).mpr (rn_cw (hr1 c1 c2).2.1 (hr1 c1 c2).2.2.1 ?_)
      refine (rn_step (e := (.if_icmp .ne 45, 68, 110, 0, 0, 0, 0, [])) rfl).mpr (And.intro (fun q => ?_) (fun q => absurd (hr1 c1 c2).2.2.2.1 q))
      refine (rn_step (e := (.aload_n 0, 69, 0, 0, 0, 0, 0, [])) rfl).mpr ?_
      refine (rn_step (e := (.iconst 5, 70, 0, 0, 0, 0, 0, [])) rfl).mpr ?_
      refine (rn_step (e := (.invokevirtual 13, 73, 106, 2, 276, 0, 10, [0])) rfl).mpr (And.intro ((rn_J8 J1)) ((iq_count5 J1  (fun M2 J2 => ?_))))
      refine (rn_step (e := (.ifCond .ne 37, 76, 110, 0, 0, 0, 0, [])) rfl).mpr (And.intro (fun q => ?_) (fun q => absurd (hr1 c1 c2).2.2.2.2 q))
      refine (rn_step (e := (.aload_n 0, 77, 0, 0, 0, 0, 0, [])) rfl).mpr ?_
      exact (rn_step (e := (.invokevirtual 101, 80, 104, 1, 738, 0, 10, [0])) rfl).mpr (And.intro ((rn_J8 J2)) ((k1 c1 c2 M2 J2)))
    ·
      refine (rn_step (e := (.iconst 0, 45, 0, 0, 0, 0, 0, [])) rfl).mpr ?_
      exact False.elim (hr2 c1 c2)
  ·
    refine (rn_step (e := (.iconst 0, 35, 0, 0, 0, 0, 0, [])) rfl).mpr ?_
    refine (rn_step (e := (.iload 4, 37, 4, 0, 0, 0, 0, [])) rfl).mpr ?_
    refine (rn_step (e := (.ifCond .ne 7, 40, 44, 0, 0, 0, 0, [])) rfl).mpr (And.intro (fun c2 => ?_) (fun c2 => ?_))
    ·
      refine (rn_step (e := (.iconst 1, 41, 0, 0, 0, 0, 0, [])) rfl).mpr ?_
      refine (rn_step (e := (.goto 4, 44, 45, 0, 0, 0, 0, [])) rfl).mpr ?_
      exact False.elim (hr3 c1 c2)
    ·
      refine (rn_step (e := (.iconst 0, 45, 0, 0, 0, 0, 0, [])) rfl).mpr ?_
      refine (rn_step (e := (.if_icmp .ne 65, 48, 110, 0, 0, 0, 0, [])) rfl).mpr (And.intro (fun q => ?_) (fun q => absurd (by decide) q))
      refine (rn_step (e := (.iload 6, 50, 6, 0, 0, 0, 0, [])) rfl).mpr ?_
      refine (rn_step (e := (.iload 5, 52, 5, 0, 0, 0, 0, [])) rfl).mpr ?_
      refine (rn_step (e := (.if_icmp .gt 58, 55, 110, 0, 0, 0, 0, [])) rfl).mpr (And.intro (fun q => absurd q (hr4 c1 c2).1) (fun q => ?_))
      refine (rn_step (e := (.aload_n 0, 56, 0, 0, 0, 0, 0, [])) rfl).mpr ?_
      refine (rn_step (e := (.iconst 2, 57, 0, 0, 0, 0, 0, [])) rfl).mpr ?_
      refine (rn_step (e := (.invokevirtual 13, 60, 106, 2, 276, 0, 10, [0])) rfl).mpr (And.intro ((rn_J8 J)) ((iq_count2 J  (fun M3 J3 => ?_))))
      refine (rn_step (e := (.iload 5, 62, 5, 0, 0, 0, 0, [])) rfl).mpr ?_
      refine (rn_step (e := (.iload 6, 64, 6, 0, 0, 0, 0, [])) rfl).mpr ?_
      refine (rn_step (e := (.isub, 65, 0, 0, 0, 0, 0, [])) rfl).mpr (rn_cw (hr4 c1 c2).2.1 (hr4 c1 c2).2.2.1 ?_)
      refine (rn_step (e := (.if_icmp .ne 45, 68, 110, 0, 0, 0, 0, [])) rfl).mpr (And.intro (fun q => ?_) (fun q => absurd (hr4 c1 c2).2.2.2.1 q))
      refine (rn_step (e := (.aload_n 0, 69, 0, 0, 0, 0, 0, [])) rfl).mpr ?_
      refine (rn_step (e := (.iconst 5, 70, 0, 0, 0, 0, 0, [])) rfl).mpr ?_
      refine (rn_step (e := (.invokevirtual 13, 73, 106, 2, 276, 0, 10, [0])) rfl).mpr (And.intro ((rn_J8 J3)) ((iq_count5 J3  (fun M4 J4 => ?_))))
      refine (rn_step (e := (.ifCond .ne 37, 76, 110, 0, 0, 0, 0, [])) rfl).mpr (And.intro (fun q => ?_) (fun q => absurd (hr4 c1 c2).2.2.2.2 q))
      refine (rn_step (e := (.aload_n 0, 77, 0, 0, 0, 0, 0, [])) rfl).mpr ?_
      exact (rn_step (e := (.invokevirtual 101, 80, 104, 1, 738, 0, 10, [0])) rfl).mpr (And.intro ((rn_J8 J4)) ((k2 c1 c2 M4 J4)))
set_option maxRecDepth 4000 in
theorem rb_Lw_areTidied_80 {M : rn_M} {Q : rn_Q} {G : Nat × (Nat → Int)} {N : Nat → Int} {n : Int} {K : Nat → Nat → Int} {vl1 : rn_V} {vl2 : rn_V} {vl3 : rn_V} {vl4 : rn_V} {vl5 : rn_V} {vl6 : rn_V} {vl7 : rn_V} {vl8 : rn_V} {vl9 : rn_V} {vl10 : rn_V} {vl11 : rn_V} {xs0 : Int} (J : rn_Jq G M N n K)   (hr1 : xs0 = 0) (k1 : ∀ M', rn_Jq G M' N n K → rn_ME 105 [rn_R 8] M' (fun r M1 => rn_WP 131 87 [rn_R 8, vl1, vl2, vl3, vl4, vl5, vl6, vl7, vl8, vl9, vl10, vl11] (r.toList ++ []) M1 Q)) : rn_WP 131 80 [rn_R 8, vl1, vl2, vl3, vl4, vl5, vl6, vl7, vl8, vl9, vl10, vl11] [rn_I xs0] M Q := by
  refine (rn_step (e := (.ifCond .ne 30, 83, 110, 0, 0, 0, 0, [])) rfl).mpr (And.intro (fun q => ?_) (fun q => absurd hr1 q))
  refine (rn_step (e := (.aload_n 0, 84, 0, 0, 0, 0, 0, [])) rfl).mpr ?_
  exact (rn_step (e := (.invokevirtual 97, 87, 105, 1, 265, 0, 10, [0])) rfl).mpr (And.intro ((rn_J8 J)) ((k1 M J)))
set_option maxRecDepth 4000 in
theorem rb_Lw_areTidied_87 {M : rn_M} {Q : rn_Q} {G : Nat × (Nat → Int)} {N : Nat → Int} {n : Int} {K : Nat → Nat → Int} {vl1 : rn_V} {vl2 : rn_V} {vl3 : rn_V} {vl4 : rn_V} {vl5 : rn_V} {vl6 : rn_V} {vl7 : rn_V} {vl8 : rn_V} {vl9 : rn_V} {vl10 : rn_V} {vl11 : rn_V} {xs0 : Int} (J : rn_Jq G M N n K)   (hr1 : ¬ (xs0 < 0)) (k1 : ∀ M', rn_Jq G M' N n K → rn_ME 105 [rn_R 8] M' (fun r M1 => rn_WP 131 94 [rn_R 8, vl1, vl2, vl3, vl4, vl5, vl6, vl7, vl8, vl9, vl10, vl11] (r.toList ++ []) M1 Q)) : rn_WP 131 87 [rn_R 8, vl1, vl2, vl3, vl4, vl5, vl6, vl7, vl8, vl9, vl10, vl11] [rn_I xs0] M Q := by
  refine (rn_step (e := (.ifCond .lt 23, 90, 110, 0, 0, 0, 0, [])) rfl).mpr (And.intro (fun q => absurd q hr1) (fun q => ?_))
  refine (rn_step (e := (.aload_n 0, 91, 0, 0, 0, 0, 0, [])) rfl).mpr ?_
  exact (rn_step (e := (.invokevirtual 97, 94, 105, 1, 265, 0, 10, [0])) rfl).mpr (And.intro ((rn_J8 J)) ((k1 M J)))
set_option maxRecDepth 4000 in
theorem rb_Lw_areTidied_94 {M : rn_M} {Q : rn_Q} {G : Nat × (Nat → Int)} {N : Nat → Int} {n : Int} {K : Nat → Nat → Int} {xl1 : Int} {gl2 : Int64} {vl3 : rn_V} {vl4 : rn_V} {vl5 : rn_V} {vl6 : rn_V} {vl7 : rn_V} {vl8 : rn_V} {vl9 : rn_V} {vl10 : rn_V} {vl11 : rn_V} {xs0 : Int} (J : rn_Jq G M N n K)  (h1 : rn_ca vl6 = 1) (hr1 : ¬ (xs0 < 0) ∧ (lg_cmp (rn_pr N) gl2).toInt = 0) (k1 : ∀ M', rn_Jq G M' N n K → rn_ME 103 [rn_R 8, rn_I xl1] M' (fun r M1 => rn_WP 131 118 [rn_R 8, rn_I xl1, rn_G gl2, vl3, vl4, vl5, vl6, rn_I 1, vl8, vl9, vl10, vl11] (r.toList ++ []) M1 Q)) : rn_WP 131 94 [rn_R 8, rn_I xl1, rn_G gl2, vl3, vl4, vl5, vl6, vl7, vl8, vl9, vl10, vl11] [rn_I xs0] M Q := by
  refine (rn_step (e := (.ifCond .lt 16, 97, 110, 0, 0, 0, 0, [])) rfl).mpr (And.intro (fun q => absurd q hr1.1) (fun q => ?_))
  refine (rn_step (e := (.aload_n 0, 98, 0, 0, 0, 0, 0, [])) rfl).mpr ?_
  refine (rn_step (e := (.invokestatic 35, 101, 126, 1, 421, 0, 0, [0])) rfl).mpr (iq_print J  (fun M1 J1 => ?_))
  refine (rn_step (e := (.lload_n 2, 102, 2, 0, 0, 0, 0, [])) rfl).mpr ?_
  refine (rn_step (e := (.lcmp, 103, 0, 0, 0, 0, 0, [])) rfl).mpr ?_
  refine (rn_step (e := (.ifCond .ne 7, 106, 110, 0, 0, 0, 0, [])) rfl).mpr (And.intro (fun q => ?_) (fun q => absurd hr1.2 q))
  refine (rn_step (e := (.iconst 1, 107, 0, 0, 0, 0, 0, [])) rfl).mpr ?_
  refine (rn_step (e := (.goto 4, 110, 111, 0, 0, 0, 0, [])) rfl).mpr ?_
  refine (rn_step (e := (.istore 7, 113, 7, 0, 0, 1, 0, [])) rfl).mpr (And.intro (rn_lnq rfl h1) (?_))
  refine (rn_step (e := (.aload_n 0, 114, 0, 0, 0, 0, 0, [])) rfl).mpr ?_
  refine (rn_step (e := (.iload_n 1, 115, 1, 0, 0, 0, 0, [])) rfl).mpr ?_
  exact (rn_step (e := (.invokevirtual 72, 118, 103, 2, 645, 0, 10, [0])) rfl).mpr (And.intro ((rn_J8 J1)) ((k1 M1 J1)))
set_option maxRecDepth 4000 in
theorem rb_Lw_areTidied_118 {M : rn_M} {Q : rn_Q} {G : Nat × (Nat → Int)} {N : Nat → Int} {n : Int} {K : Nat → Nat → Int} {vl1 : rn_V} {vl2 : rn_V} {vl3 : rn_V} {vl4 : rn_V} {vl5 : rn_V} {vl6 : rn_V} {vl8 : rn_V} {vl9 : rn_V} {vl10 : rn_V} {vl11 : rn_V} {xs0 : Int} (J : rn_Jq G M N n K)  (h1 : rn_ca vl6 = 1) (hr1 : xs0 = N 2 ∧ ¬ (20 < xs0) ∧ rn_card (fun l => rn_mf N l) (N 2).toNat = 0) (k1 : ∀ M', rn_Jq G M' N n K → rn_WP 131 164 [rn_R 8, vl1, vl2, vl3, vl4, vl5, vl6, rn_I 1, rn_I xs0, rn_I 9, rn_I 0, vl11] [] M' Q) : rn_WP 131 118 [rn_R 8, vl1, vl2, vl3, vl4, vl5, vl6, rn_I 1, vl8, vl9, vl10, vl11] [rn_I xs0] M Q := by
  refine (rn_step (e := (.istore 8, 120, 8, 0, 0, 1, 0, [])) rfl).mpr (And.intro (rn_lnq rfl rfl) (?_))
  refine (rn_step (e := (.iload 7, 122, 7, 0, 0, 0, 0, [])) rfl).mpr ?_
  refine (rn_step (e := (.ifCond .eq 32, 125, 154, 0, 0, 0, 0, [])) rfl).mpr (And.intro (fun q => absurd q (by decide)) (fun q => ?_))
  refine (rn_step (e := (.iload 8, 127, 8, 0, 0, 0, 0, [])) rfl).mpr ?_
  refine (rn_step (e := (.aload_n 0, 128, 0, 0, 0, 0, 0, [])) rfl).mpr ?_
  refine (rn_step (e := (.iconst 2, 129, 0, 0, 0, 0, 0, [])) rfl).mpr ?_
  refine (rn_step (e := (.invokevirtual 13, 132, 106, 2, 276, 0, 10, [0])) rfl).mpr (And.intro ((rn_J8 J)) ((iq_count2 J  (fun M1 J1 => ?_))))
  refine (rn_step (e := (.if_icmp .ne 22, 135, 154, 0, 0, 0, 0, [])) rfl).mpr (And.intro (fun q => ?_) (fun q => absurd hr1.1 q))
  refine (rn_step (e := (.iload 8, 137, 8, 0, 0, 0, 0, [])) rfl).mpr ?_
  refine (rn_step (e := (.bipush 20, 139, 0, 0, 0, 0, 0, [])) rfl).mpr ?_
  refine (rn_step (e := (.if_icmp .gt 15, 142, 154, 0, 0, 0, 0, [])) rfl).mpr (And.intro (fun q => absurd q hr1.2.1) (fun q => ?_))
  refine (rn_step (e := (.aload_n 0, 143, 0, 0, 0, 0, 0, [])) rfl).mpr ?_
  refine (rn_step (e := (.iconst 5, 144, 0, 0, 0, 0, 0, [])) rfl).mpr ?_
  refine (rn_step (e := (.invokevirtual 13, 147, 106, 2, 276, 0, 10, [0])) rfl).mpr (And.intro ((rn_J8 J1)) ((iq_count5 J1  (fun M2 J2 => ?_))))
  refine (rn_step (e := (.ifCond .ne 7, 150, 154, 0, 0, 0, 0, [])) rfl).mpr (And.intro (fun q => ?_) (fun q => absurd hr1.2.2 q))
  refine (rn_step (e := (.iconst 1, 151, 0, 0, 0, 0, 0, [])) rfl).mpr ?_
  refine (rn_step (e := (.goto 4, 154, 155, 0, 0, 0, 0, [])) rfl).mpr ?_
  refine (rn_step (e := (.istore 7, 157, 7, 0, 0, 1, 0, [])) rfl).mpr (And.intro (rn_lnq rfl h1) (?_))
  refine (rn_step (e := (.bipush 9, 159, 0, 0, 0, 0, 0, [])) rfl).mpr ?_
  refine (rn_step (e := (.istore 9, 161, 9, 0, 0, 1, 0, [])) rfl).mpr (And.intro (rn_lnq rfl rfl) (?_))
  refine (rn_step (e := (.iconst 0, 162, 0, 0, 0, 0, 0, [])) rfl).mpr ?_
  refine (rn_step (e := (.istore 10, 164, 10, 0, 0, 1, 0, [])) rfl).mpr (And.intro (rn_lnq rfl rfl) (?_))
  exact (k1 M2 J2)
set_option maxRecDepth 4000 in
theorem rb_Lw_areTidied_164 {M : rn_M} {Q : rn_Q} {G : Nat × (Nat → Int)} {N : Nat → Int} {n : Int} {K : Nat → Nat → Int} {xl1 : Int} {vl2 : rn_V} {vl3 : rn_V} {vl4 : rn_V} {vl5 : rn_V} {vl6 : rn_V} {xl8 : Int} {xl9 : Int} {xl10 : Int} {vl11 : rn_V} (J : rn_Jq G M N n K)  (h1 : rn_ca vl6 = 1) (hr1 : (xl10 < xl8) → ((0 : Int) ≤ xl10 ∧ xl10 < N 2) ∧ ((0 : Int) ≤ rn_lb N xl10 0 ∧ rn_lb N xl10 0 < N 0) ∧ ¬ (xl9 < rn_o N (rn_lb N xl10 0) 1) ∧ ¬ (xl1 < rn_lo N (rn_lb N xl10 0)) ∧ rn_why N (rn_lb N xl10 0) (rn_lb N xl10 1) (rn_o N (rn_lb N xl10 0) 1) xl10 = 0 ∧ (-2147483648 : Int) ≤ xl10 + 1 ∧ xl10 + 1 ≤ 2147483647) (k1 : (xl10 < xl8) → ∀ M', rn_Jq G M' N n K → rn_WP 131 164 [rn_R 8, rn_I xl1, vl2, vl3, vl4, vl5, vl6, rn_I 1, rn_I xl8, rn_I (rn_o N (rn_lb N xl10 0) 1), rn_I (xl10 + 1), rn_I (rn_lb N xl10 0)] [] M' Q) (k2 : (¬ (xl10 < xl8)) → ∀ M', rn_Jq G M' N n K → rn_WP 131 244 [rn_R 8, rn_I xl1, vl2, vl3, vl4, vl5, vl6, rn_I 1, rn_I xl8, rn_I xl9, rn_I 0, vl11] [] M' Q) : rn_WP 131 164 [rn_R 8, rn_I xl1, vl2, vl3, vl4, vl5, vl6, rn_I 1, rn_I xl8, rn_I xl9, rn_I xl10, vl11] [] M Q := by
  refine (rn_step (e := (.iload 10, 166, 10, 0, 0, 0, 0, [])) rfl).mpr ?_
  refine (rn_step (e := (.iload 8, 168, 8, 0, 0, 0, 0, [])) rfl).mpr ?_
  refine (rn_step (e := (.if_icmp .ge 73, 171, 241, 0, 0, 0, 0, [])) rfl).mpr (And.intro (fun c1 => ?_) (fun c1 => ?_))
  ·
    refine (rn_step (e := (.iload 7, 173, 7, 0, 0, 0, 0, [])) rfl).mpr ?_
    refine (rn_step (e := (.ifCond .eq 68, 176, 241, 0, 0, 0, 0, [])) rfl).mpr (And.intro (fun q => absurd q (by decide)) (fun q => ?_))
    refine (rn_step (e := (.aload_n 0, 177, 0, 0, 0, 0, 0, [])) rfl).mpr ?_
    refine (rn_step (e := (.iload 10, 179, 10, 0, 0, 0, 0, [])) rfl).mpr ?_
    refine (rn_step (e := (.iconst 0, 180, 0, 0, 0, 0, 0, [])) rfl).mpr ?_
    refine (rn_step (e := (.invokevirtual 29, 183, 111, 3, 461, 0, 10, [0])) rfl).mpr (And.intro ((rn_J8 J)) ((iq_label0 J ((hr1 c1).1) (fun M1 J1 => ?_))))
    refine (rn_step (e := (.istore 11, 185, 11, 0, 0, 1, 0, [])) rfl).mpr (And.intro (rn_lnq rfl rfl) (?_))
    refine (rn_step (e := (.aload_n 0, 186, 0, 0, 0, 0, 0, [])) rfl).mpr ?_
    refine (rn_step (e := (.iload 11, 188, 11, 0, 0, 0, 0, [])) rfl).mpr ?_
    refine (rn_step (e := (.iconst 0, 189, 0, 0, 0, 0, 0, [])) rfl).mpr ?_
    refine (rn_step (e := (.invokevirtual 19, 192, 107, 3, 426, 0, 10, [0])) rfl).mpr (And.intro ((rn_J8 J1)) ((iq_river0 J1 ((hr1 c1).2.1) (fun M2 J2 => ?_))))
    refine (rn_step (e := (.iload 9, 194, 9, 0, 0, 0, 0, [])) rfl).mpr ?_
    refine (rn_step (e := (.if_icmp .gt 29, 197, 223, 0, 0, 0, 0, [])) rfl).mpr (And.intro (fun q => absurd q (hr1 c1).2.2.1) (fun q => ?_))
    refine (rn_step (e := (.aload_n 0, 198, 0, 0, 0, 0, 0, [])) rfl).mpr ?_
    refine (rn_step (e := (.iload 11, 200, 11, 0, 0, 0, 0, [])) rfl).mpr ?_
    refine (rn_step (e := (.iconst 4, 201, 0, 0, 0, 0, 0, [])) rfl).mpr ?_
    refine (rn_step (e := (.invokevirtual 19, 204, 107, 3, 426, 0, 10, [0])) rfl).mpr (And.intro ((rn_J8 J2)) ((iq_river4 J2 ((hr1 c1).2.1) (fun M3 J3 => ?_))))
    refine (rn_step (e := (.iload_n 1, 205, 1, 0, 0, 0, 0, [])) rfl).mpr ?_
    refine (rn_step (e := (.if_icmp .gt 18, 208, 223, 0, 0, 0, 0, [])) rfl).mpr (And.intro (fun q => absurd q (hr1 c1).2.2.2.1) (fun q => ?_))
    refine (rn_step (e := (.aload_n 0, 209, 0, 0, 0, 0, 0, [])) rfl).mpr ?_
    refine (rn_step (e := (.iload 10, 211, 10, 0, 0, 0, 0, [])) rfl).mpr ?_
    refine (rn_step (e := (.bipush 6, 213, 0, 0, 0, 0, 0, [])) rfl).mpr ?_
    refine (rn_step (e := (.invokevirtual 29, 216, 111, 3, 461, 0, 10, [0])) rfl).mpr (And.intro ((rn_J8 J3)) ((iq_label6 J3 ((hr1 c1).1) (fun M4 J4 => ?_))))
    refine (rn_step (e := (.ifCond .ne 7, 219, 223, 0, 0, 0, 0, [])) rfl).mpr (And.intro (fun q => ?_) (fun q => absurd (hr1 c1).2.2.2.2.1 q))
    refine (rn_step (e := (.iconst 1, 220, 0, 0, 0, 0, 0, [])) rfl).mpr ?_
    refine (rn_step (e := (.goto 4, 223, 224, 0, 0, 0, 0, [])) rfl).mpr ?_
    refine (rn_step (e := (.istore 7, 226, 7, 0, 0, 1, 0, [])) rfl).mpr (And.intro (rn_lnq rfl h1) (?_))
    refine (rn_step (e := (.aload_n 0, 227, 0, 0, 0, 0, 0, [])) rfl).mpr ?_
    refine (rn_step (e := (.iload 11, 229, 11, 0, 0, 0, 0, [])) rfl).mpr ?_
    refine (rn_step (e := (.iconst 0, 230, 0, 0, 0, 0, 0, [])) rfl).mpr ?_
    refine (rn_step (e := (.invokevirtual 19, 233, 107, 3, 426, 0, 10, [0])) rfl).mpr (And.intro ((rn_J8 J4)) ((iq_river0 J4 ((hr1 c1).2.1) (fun M5 J5 => ?_))))
    refine (rn_step (e := (.istore 9, 235, 9, 0, 0, 1, 0, [])) rfl).mpr (And.intro (rn_lnq rfl rfl) (?_))
    refine (rn_step (e := (.iinc 10 1, 238, 10, 0, 0, 0, 0, [])) rfl).mpr (rn_ci (hr1 c1).2.2.2.2.2.1 (hr1 c1).2.2.2.2.2.2 ?_)
    refine (rn_step (e := (.goto (-74), 241, 164, 0, 0, 0, 0, [])) rfl).mpr ?_
    exact (k1 c1 M5 J5)
  ·
    refine (rn_step (e := (.iconst 0, 242, 0, 0, 0, 0, 0, [])) rfl).mpr ?_
    refine (rn_step (e := (.istore 10, 244, 10, 0, 0, 1, 0, [])) rfl).mpr (And.intro (rn_lnq rfl rfl) (?_))
    exact (k2 c1 M J)
set_option maxRecDepth 4000 in
theorem rb_Lw_areTidied_244 {M : rn_M} {Q : rn_Q} {G : Nat × (Nat → Int)} {N : Nat → Int} {n : Int} {K : Nat → Nat → Int} {xl1 : Int} {vl2 : rn_V} {vl3 : rn_V} {vl4 : rn_V} {vl5 : rn_V} {vl6 : rn_V} {xl8 : Int} {vl9 : rn_V} {xl10 : Int} {vl11 : rn_V} (J : rn_Jq G M N n K)  (h1 : rn_ca vl6 = 1) (hr1 : (xl10 < N 0) → (xl8 = 20) → (-2147483648 : Int) ≤ xl10 + 1 ∧ xl10 + 1 ≤ 2147483647) (hr2 : (xl10 < N 0) → (¬ (xl8 = 20)) → ((0 : Int) ≤ xl10 ∧ xl10 < N 0)) (hr3 : (xl10 < N 0) → (¬ (xl8 = 20)) → (rn_lo N xl10 = xl1) → (-2147483648 : Int) ≤ xl10 + 1 ∧ xl10 + 1 ≤ 2147483647) (hr4 : (xl10 < N 0) → (¬ (xl8 = 20)) → (¬ (rn_lo N xl10 = xl1)) → ((0 : Int) ≤ xl10 ∧ xl10 < N 0) ∧ rn_best N xl10 = (-9) ∧ (-2147483648 : Int) ≤ xl10 + 1 ∧ xl10 + 1 ≤ 2147483647) (k1 : (xl10 < N 0) → (xl8 = 20) → ∀ M', rn_Jq G M' N n K → rn_WP 131 244 [rn_R 8, rn_I xl1, vl2, vl3, vl4, vl5, vl6, rn_I 1, rn_I xl8, vl9, rn_I (xl10 + 1), vl11] [] M' Q) (k2 : (xl10 < N 0) → (¬ (xl8 = 20)) → (rn_lo N xl10 = xl1) → ∀ M', rn_Jq G M' N n K → rn_WP 131 244 [rn_R 8, rn_I xl1, vl2, vl3, vl4, vl5, vl6, rn_I 1, rn_I xl8, vl9, rn_I (xl10 + 1), vl11] [] M' Q) (k3 : (xl10 < N 0) → (¬ (xl8 = 20)) → (¬ (rn_lo N xl10 = xl1)) → ∀ M', rn_Jq G M' N n K → rn_WP 131 244 [rn_R 8, rn_I xl1, vl2, vl3, vl4, vl5, vl6, rn_I 1, rn_I xl8, vl9, rn_I (xl10 + 1), vl11] [] M' Q) (k4 : (¬ (xl10 < N 0)) → ∀ M', rn_Jq G M' N n K → rn_ME 105 [rn_R 8] M' (fun r M1 => rn_WP 131 311 [rn_R 8, rn_I xl1, vl2, vl3, vl4, vl5, vl6, rn_I 1, rn_I xl8, vl9, rn_I xl10, vl11] (r.toList ++ []) M1 Q)) : rn_WP 131 244 [rn_R 8, rn_I xl1, vl2, vl3, vl4, vl5, vl6, rn_I 1, rn_I xl8, vl9, rn_I xl10, vl11] [] M Q := by
  refine (rn_step (e := (.iload 10, 246, 10, 0, 0, 0, 0, [])) rfl).mpr ?_
  refine (rn_step (e := (.aload_n 0, 247, 0, 0, 0, 0, 0, [])) rfl).mpr ?_
  refine (rn_step (e := (.iconst 0, 248, 0, 0, 0, 0, 0, [])) rfl).mpr ?_
  refine (rn_step (e := (.invokevirtual 13, 251, 106, 2, 276, 0, 10, [0])) rfl).mpr (And.intro ((rn_J8 J)) ((iq_count0 J  (fun M1 J1 => ?_))))
  refine (rn_step (e := (.if_icmp .ge 51, 254, 302, 0, 0, 0, 0, [])) rfl).mpr (And.intro (fun c1 => ?_) (fun c1 => ?_))
  ·
    refine (rn_step (e := (.iload 7, 256, 7, 0, 0, 0, 0, [])) rfl).mpr ?_
    refine (rn_step (e := (.ifCond .eq 46, 259, 302, 0, 0, 0, 0, [])) rfl).mpr (And.intro (fun q => absurd q (by decide)) (fun q => ?_))
    refine (rn_step (e := (.iload 8, 261, 8, 0, 0, 0, 0, [])) rfl).mpr ?_
    refine (rn_step (e := (.bipush 20, 263, 0, 0, 0, 0, 0, [])) rfl).mpr ?_
    refine (rn_step (e := (.if_icmp .eq 26, 266, 289, 0, 0, 0, 0, [])) rfl).mpr (And.intro (fun c2 => ?_) (fun c2 => ?_))
    ·
      refine (rn_step (e := (.iconst 1, 290, 0, 0, 0, 0, 0, [])) rfl).mpr ?_
      refine (rn_step (e := (.goto 4, 293, 294, 0, 0, 0, 0, [])) rfl).mpr ?_
      refine (rn_step (e := (.istore 7, 296, 7, 0, 0, 1, 0, [])) rfl).mpr (And.intro (rn_lnq rfl h1) (?_))
      refine (rn_step (e := (.iinc 10 1, 299, 10, 0, 0, 0, 0, [])) rfl).mpr (rn_ci (hr1 c1 c2).1 (hr1 c1 c2).2 ?_)
      refine (rn_step (e := (.goto (-55), 302, 244, 0, 0, 0, 0, [])) rfl).mpr ?_
      exact (k1 c1 c2 M1 J1)
    ·
      refine (rn_step (e := (.aload_n 0, 267, 0, 0, 0, 0, 0, [])) rfl).mpr ?_
      refine (rn_step (e := (.iload 10, 269, 10, 0, 0, 0, 0, [])) rfl).mpr ?_
      refine (rn_step (e := (.iconst 4, 270, 0, 0, 0, 0, 0, [])) rfl).mpr ?_
      refine (rn_step (e := (.invokevirtual 19, 273, 107, 3, 426, 0, 10, [0])) rfl).mpr (And.intro ((rn_J8 J1)) ((iq_river4 J1 ((hr2 c1 c2)) (fun M2 J2 => ?_))))
      refine (rn_step (e := (.iload_n 1, 274, 1, 0, 0, 0, 0, [])) rfl).mpr ?_
      refine (rn_step (e := (.if_icmp .eq 15, 277, 289, 0, 0, 0, 0, [])) rfl).mpr (And.intro (fun c3 => ?_) (fun c3 => ?_))
      ·
        refine (rn_step (e := (.iconst 1, 290, 0, 0, 0, 0, 0, [])) rfl).mpr ?_
        refine (rn_step (e := (.goto 4, 293, 294, 0, 0, 0, 0, [])) rfl).mpr ?_
        refine (rn_step (e := (.istore 7, 296, 7, 0, 0, 1, 0, [])) rfl).mpr (And.intro (rn_lnq rfl h1) (?_))
        refine (rn_step (e := (.iinc 10 1, 299, 10, 0, 0, 0, 0, [])) rfl).mpr (rn_ci (hr3 c1 c2 c3).1 (hr3 c1 c2 c3).2 ?_)
        refine (rn_step (e := (.goto (-55), 302, 244, 0, 0, 0, 0, [])) rfl).mpr ?_
        exact (k2 c1 c2 c3 M2 J2)
      ·
        refine (rn_step (e := (.aload_n 0, 278, 0, 0, 0, 0, 0, [])) rfl).mpr ?_
        refine (rn_step (e := (.iload 10, 280, 10, 0, 0, 0, 0, [])) rfl).mpr ?_
        refine (rn_step (e := (.iconst 0, 281, 0, 0, 0, 0, 0, [])) rfl).mpr ?_
        refine (rn_step (e := (.invokevirtual 88, 284, 116, 3, 705, 0, 10, [0])) rfl).mpr (And.intro ((rn_J8 J2)) ((iq_best0 J2 ((hr4 c1 c2 c3).1) (fun M3 J3 => ?_))))
        refine (rn_step (e := (.bipush (-9), 286, 0, 0, 0, 0, 0, [])) rfl).mpr ?_
        refine (rn_step (e := (.if_icmp .ne 7, 289, 293, 0, 0, 0, 0, [])) rfl).mpr (And.intro (fun q => ?_) (fun q => absurd (hr4 c1 c2 c3).2.1 q))
        refine (rn_step (e := (.iconst 1, 290, 0, 0, 0, 0, 0, [])) rfl).mpr ?_
        refine (rn_step (e := (.goto 4, 293, 294, 0, 0, 0, 0, [])) rfl).mpr ?_
        refine (rn_step (e := (.istore 7, 296, 7, 0, 0, 1, 0, [])) rfl).mpr (And.intro (rn_lnq rfl h1) (?_))
        refine (rn_step (e := (.iinc 10 1, 299, 10, 0, 0, 0, 0, [])) rfl).mpr (rn_ci (hr4 c1 c2 c3).2.2.1 (hr4 c1 c2 c3).2.2.2 ?_)
        refine (rn_step (e := (.goto (-55), 302, 244, 0, 0, 0, 0, [])) rfl).mpr ?_
        exact (k3 c1 c2 c3 M3 J3)
  ·
    refine (rn_step (e := (.iload 7, 304, 7, 0, 0, 0, 0, [])) rfl).mpr ?_
    refine (rn_step (e := (.ifCond .eq 23, 307, 327, 0, 0, 0, 0, [])) rfl).mpr (And.intro (fun q => absurd q (by decide)) (fun q => ?_))
    refine (rn_step (e := (.aload_n 0, 308, 0, 0, 0, 0, 0, [])) rfl).mpr ?_
    exact (rn_step (e := (.invokevirtual 97, 311, 105, 1, 265, 0, 10, [0])) rfl).mpr (And.intro ((rn_J8 J1)) ((k4 c1 M1 J1)))
set_option maxRecDepth 4000 in
theorem rb_Lw_areTidied_311 {M : rn_M} {Q : rn_Q} {G : Nat × (Nat → Int)} {N : Nat → Int} {n : Int} {K : Nat → Nat → Int} {vl1 : rn_V} {gl2 : Int64} {vl3 : rn_V} {vl4 : rn_V} {vl5 : rn_V} {vl6 : rn_V} {vl7 : rn_V} {vl8 : rn_V} {vl9 : rn_V} {vl10 : rn_V} {vl11 : rn_V} {xs0 : Int} (J : rn_Jq G M N n K)   (hr1 : ¬ (xs0 < 0) ∧ (lg_cmp (rn_pr N) gl2).toInt = 0) (k1 : ∀ M', rn_Jq G M' N n K → Q (some (rn_I 1)) M') : rn_WP 131 311 [rn_R 8, vl1, rn_G gl2, vl3, vl4, vl5, vl6, vl7, vl8, vl9, vl10, vl11] [rn_I xs0] M Q := by
  refine (rn_step (e := (.ifCond .lt 16, 314, 327, 0, 0, 0, 0, [])) rfl).mpr (And.intro (fun q => absurd q hr1.1) (fun q => ?_))
  refine (rn_step (e := (.aload_n 0, 315, 0, 0, 0, 0, 0, [])) rfl).mpr ?_
  refine (rn_step (e := (.invokestatic 35, 318, 126, 1, 421, 0, 0, [0])) rfl).mpr (iq_print J  (fun M1 J1 => ?_))
  refine (rn_step (e := (.lload_n 2, 319, 2, 0, 0, 0, 0, [])) rfl).mpr ?_
  refine (rn_step (e := (.lcmp, 320, 0, 0, 0, 0, 0, [])) rfl).mpr ?_
  refine (rn_step (e := (.ifCond .ne 7, 323, 327, 0, 0, 0, 0, [])) rfl).mpr (And.intro (fun q => ?_) (fun q => absurd hr1.2 q))
  refine (rn_step (e := (.iconst 1, 324, 0, 0, 0, 0, 0, [])) rfl).mpr ?_
  refine (rn_step (e := (.goto 4, 327, 328, 0, 0, 0, 0, [])) rfl).mpr ?_
  exact (rn_step (e := (.ireturn, 329, 0, 0, 0, 1, 0, [])) rfl).mpr (And.intro ((Or.inr rfl)) ((k1 M1 J1)))
