theorem re_Lw_areCells {M : rn_M} {Q : rn_Q} {v0 v1 : rn_V} (h : rn_WP 128 0 [v0, v1, rn_J, rn_J, rn_J, rn_J, rn_J, rn_J] [] M Q) : rn_ME 128 [v0, v1] M Q := h
set_option maxRecDepth 4000 in
theorem rb_Lw_areCells_0 {M : rn_M} {Q : rn_Q} {G : Nat × (Nat → Int)} {N : Nat → Int} {n : Int} {K : Nat → Nat → Int} {xl1 : Int} {vl2 : rn_V} {vl3 : rn_V} {vl4 : rn_V} {vl5 : rn_V} {vl6 : rn_V} {vl7 : rn_V} (J : rn_Jq G M N n K)   (hr1 : ((0 : Int) ≤ xl1 ∧ xl1 < N 0) ∧ (((0 : Int) ≤ xl1 ∧ xl1 < N 0) ∧ (0 : Int) ≤ rn_o N xl1 5 ∧ rn_o N xl1 5 ≤ rn_o N xl1 5) ∧ ¬ (100 * rn_px N xl1 (rn_o N xl1 5).toNat + rn_py N xl1 (rn_o N xl1 5).toNat < 0)) (hr2 : (rn_o N xl1 5 = 60) → (¬ (((0 : Int) ≤ xl1 ∧ xl1 < N 0) ∧ (0 : Int) ≤ 61 ∧ (61 : Int) ≤ 60)) ∧ ((0 : Int) ≤ xl1 ∧ xl1 < N 0) ∧ (-2147483648 : Int) ≤ rn_o N xl1 5 + 1 ∧ rn_o N xl1 5 + 1 ≤ 2147483647 ∧ ¬ (rn_o N xl1 5 + 1 < rn_card (rn_clr N xl1) 2400) ∧ ¬ (rn_card (rn_clr N xl1) 2400 ≤ 0) ∧ (((0 : Int) ≤ xl1 ∧ xl1 < N 0) ∧ (0 : Int) ≤ 0 ∧ (1 : Int) ≤ rn_o N xl1 5 + 1 ∧ 0 + (rn_o N xl1 5 + 1) ≤ rn_o N xl1 5 + 1) ∧ rn_bend N xl1 0 (rn_o N xl1 5 + 1) = rn_bend N xl1 0 (rn_o N xl1 5 + 1)) (hr3 : (¬ (rn_o N xl1 5 = 60)) → (-2147483648 : Int) ≤ rn_o N xl1 5 + 1 ∧ rn_o N xl1 5 + 1 ≤ 2147483647 ∧ (((0 : Int) ≤ xl1 ∧ xl1 < N 0) ∧ ((0 : Int) ≤ rn_o N xl1 5 + 1 ∧ rn_o N xl1 5 + 1 ≤ 60) ∧ rn_o N xl1 5 < rn_o N xl1 5 + 1) ∧ ((0 : Int) ≤ xl1 ∧ xl1 < N 0) ∧ ¬ (rn_o N xl1 5 + 1 < rn_card (rn_clr N xl1) 2400) ∧ ¬ (rn_card (rn_clr N xl1) 2400 ≤ 0) ∧ (((0 : Int) ≤ xl1 ∧ xl1 < N 0) ∧ (0 : Int) ≤ 0 ∧ (1 : Int) ≤ rn_o N xl1 5 + 1 ∧ 0 + (rn_o N xl1 5 + 1) ≤ rn_o N xl1 5 + 1) ∧ rn_bend N xl1 0 (rn_o N xl1 5 + 1) = rn_bend N xl1 0 (rn_o N xl1 5 + 1)) (k1 : (rn_o N xl1 5 = 60) → ∀ M', rn_Jq G M' N n K → rn_WP 128 98 [rn_R 8, rn_I xl1, rn_I (rn_o N xl1 5), rn_I 1, rn_I 0, vl5, vl6, vl7] [] M' Q) (k2 : (¬ (rn_o N xl1 5 = 60)) → ∀ M', rn_Jq G M' N n K → rn_WP 128 98 [rn_R 8, rn_I xl1, rn_I (rn_o N xl1 5), rn_I 1, rn_I 0, vl5, vl6, vl7] [] M' Q) : rn_WP 128 0 [rn_R 8, rn_I xl1, vl2, vl3, vl4, vl5, vl6, vl7] [] M Q := by
  refine (rn_step (e := (.aload_n 0, 1, 0, 0, 0, 0, 0, [])) rfl).mpr ?_
  refine (rn_step (e := (.iload_n 1, 2, 1, 0, 0, 0, 0, [])) rfl).mpr ?_
  refine (rn_step (e := (.iconst 3, 3, 0, 0, 0, 0, 0, [])) rfl).mpr ?_
  refine (rn_step (e := (.invokevirtual 19, 6, 107, 3, 426, 0, 10, [0])) rfl).mpr (And.intro ((rn_J8 J)) ((iq_river3 J (hr1.1) (fun M1 J1 => ?_))))
  refine (rn_step (e := (.istore_n 2, 7, 2, 0, 0, 1, 0, [])) rfl).mpr (And.intro (rn_lnq rfl rfl) (?_))
  refine (rn_step (e := (.aload_n 0, 8, 0, 0, 0, 0, 0, [])) rfl).mpr ?_
  refine (rn_step (e := (.iload_n 1, 9, 1, 0, 0, 0, 0, [])) rfl).mpr ?_
  refine (rn_step (e := (.iload_n 2, 10, 2, 0, 0, 0, 0, [])) rfl).mpr ?_
  refine (rn_step (e := (.invokevirtual 26, 13, 108, 3, 450, 0, 10, [0])) rfl).mpr (And.intro ((rn_J8 J1)) ((iq_cellV J1 (hr1.2.1) (fun M2 J2 => ?_))))
  refine (rn_step (e := (.ifCond .lt 80, 16, 93, 0, 0, 0, 0, [])) rfl).mpr (And.intro (fun q => absurd q hr1.2.2) (fun q => ?_))
  refine (rn_step (e := (.iload_n 2, 17, 2, 0, 0, 0, 0, [])) rfl).mpr ?_
  refine (rn_step (e := (.bipush 60, 19, 0, 0, 0, 0, 0, [])) rfl).mpr ?_
  refine (rn_step (e := (.if_icmp .ne 17, 22, 36, 0, 0, 0, 0, [])) rfl).mpr (And.intro (fun c1 => ?_) (fun c1 => ?_))
  ·
    refine (rn_step (e := (.aload_n 0, 23, 0, 0, 0, 0, 0, [])) rfl).mpr ?_
    refine (rn_step (e := (.iload_n 1, 24, 1, 0, 0, 0, 0, [])) rfl).mpr ?_
    refine (rn_step (e := (.bipush 61, 26, 0, 0, 0, 0, 0, [])) rfl).mpr ?_
    refine (rn_step (e := (.invokevirtual 26, 29, 108, 3, 450, 0, 10, [0])) rfl).mpr (And.intro ((rn_J8 J2)) ((iq_cellB J2 ((hr2 c1).1) (fun M3 J3 => ?_))))
    refine (rn_step (e := (.iconst (-1), 30, 0, 0, 0, 0, 0, [])) rfl).mpr ?_
    refine (rn_step (e := (.if_icmp .ne 63, 33, 93, 0, 0, 0, 0, [])) rfl).mpr (And.intro (fun q => ?_) (fun q => absurd (by decide) q))
    refine (rn_step (e := (.goto 16, 36, 49, 0, 0, 0, 0, [])) rfl).mpr ?_
    refine (rn_step (e := (.aload_n 0, 50, 0, 0, 0, 0, 0, [])) rfl).mpr ?_
    refine (rn_step (e := (.iload_n 1, 51, 1, 0, 0, 0, 0, [])) rfl).mpr ?_
    refine (rn_step (e := (.iconst 5, 52, 0, 0, 0, 0, 0, [])) rfl).mpr ?_
    refine (rn_step (e := (.invokevirtual 19, 55, 107, 3, 426, 0, 10, [0])) rfl).mpr (And.intro ((rn_J8 J3)) ((iq_river5 J3 ((hr2 c1).2.1) (fun M4 J4 => ?_))))
    refine (rn_step (e := (.iload_n 2, 56, 2, 0, 0, 0, 0, [])) rfl).mpr ?_
    refine (rn_step (e := (.iconst 1, 57, 0, 0, 0, 0, 0, [])) rfl).mpr ?_
    refine (rn_step (e := (.iadd, 58, 0, 0, 0, 0, 0, [])) rfl).mpr (rn_cw (hr2 c1).2.2.1 (hr2 c1).2.2.2.1 ?_)
    refine (rn_step (e := (.if_icmp .gt 35, 61, 93, 0, 0, 0, 0, [])) rfl).mpr (And.intro (fun q => absurd q (hr2 c1).2.2.2.2.1) (fun q => ?_))
    refine (rn_step (e := (.aload_n 0, 62, 0, 0, 0, 0, 0, [])) rfl).mpr ?_
    refine (rn_step (e := (.iload_n 1, 63, 1, 0, 0, 0, 0, [])) rfl).mpr ?_
    refine (rn_step (e := (.iconst 5, 64, 0, 0, 0, 0, 0, [])) rfl).mpr ?_
    refine (rn_step (e := (.invokevirtual 19, 67, 107, 3, 426, 0, 10, [0])) rfl).mpr (And.intro ((rn_J8 J4)) ((iq_river5 J4 ((hr2 c1).2.1) (fun M5 J5 => ?_))))
    refine (rn_step (e := (.ifCond .le 26, 70, 93, 0, 0, 0, 0, [])) rfl).mpr (And.intro (fun q => absurd q (hr2 c1).2.2.2.2.2.1) (fun q => ?_))
    refine (rn_step (e := (.aload_n 0, 71, 0, 0, 0, 0, 0, [])) rfl).mpr ?_
    refine (rn_step (e := (.iload_n 1, 72, 1, 0, 0, 0, 0, [])) rfl).mpr ?_
    refine (rn_step (e := (.bipush 6, 74, 0, 0, 0, 0, 0, [])) rfl).mpr ?_
    refine (rn_step (e := (.invokevirtual 19, 77, 107, 3, 426, 0, 10, [0])) rfl).mpr (And.intro ((rn_J8 J5)) ((iq_river6 J5 ((hr2 c1).2.1) (fun M6 J6 => ?_))))
    refine (rn_step (e := (.aload_n 0, 78, 0, 0, 0, 0, 0, [])) rfl).mpr ?_
    refine (rn_step (e := (.iload_n 1, 79, 1, 0, 0, 0, 0, [])) rfl).mpr ?_
    refine (rn_step (e := (.iconst 0, 80, 0, 0, 0, 0, 0, [])) rfl).mpr ?_
    refine (rn_step (e := (.iload_n 2, 81, 2, 0, 0, 0, 0, [])) rfl).mpr ?_
    refine (rn_step (e := (.iconst 1, 82, 0, 0, 0, 0, 0, [])) rfl).mpr ?_
    refine (rn_step (e := (.iadd, 83, 0, 0, 0, 0, 0, [])) rfl).mpr (rn_cw (hr2 c1).2.2.1 (hr2 c1).2.2.2.1 ?_)
    refine (rn_step (e := (.invokevirtual 78, 86, 113, 4, 687, 0, 10, [0])) rfl).mpr (And.intro ((rn_J8 J6)) ((iq_bendV J6 ((hr2 c1).2.2.2.2.2.2.1) (fun M7 J7 => ?_))))
    refine (rn_step (e := (.if_icmp .ne 7, 89, 93, 0, 0, 0, 0, [])) rfl).mpr (And.intro (fun q => ?_) (fun q => absurd (hr2 c1).2.2.2.2.2.2.2 q))
    refine (rn_step (e := (.iconst 1, 90, 0, 0, 0, 0, 0, [])) rfl).mpr ?_
    refine (rn_step (e := (.goto 4, 93, 94, 0, 0, 0, 0, [])) rfl).mpr ?_
    refine (rn_step (e := (.istore_n 3, 95, 3, 0, 0, 1, 0, [])) rfl).mpr (And.intro (rn_lnq rfl rfl) (?_))
    refine (rn_step (e := (.iconst 0, 96, 0, 0, 0, 0, 0, [])) rfl).mpr ?_
    refine (rn_step (e := (.istore 4, 98, 4, 0, 0, 1, 0, [])) rfl).mpr (And.intro (rn_lnq rfl rfl) (?_))
    exact (k1 c1 M7 J7)
  ·
    refine (rn_step (e := (.aload_n 0, 37, 0, 0, 0, 0, 0, [])) rfl).mpr ?_
    refine (rn_step (e := (.iload_n 1, 38, 1, 0, 0, 0, 0, [])) rfl).mpr ?_
    refine (rn_step (e := (.iload_n 2, 39, 2, 0, 0, 0, 0, [])) rfl).mpr ?_
    refine (rn_step (e := (.iconst 1, 40, 0, 0, 0, 0, 0, [])) rfl).mpr ?_
    refine (rn_step (e := (.iadd, 41, 0, 0, 0, 0, 0, [])) rfl).mpr (rn_cw (hr3 c1).1 (hr3 c1).2.1 ?_)
    refine (rn_step (e := (.invokevirtual 26, 44, 108, 3, 450, 0, 10, [0])) rfl).mpr (And.intro ((rn_J8 J2)) ((iq_cellN J2 ((hr3 c1).2.2.1) (fun M8 J8 => ?_))))
    refine (rn_step (e := (.bipush (-9), 46, 0, 0, 0, 0, 0, [])) rfl).mpr ?_
    refine (rn_step (e := (.if_icmp .ne 47, 49, 93, 0, 0, 0, 0, [])) rfl).mpr (And.intro (fun q => ?_) (fun q => absurd (by decide) q))
    refine (rn_step (e := (.aload_n 0, 50, 0, 0, 0, 0, 0, [])) rfl).mpr ?_
    refine (rn_step (e := (.iload_n 1, 51, 1, 0, 0, 0, 0, [])) rfl).mpr ?_
    refine (rn_step (e := (.iconst 5, 52, 0, 0, 0, 0, 0, [])) rfl).mpr ?_
    refine (rn_step (e := (.invokevirtual 19, 55, 107, 3, 426, 0, 10, [0])) rfl).mpr (And.intro ((rn_J8 J8)) ((iq_river5 J8 ((hr3 c1).2.2.2.1) (fun M9 J9 => ?_))))
    refine (rn_step (e := (.iload_n 2, 56, 2, 0, 0, 0, 0, [])) rfl).mpr ?_
    refine (rn_step (e := (.iconst 1, 57, 0, 0, 0, 0, 0, [])) rfl).mpr ?_
    refine (rn_step (e := (.iadd, 58, 0, 0, 0, 0, 0, [])) rfl).mpr (rn_cw (hr3 c1).1 (hr3 c1).2.1 ?_)
    refine (rn_step (e := (.if_icmp .gt 35, 61, 93, 0, 0, 0, 0, [])) rfl).mpr (And.intro (fun q => absurd q (hr3 c1).2.2.2.2.1) (fun q => ?_))
    refine (rn_step (e := (.aload_n 0, 62, 0, 0, 0, 0, 0, [])) rfl).mpr ?_
    refine (rn_step (e := (.iload_n 1, 63, 1, 0, 0, 0, 0, [])) rfl).mpr ?_
    refine (rn_step (e := (.iconst 5, 64, 0, 0, 0, 0, 0, [])) rfl).mpr ?_
    refine (rn_step (e := (.invokevirtual 19, 67, 107, 3, 426, 0, 10, [0])) rfl).mpr (And.intro ((rn_J8 J9)) ((iq_river5 J9 ((hr3 c1).2.2.2.1) (fun M10 J10 => ?_))))
    refine (rn_step (e := (.ifCond .le 26, 70, 93, 0, 0, 0, 0, [])) rfl).mpr (And.intro (fun q => absurd q (hr3 c1).2.2.2.2.2.1) (fun q => ?_))
    refine (rn_step (e := (.aload_n 0, 71, 0, 0, 0, 0, 0, [])) rfl).mpr ?_
    refine (rn_step (e := (.iload_n 1, 72, 1, 0, 0, 0, 0, [])) rfl).mpr ?_
    refine (rn_step (e := (.bipush 6, 74, 0, 0, 0, 0, 0, [])) rfl).mpr ?_
    refine (rn_step (e := (.invokevirtual 19, 77, 107, 3, 426, 0, 10, [0])) rfl).mpr (And.intro ((rn_J8 J10)) ((iq_river6 J10 ((hr3 c1).2.2.2.1) (fun M11 J11 => ?_))))
    refine (rn_step (e := (.aload_n 0, 78, 0, 0, 0, 0, 0, [])) rfl).mpr ?_
    refine (rn_step (e := (.iload_n 1, 79, 1, 0, 0, 0, 0, [])) rfl).mpr ?_
    refine (rn_step (e := (.iconst 0, 80, 0, 0, 0, 0, 0, [])) rfl).mpr ?_
    refine (rn_step (e := (.iload_n 2, 81, 2, 0, 0, 0, 0, [])) rfl).mpr ?_
    refine (rn_step (e := (.iconst 1, 82, 0, 0, 0, 0, 0, [])) rfl).mpr ?_
    refine (rn_step (e := (.iadd, 83, 0, 0, 0, 0, 0, [])) rfl).mpr (rn_cw (hr3 c1).1 (hr3 c1).2.1 ?_)
    refine (rn_step (e := (.invokevirtual 78, 86, 113, 4, 687, 0, 10, [0])) rfl).mpr (And.intro ((rn_J8 J11)) ((iq_bendV J11 ((hr3 c1).2.2.2.2.2.2.1) (fun M12 J12 => ?_))))
    refine (rn_step (e := (.if_icmp .ne 7, 89, 93, 0, 0, 0, 0, [])) rfl).mpr (And.intro (fun q => ?_) (fun q => absurd (hr3 c1).2.2.2.2.2.2.2 q))
    refine (rn_step (e := (.iconst 1, 90, 0, 0, 0, 0, 0, [])) rfl).mpr ?_
    refine (rn_step (e := (.goto 4, 93, 94, 0, 0, 0, 0, [])) rfl).mpr ?_
    refine (rn_step (e := (.istore_n 3, 95, 3, 0, 0, 1, 0, [])) rfl).mpr (And.intro (rn_lnq rfl rfl) (?_))
    refine (rn_step (e := (.iconst 0, 96, 0, 0, 0, 0, 0, [])) rfl).mpr ?_
    refine (rn_step (e := (.istore 4, 98, 4, 0, 0, 1, 0, [])) rfl).mpr (And.intro (rn_lnq rfl rfl) (?_))
    exact (k2 c1 M12 J12)
set_option maxRecDepth 4000 in
theorem rb_Lw_areCells_98 {M : rn_M} {Q : rn_Q} {G : Nat × (Nat → Int)} {N : Nat → Int} {n : Int} {K : Nat → Nat → Int} {xl1 : Int} {xl2 : Int} {xl4 : Int} {vl5 : rn_V} {vl6 : rn_V} {vl7 : rn_V} (J : rn_Jq G M N n K)   (hr1 : (xl4 < xl2) → (-2147483648 : Int) ≤ xl4 + 1 ∧ xl4 + 1 ≤ 2147483647 ∧ (((0 : Int) ≤ xl1 ∧ xl1 < N 0) ∧ (0 : Int) ≤ xl4 + 1 ∧ xl4 + 1 ≤ rn_o N xl1 5) ∧ (0 : Int) ≤ 100 * rn_px N xl1 (xl4 + 1).toNat + rn_py N xl1 (xl4 + 1).toNat ∧ (((0 : Int) ≤ xl1 ∧ xl1 < N 0) ∧ (0 : Int) ≤ xl4 ∧ xl4 ≤ rn_o N xl1 5) ∧ (0 : Int) ≤ 100 * rn_px N xl1 (xl4).toNat + rn_py N xl1 (xl4).toNat ∧ (-2147483648 : Int) ≤ ((100 * rn_px N xl1 (xl4 + 1).toNat + rn_py N xl1 (xl4 + 1).toNat) / 100) - ((100 * rn_px N xl1 (xl4).toNat + rn_py N xl1 (xl4).toNat) / 100) ∧ ((100 * rn_px N xl1 (xl4 + 1).toNat + rn_py N xl1 (xl4 + 1).toNat) / 100) - ((100 * rn_px N xl1 (xl4).toNat + rn_py N xl1 (xl4).toNat) / 100) ≤ 2147483647 ∧ (-2147483648 : Int) ≤ ((100 * rn_px N xl1 (xl4 + 1).toNat + rn_py N xl1 (xl4 + 1).toNat) % 100) - ((100 * rn_px N xl1 (xl4).toNat + rn_py N xl1 (xl4).toNat) % 100) ∧ ((100 * rn_px N xl1 (xl4 + 1).toNat + rn_py N xl1 (xl4 + 1).toNat) % 100) - ((100 * rn_px N xl1 (xl4).toNat + rn_py N xl1 (xl4).toNat) % 100) ≤ 2147483647) (k1 : (xl4 < xl2) → ∀ M', rn_Jq G M' N n K → rn_WP 128 158 [rn_R 8, rn_I xl1, rn_I xl2, rn_I 1, rn_I xl4, rn_I (((100 * rn_px N xl1 (xl4 + 1).toNat + rn_py N xl1 (xl4 + 1).toNat) / 100) - ((100 * rn_px N xl1 (xl4).toNat + rn_py N xl1 (xl4).toNat) / 100)), rn_I (((100 * rn_px N xl1 (xl4 + 1).toNat + rn_py N xl1 (xl4 + 1).toNat) % 100) - ((100 * rn_px N xl1 (xl4).toNat + rn_py N xl1 (xl4).toNat) % 100)), vl7] [] M' Q) (k2 : (¬ (xl4 < xl2)) → ∀ M', rn_Jq G M' N n K → rn_WP 128 256 [rn_R 8, rn_I xl1, rn_I xl2, rn_I 1, rn_I 1, vl5, vl6, vl7] [] M' Q) : rn_WP 128 98 [rn_R 8, rn_I xl1, rn_I xl2, rn_I 1, rn_I xl4, vl5, vl6, vl7] [] M Q := by
  refine (rn_step (e := (.iload 4, 100, 4, 0, 0, 0, 0, [])) rfl).mpr ?_
  refine (rn_step (e := (.iload_n 2, 101, 2, 0, 0, 0, 0, [])) rfl).mpr ?_
  refine (rn_step (e := (.if_icmp .ge 152, 104, 253, 0, 0, 0, 0, [])) rfl).mpr (And.intro (fun c1 => ?_) (fun c1 => ?_))
  ·
    refine (rn_step (e := (.iload_n 3, 105, 3, 0, 0, 0, 0, [])) rfl).mpr ?_
    refine (rn_step (e := (.ifCond .eq 148, 108, 253, 0, 0, 0, 0, [])) rfl).mpr (And.intro (fun q => absurd q (by decide)) (fun q => ?_))
    refine (rn_step (e := (.aload_n 0, 109, 0, 0, 0, 0, 0, [])) rfl).mpr ?_
    refine (rn_step (e := (.iload_n 1, 110, 1, 0, 0, 0, 0, [])) rfl).mpr ?_
    refine (rn_step (e := (.iload 4, 112, 4, 0, 0, 0, 0, [])) rfl).mpr ?_
    refine (rn_step (e := (.iconst 1, 113, 0, 0, 0, 0, 0, [])) rfl).mpr ?_
    refine (rn_step (e := (.iadd, 114, 0, 0, 0, 0, 0, [])) rfl).mpr (rn_cw (hr1 c1).1 (hr1 c1).2.1 ?_)
    refine (rn_step (e := (.invokevirtual 26, 117, 108, 3, 450, 0, 10, [0])) rfl).mpr (And.intro ((rn_J8 J)) ((iq_cellV J ((hr1 c1).2.2.1) (fun M1 J1 => ?_))))
    refine (rn_step (e := (.bipush 100, 119, 0, 0, 0, 0, 0, [])) rfl).mpr ?_
    refine (rn_step (e := (.idiv, 120, 0, 0, 0, 0, 0, [])) rfl).mpr (And.intro ((hr1 c1).2.2.2.1) (And.intro ((by decide)) (?_)))
    refine (rn_step (e := (.aload_n 0, 121, 0, 0, 0, 0, 0, [])) rfl).mpr ?_
    refine (rn_step (e := (.iload_n 1, 122, 1, 0, 0, 0, 0, [])) rfl).mpr ?_
    refine (rn_step (e := (.iload 4, 124, 4, 0, 0, 0, 0, [])) rfl).mpr ?_
    refine (rn_step (e := (.invokevirtual 26, 127, 108, 3, 450, 0, 10, [0])) rfl).mpr (And.intro ((rn_J8 J1)) ((iq_cellV J1 ((hr1 c1).2.2.2.2.1) (fun M2 J2 => ?_))))
    refine (rn_step (e := (.bipush 100, 129, 0, 0, 0, 0, 0, [])) rfl).mpr ?_
    refine (rn_step (e := (.idiv, 130, 0, 0, 0, 0, 0, [])) rfl).mpr (And.intro ((hr1 c1).2.2.2.2.2.1) (And.intro ((by decide)) (?_)))
    refine (rn_step (e := (.isub, 131, 0, 0, 0, 0, 0, [])) rfl).mpr (rn_cw (hr1 c1).2.2.2.2.2.2.1 (hr1 c1).2.2.2.2.2.2.2.1 ?_)
    refine (rn_step (e := (.istore 5, 133, 5, 0, 0, 1, 0, [])) rfl).mpr (And.intro (rn_lnq rfl rfl) (?_))
    refine (rn_step (e := (.aload_n 0, 134, 0, 0, 0, 0, 0, [])) rfl).mpr ?_
    refine (rn_step (e := (.iload_n 1, 135, 1, 0, 0, 0, 0, [])) rfl).mpr ?_
    refine (rn_step (e := (.iload 4, 137, 4, 0, 0, 0, 0, [])) rfl).mpr ?_
    refine (rn_step (e := (.iconst 1, 138, 0, 0, 0, 0, 0, [])) rfl).mpr ?_
    refine (rn_step (e := (.iadd, 139, 0, 0, 0, 0, 0, [])) rfl).mpr (rn_cw (hr1 c1).1 (hr1 c1).2.1 ?_)
    refine (rn_step (e := (.invokevirtual 26, 142, 108, 3, 450, 0, 10, [0])) rfl).mpr (And.intro ((rn_J8 J2)) ((iq_cellV J2 ((hr1 c1).2.2.1) (fun M3 J3 => ?_))))
    refine (rn_step (e := (.bipush 100, 144, 0, 0, 0, 0, 0, [])) rfl).mpr ?_
    refine (rn_step (e := (.irem, 145, 0, 0, 0, 0, 0, [])) rfl).mpr (And.intro ((hr1 c1).2.2.2.1) (And.intro ((by decide)) (?_)))
    refine (rn_step (e := (.aload_n 0, 146, 0, 0, 0, 0, 0, [])) rfl).mpr ?_
    refine (rn_step (e := (.iload_n 1, 147, 1, 0, 0, 0, 0, [])) rfl).mpr ?_
    refine (rn_step (e := (.iload 4, 149, 4, 0, 0, 0, 0, [])) rfl).mpr ?_
    refine (rn_step (e := (.invokevirtual 26, 152, 108, 3, 450, 0, 10, [0])) rfl).mpr (And.intro ((rn_J8 J3)) ((iq_cellV J3 ((hr1 c1).2.2.2.2.1) (fun M4 J4 => ?_))))
    refine (rn_step (e := (.bipush 100, 154, 0, 0, 0, 0, 0, [])) rfl).mpr ?_
    refine (rn_step (e := (.irem, 155, 0, 0, 0, 0, 0, [])) rfl).mpr (And.intro ((hr1 c1).2.2.2.2.2.1) (And.intro ((by decide)) (?_)))
    refine (rn_step (e := (.isub, 156, 0, 0, 0, 0, 0, [])) rfl).mpr (rn_cw (hr1 c1).2.2.2.2.2.2.2.2.1 (hr1 c1).2.2.2.2.2.2.2.2.2 ?_)
    refine (rn_step (e := (.istore 6, 158, 6, 0, 0, 1, 0, [])) rfl).mpr (And.intro (rn_lnq rfl rfl) (?_))
    exact (k1 c1 M4 J4)
  ·
    refine (rn_step (e := (.iconst 1, 254, 0, 0, 0, 0, 0, [])) rfl).mpr ?_
    refine (rn_step (e := (.istore 4, 256, 4, 0, 0, 1, 0, [])) rfl).mpr (And.intro (rn_lnq rfl rfl) (?_))
    exact (k2 c1 M J)
set_option maxRecDepth 4000 in
theorem rb_Lw_areCells_158 {M : rn_M} {Q : rn_Q} {G : Nat × (Nat → Int)} {N : Nat → Int} {n : Int} {K : Nat → Nat → Int} {xl1 : Int} {vl2 : rn_V} {vl3 : rn_V} {xl4 : Int} {xl5 : Int} {xl6 : Int} {vl7 : rn_V} (J : rn_Jq G M N n K)  (h1 : rn_ca vl2 = 1) (hr1 : (-2147483648 : Int) ≤ xl5 * xl5 ∧ xl5 * xl5 ≤ 2147483647 ∧ (-2147483648 : Int) ≤ xl6 * xl6 ∧ xl6 * xl6 ≤ 2147483647 ∧ (-2147483648 : Int) ≤ (xl5 * xl5) + (xl6 * xl6) ∧ (xl5 * xl5) + (xl6 * xl6) ≤ 2147483647 ∧ ¬ ((xl5 * xl5) + (xl6 * xl6) ≤ 0) ∧ (xl5 * xl5) + (xl6 * xl6) < 3 ∧ (((0 : Int) ≤ xl1 ∧ xl1 < N 0) ∧ (0 : Int) ≤ xl4 ∧ (1 : Int) ≤ 2 ∧ xl4 + 2 ≤ rn_o N xl1 5 + 1) ∧ rn_bend N xl1 xl4 2 = 0 ∧ (((0 : Int) ≤ xl1 ∧ xl1 < N 0) ∧ (0 : Int) ≤ xl4 ∧ (1 : Int) ≤ 1 ∧ xl4 + 1 ≤ rn_o N xl1 5 + 1) ∧ rn_bend N xl1 xl4 1 = 0) (hr2 : (xl4 = 0) → (-2147483648 : Int) ≤ xl4 + 1 ∧ xl4 + 1 ≤ 2147483647) (hr3 : (¬ (xl4 = 0)) → (-2147483648 : Int) ≤ xl4 - 1 ∧ xl4 - 1 ≤ 2147483647 ∧ (((0 : Int) ≤ xl1 ∧ xl1 < N 0) ∧ (0 : Int) ≤ xl4 - 1 ∧ (1 : Int) ≤ 3 ∧ (xl4 - 1) + 3 ≤ rn_o N xl1 5 + 1) ∧ ¬ (rn_bend N xl1 (xl4 - 1) 3 < 0) ∧ ¬ (4 < rn_bend N xl1 (xl4 - 1) 3) ∧ (-2147483648 : Int) ≤ xl4 + 1 ∧ xl4 + 1 ≤ 2147483647) (k1 : (xl4 = 0) → ∀ M', rn_Jq G M' N n K → rn_WP 128 98 [rn_R 8, rn_I xl1, vl2, rn_I 1, rn_I (xl4 + 1), rn_I xl5, rn_I xl6, vl7] [] M' Q) (k2 : (¬ (xl4 = 0)) → ∀ M', rn_Jq G M' N n K → rn_WP 128 98 [rn_R 8, rn_I xl1, vl2, rn_I 1, rn_I (xl4 + 1), rn_I xl5, rn_I xl6, vl7] [] M' Q) : rn_WP 128 158 [rn_R 8, rn_I xl1, vl2, vl3, rn_I xl4, rn_I xl5, rn_I xl6, vl7] [] M Q := by
  refine (rn_step (e := (.iload 5, 160, 5, 0, 0, 0, 0, [])) rfl).mpr ?_
  refine (rn_step (e := (.iload 5, 162, 5, 0, 0, 0, 0, [])) rfl).mpr ?_
  refine (rn_step (e := (.imul, 163, 0, 0, 0, 0, 0, [])) rfl).mpr (rn_cw hr1.1 hr1.2.1 ?_)
  refine (rn_step (e := (.iload 6, 165, 6, 0, 0, 0, 0, [])) rfl).mpr ?_
  refine (rn_step (e := (.iload 6, 167, 6, 0, 0, 0, 0, [])) rfl).mpr ?_
  refine (rn_step (e := (.imul, 168, 0, 0, 0, 0, 0, [])) rfl).mpr (rn_cw hr1.2.2.1 hr1.2.2.2.1 ?_)
  refine (rn_step (e := (.iadd, 169, 0, 0, 0, 0, 0, [])) rfl).mpr (rn_cw hr1.2.2.2.2.1 hr1.2.2.2.2.2.1 ?_)
  refine (rn_step (e := (.ifCond .le 76, 172, 245, 0, 0, 0, 0, [])) rfl).mpr (And.intro (fun q => absurd q hr1.2.2.2.2.2.2.1) (fun q => ?_))
  refine (rn_step (e := (.iload 5, 174, 5, 0, 0, 0, 0, [])) rfl).mpr ?_
  refine (rn_step (e := (.iload 5, 176, 5, 0, 0, 0, 0, [])) rfl).mpr ?_
  refine (rn_step (e := (.imul, 177, 0, 0, 0, 0, 0, [])) rfl).mpr (rn_cw hr1.1 hr1.2.1 ?_)
  refine (rn_step (e := (.iload 6, 179, 6, 0, 0, 0, 0, [])) rfl).mpr ?_
  refine (rn_step (e := (.iload 6, 181, 6, 0, 0, 0, 0, [])) rfl).mpr ?_
  refine (rn_step (e := (.imul, 182, 0, 0, 0, 0, 0, [])) rfl).mpr (rn_cw hr1.2.2.1 hr1.2.2.2.1 ?_)
  refine (rn_step (e := (.iadd, 183, 0, 0, 0, 0, 0, [])) rfl).mpr (rn_cw hr1.2.2.2.2.1 hr1.2.2.2.2.2.1 ?_)
  refine (rn_step (e := (.iconst 3, 184, 0, 0, 0, 0, 0, [])) rfl).mpr ?_
  refine (rn_step (e := (.if_icmp .ge 61, 187, 245, 0, 0, 0, 0, [])) rfl).mpr (And.intro (fun q => ?_) (fun q => absurd hr1.2.2.2.2.2.2.2.1 q))
  refine (rn_step (e := (.aload_n 0, 188, 0, 0, 0, 0, 0, [])) rfl).mpr ?_
  refine (rn_step (e := (.iload_n 1, 189, 1, 0, 0, 0, 0, [])) rfl).mpr ?_
  refine (rn_step (e := (.iload 4, 191, 4, 0, 0, 0, 0, [])) rfl).mpr ?_
  refine (rn_step (e := (.iconst 2, 192, 0, 0, 0, 0, 0, [])) rfl).mpr ?_
  refine (rn_step (e := (.invokevirtual 78, 195, 113, 4, 687, 0, 10, [0])) rfl).mpr (And.intro ((rn_J8 J)) ((iq_bendV J (hr1.2.2.2.2.2.2.2.2.1) (fun M1 J1 => ?_))))
  refine (rn_step (e := (.ifCond .ne 50, 198, 245, 0, 0, 0, 0, [])) rfl).mpr (And.intro (fun q => ?_) (fun q => absurd hr1.2.2.2.2.2.2.2.2.2.1 q))
  refine (rn_step (e := (.aload_n 0, 199, 0, 0, 0, 0, 0, [])) rfl).mpr ?_
  refine (rn_step (e := (.iload_n 1, 200, 1, 0, 0, 0, 0, [])) rfl).mpr ?_
  refine (rn_step (e := (.iload 4, 202, 4, 0, 0, 0, 0, [])) rfl).mpr ?_
  refine (rn_step (e := (.iconst 1, 203, 0, 0, 0, 0, 0, [])) rfl).mpr ?_
  refine (rn_step (e := (.invokevirtual 78, 206, 113, 4, 687, 0, 10, [0])) rfl).mpr (And.intro ((rn_J8 J1)) ((iq_bendV J1 (hr1.2.2.2.2.2.2.2.2.2.2.1) (fun M2 J2 => ?_))))
  refine (rn_step (e := (.ifCond .ne 39, 209, 245, 0, 0, 0, 0, [])) rfl).mpr (And.intro (fun q => ?_) (fun q => absurd hr1.2.2.2.2.2.2.2.2.2.2.2 q))
  refine (rn_step (e := (.iload 4, 211, 4, 0, 0, 0, 0, [])) rfl).mpr ?_
  refine (rn_step (e := (.ifCond .eq 30, 214, 241, 0, 0, 0, 0, [])) rfl).mpr (And.intro (fun c1 => ?_) (fun c1 => ?_))
  ·
    refine (rn_step (e := (.iconst 1, 242, 0, 0, 0, 0, 0, [])) rfl).mpr ?_
    refine (rn_step (e := (.goto 4, 245, 246, 0, 0, 0, 0, [])) rfl).mpr ?_
    refine (rn_step (e := (.istore_n 3, 247, 3, 0, 0, 1, 0, [])) rfl).mpr (And.intro (rn_lnq rfl h1) (?_))
    refine (rn_step (e := (.iinc 4 1, 250, 4, 0, 0, 0, 0, [])) rfl).mpr (rn_ci (hr2 c1).1 (hr2 c1).2 ?_)
    refine (rn_step (e := (.goto (-152), 253, 98, 0, 0, 0, 0, [])) rfl).mpr ?_
    exact (k1 c1 M2 J2)
  ·
    refine (rn_step (e := (.aload_n 0, 215, 0, 0, 0, 0, 0, [])) rfl).mpr ?_
    refine (rn_step (e := (.iload_n 1, 216, 1, 0, 0, 0, 0, [])) rfl).mpr ?_
    refine (rn_step (e := (.iload 4, 218, 4, 0, 0, 0, 0, [])) rfl).mpr ?_
    refine (rn_step (e := (.iconst 1, 219, 0, 0, 0, 0, 0, [])) rfl).mpr ?_
    refine (rn_step (e := (.isub, 220, 0, 0, 0, 0, 0, [])) rfl).mpr (rn_cw (hr3 c1).1 (hr3 c1).2.1 ?_)
    refine (rn_step (e := (.iconst 3, 221, 0, 0, 0, 0, 0, [])) rfl).mpr ?_
    refine (rn_step (e := (.invokevirtual 78, 224, 113, 4, 687, 0, 10, [0])) rfl).mpr (And.intro ((rn_J8 J2)) ((iq_bendV J2 ((hr3 c1).2.2.1) (fun M3 J3 => ?_))))
    refine (rn_step (e := (.ifCond .lt 21, 227, 245, 0, 0, 0, 0, [])) rfl).mpr (And.intro (fun q => absurd q (hr3 c1).2.2.2.1) (fun q => ?_))
    refine (rn_step (e := (.aload_n 0, 228, 0, 0, 0, 0, 0, [])) rfl).mpr ?_
    refine (rn_step (e := (.iload_n 1, 229, 1, 0, 0, 0, 0, [])) rfl).mpr ?_
    refine (rn_step (e := (.iload 4, 231, 4, 0, 0, 0, 0, [])) rfl).mpr ?_
    refine (rn_step (e := (.iconst 1, 232, 0, 0, 0, 0, 0, [])) rfl).mpr ?_
    refine (rn_step (e := (.isub, 233, 0, 0, 0, 0, 0, [])) rfl).mpr (rn_cw (hr3 c1).1 (hr3 c1).2.1 ?_)
    refine (rn_step (e := (.iconst 3, 234, 0, 0, 0, 0, 0, [])) rfl).mpr ?_
    refine (rn_step (e := (.invokevirtual 78, 237, 113, 4, 687, 0, 10, [0])) rfl).mpr (And.intro ((rn_J8 J3)) ((iq_bendV J3 ((hr3 c1).2.2.1) (fun M4 J4 => ?_))))
    refine (rn_step (e := (.iconst 4, 238, 0, 0, 0, 0, 0, [])) rfl).mpr ?_
    refine (rn_step (e := (.if_icmp .gt 7, 241, 245, 0, 0, 0, 0, [])) rfl).mpr (And.intro (fun q => absurd q (hr3 c1).2.2.2.2.1) (fun q => ?_))
    refine (rn_step (e := (.iconst 1, 242, 0, 0, 0, 0, 0, [])) rfl).mpr ?_
    refine (rn_step (e := (.goto 4, 245, 246, 0, 0, 0, 0, [])) rfl).mpr ?_
    refine (rn_step (e := (.istore_n 3, 247, 3, 0, 0, 1, 0, [])) rfl).mpr (And.intro (rn_lnq rfl h1) (?_))
    refine (rn_step (e := (.iinc 4 1, 250, 4, 0, 0, 0, 0, [])) rfl).mpr (rn_ci (hr3 c1).2.2.2.2.2.1 (hr3 c1).2.2.2.2.2.2 ?_)
    refine (rn_step (e := (.goto (-152), 253, 98, 0, 0, 0, 0, [])) rfl).mpr ?_
    exact (k2 c1 M4 J4)
set_option maxRecDepth 4000 in
theorem rb_Lw_areCells_256 {M : rn_M} {Q : rn_Q} {G : Nat × (Nat → Int)} {N : Nat → Int} {n : Int} {K : Nat → Nat → Int} {vl1 : rn_V} {vl2 : rn_V} {xl4 : Int} {vl5 : rn_V} {vl6 : rn_V} {vl7 : rn_V} (J : rn_Jq G M N n K)   (k1 : (xl4 < 9) → ∀ M', rn_Jq G M' N n K → rn_WP 128 274 [rn_R 8, vl1, vl2, rn_I 1, rn_I xl4, rn_I (-9), rn_I 0, vl7] [] M' Q) (k2 : (¬ (xl4 < 9)) → ∀ M', rn_Jq G M' N n K → Q (some (rn_I 1)) M') : rn_WP 128 256 [rn_R 8, vl1, vl2, rn_I 1, rn_I xl4, vl5, vl6, vl7] [] M Q := by
  refine (rn_step (e := (.iload 4, 258, 4, 0, 0, 0, 0, [])) rfl).mpr ?_
  refine (rn_step (e := (.bipush 9, 260, 0, 0, 0, 0, 0, [])) rfl).mpr ?_
  refine (rn_step (e := (.if_icmp .ge 144, 263, 404, 0, 0, 0, 0, [])) rfl).mpr (And.intro (fun c1 => ?_) (fun c1 => ?_))
  ·
    refine (rn_step (e := (.iload_n 3, 264, 3, 0, 0, 0, 0, [])) rfl).mpr ?_
    refine (rn_step (e := (.ifCond .eq 140, 267, 404, 0, 0, 0, 0, [])) rfl).mpr (And.intro (fun q => absurd q (by decide)) (fun q => ?_))
    refine (rn_step (e := (.bipush (-9), 269, 0, 0, 0, 0, 0, [])) rfl).mpr ?_
    refine (rn_step (e := (.istore 5, 271, 5, 0, 0, 1, 0, [])) rfl).mpr (And.intro (rn_lnq rfl rfl) (?_))
    refine (rn_step (e := (.iconst 0, 272, 0, 0, 0, 0, 0, [])) rfl).mpr ?_
    refine (rn_step (e := (.istore 6, 274, 6, 0, 0, 1, 0, [])) rfl).mpr (And.intro (rn_lnq rfl rfl) (?_))
    exact (k1 c1 M J)
  ·
    refine (rn_step (e := (.iload_n 3, 405, 3, 0, 0, 0, 0, [])) rfl).mpr ?_
    exact (rn_step (e := (.ireturn, 406, 0, 0, 0, 1, 0, [])) rfl).mpr (And.intro ((Or.inr rfl)) ((k2 c1 M J)))
set_option maxRecDepth 4000 in
theorem rb_Lw_areCells_274 {M : rn_M} {Q : rn_Q} {G : Nat × (Nat → Int)} {N : Nat → Int} {n : Int} {K : Nat → Nat → Int} {xl1 : Int} {xl2 : Int} {xl4 : Int} {xl5 : Int} {xl6 : Int} {vl7 : rn_V} (J : rn_Jq G M N n K)   (hr1 : (-2147483648 : Int) ≤ xl6 + xl4 ∧ xl6 + xl4 ≤ 2147483647 ∧ (-2147483648 : Int) ≤ xl2 + 1 ∧ xl2 + 1 ≤ 2147483647) (hr2 : (xl2 + 1 < xl6 + xl4) → (((0 : Int) ≤ xl1 ∧ xl1 < N 0) ∧ (1 : Int) ≤ xl4 ∧ (xl4 : Int) ≤ 61) ∧ rn_stn N xl1 xl4 (rn_o N xl1 5 + 1 - xl4 + 1).toNat = xl5 ∧ (-2147483648 : Int) ≤ xl4 + 3 ∧ xl4 + 3 ≤ 2147483647) (hr3 : (¬ (xl2 + 1 < xl6 + xl4)) → (((0 : Int) ≤ xl1 ∧ xl1 < N 0) ∧ (0 : Int) ≤ xl6 ∧ (1 : Int) ≤ xl4 ∧ xl6 + xl4 ≤ rn_o N xl1 5 + 1)) (hr4 : (¬ (xl2 + 1 < xl6 + xl4)) → (xl4 < 3) → (xl5 < 0) → (-2147483648 : Int) ≤ xl6 + 1 ∧ xl6 + 1 ≤ 2147483647) (hr5 : (¬ (xl2 + 1 < xl6 + xl4)) → (xl4 < 3) → (¬ (xl5 < 0)) → (((0 : Int) ≤ xl1 ∧ xl1 < N 0) ∧ (0 : Int) ≤ xl5 ∧ (1 : Int) ≤ xl4 ∧ xl5 + xl4 ≤ rn_o N xl1 5 + 1)) (hr6 : (¬ (xl2 + 1 < xl6 + xl4)) → (xl4 < 3) → (¬ (xl5 < 0)) → (rn_bend N xl1 xl6 xl4 < rn_bend N xl1 xl5 xl4) → (-2147483648 : Int) ≤ xl6 + 1 ∧ xl6 + 1 ≤ 2147483647) (hr7 : (¬ (xl2 + 1 < xl6 + xl4)) → (xl4 < 3) → (¬ (xl5 < 0)) → (¬ (rn_bend N xl1 xl6 xl4 < rn_bend N xl1 xl5 xl4)) → (-2147483648 : Int) ≤ xl6 + 1 ∧ xl6 + 1 ≤ 2147483647) (hr8 : (¬ (xl2 + 1 < xl6 + xl4)) → (¬ (xl4 < 3)) → (-2147483648 : Int) ≤ xl4 - 1 ∧ xl4 - 1 ≤ 2147483647 ∧ (((0 : Int) ≤ xl1 ∧ xl1 < N 0) ∧ (0 : Int) ≤ xl6 ∧ (1 : Int) ≤ xl4 - 1 ∧ xl6 + (xl4 - 1) ≤ rn_o N xl1 5 + 1) ∧ (-2147483648 : Int) ≤ xl6 + xl4 ∧ xl6 + xl4 ≤ 2147483647 ∧ (-2147483648 : Int) ≤ (xl6 + xl4) - 3 ∧ (xl6 + xl4) - 3 ≤ 2147483647 ∧ (((0 : Int) ≤ xl1 ∧ xl1 < N 0) ∧ (0 : Int) ≤ (xl6 + xl4) - 3 ∧ (1 : Int) ≤ 3 ∧ ((xl6 + xl4) - 3) + 3 ≤ rn_o N xl1 5 + 1) ∧ (-2147483648 : Int) ≤ (rn_bend N xl1 xl6 (xl4 - 1)) + (rn_bend N xl1 ((xl6 + xl4) - 3) 3) ∧ (rn_bend N xl1 xl6 (xl4 - 1)) + (rn_bend N xl1 ((xl6 + xl4) - 3) 3) ≤ 2147483647 ∧ rn_bend N xl1 xl6 xl4 = (rn_bend N xl1 xl6 (xl4 - 1)) + (rn_bend N xl1 ((xl6 + xl4) - 3) 3)) (hr9 : (¬ (xl2 + 1 < xl6 + xl4)) → (¬ (xl4 < 3)) → (xl5 < 0) → (-2147483648 : Int) ≤ xl6 + 1 ∧ xl6 + 1 ≤ 2147483647) (hr10 : (¬ (xl2 + 1 < xl6 + xl4)) → (¬ (xl4 < 3)) → (¬ (xl5 < 0)) → (((0 : Int) ≤ xl1 ∧ xl1 < N 0) ∧ (0 : Int) ≤ xl5 ∧ (1 : Int) ≤ xl4 ∧ xl5 + xl4 ≤ rn_o N xl1 5 + 1)) (hr11 : (¬ (xl2 + 1 < xl6 + xl4)) → (¬ (xl4 < 3)) → (¬ (xl5 < 0)) → (rn_bend N xl1 xl6 xl4 < rn_bend N xl1 xl5 xl4) → (-2147483648 : Int) ≤ xl6 + 1 ∧ xl6 + 1 ≤ 2147483647) (hr12 : (¬ (xl2 + 1 < xl6 + xl4)) → (¬ (xl4 < 3)) → (¬ (xl5 < 0)) → (¬ (rn_bend N xl1 xl6 xl4 < rn_bend N xl1 xl5 xl4)) → (-2147483648 : Int) ≤ xl6 + 1 ∧ xl6 + 1 ≤ 2147483647) (k1 : (xl2 + 1 < xl6 + xl4) → ∀ M', rn_Jq G M' N n K → rn_WP 128 256 [rn_R 8, rn_I xl1, rn_I xl2, rn_I 1, rn_I (xl4 + 3), rn_I xl5, rn_I xl6, vl7] [] M' Q) (k2 : (¬ (xl2 + 1 < xl6 + xl4)) → (xl4 < 3) → (xl5 < 0) → ∀ M', rn_Jq G M' N n K → rn_WP 128 274 [rn_R 8, rn_I xl1, rn_I xl2, rn_I 1, rn_I xl4, rn_I xl6, rn_I (xl6 + 1), rn_I (rn_bend N xl1 xl6 xl4)] [] M' Q) (k3 : (¬ (xl2 + 1 < xl6 + xl4)) → (xl4 < 3) → (¬ (xl5 < 0)) → (rn_bend N xl1 xl6 xl4 < rn_bend N xl1 xl5 xl4) → ∀ M', rn_Jq G M' N n K → rn_WP 128 274 [rn_R 8, rn_I xl1, rn_I xl2, rn_I 1, rn_I xl4, rn_I xl6, rn_I (xl6 + 1), rn_I (rn_bend N xl1 xl6 xl4)] [] M' Q) (k4 : (¬ (xl2 + 1 < xl6 + xl4)) → (xl4 < 3) → (¬ (xl5 < 0)) → (¬ (rn_bend N xl1 xl6 xl4 < rn_bend N xl1 xl5 xl4)) → ∀ M', rn_Jq G M' N n K → rn_WP 128 274 [rn_R 8, rn_I xl1, rn_I xl2, rn_I 1, rn_I xl4, rn_I xl5, rn_I (xl6 + 1), rn_I (rn_bend N xl1 xl6 xl4)] [] M' Q) (k5 : (¬ (xl2 + 1 < xl6 + xl4)) → (¬ (xl4 < 3)) → (xl5 < 0) → ∀ M', rn_Jq G M' N n K → rn_WP 128 274 [rn_R 8, rn_I xl1, rn_I xl2, rn_I 1, rn_I xl4, rn_I xl6, rn_I (xl6 + 1), rn_I (rn_bend N xl1 xl6 xl4)] [] M' Q) (k6 : (¬ (xl2 + 1 < xl6 + xl4)) → (¬ (xl4 < 3)) → (¬ (xl5 < 0)) → (rn_bend N xl1 xl6 xl4 < rn_bend N xl1 xl5 xl4) → ∀ M', rn_Jq G M' N n K → rn_WP 128 274 [rn_R 8, rn_I xl1, rn_I xl2, rn_I 1, rn_I xl4, rn_I xl6, rn_I (xl6 + 1), rn_I (rn_bend N xl1 xl6 xl4)] [] M' Q) (k7 : (¬ (xl2 + 1 < xl6 + xl4)) → (¬ (xl4 < 3)) → (¬ (xl5 < 0)) → (¬ (rn_bend N xl1 xl6 xl4 < rn_bend N xl1 xl5 xl4)) → ∀ M', rn_Jq G M' N n K → rn_WP 128 274 [rn_R 8, rn_I xl1, rn_I xl2, rn_I 1, rn_I xl4, rn_I xl5, rn_I (xl6 + 1), rn_I (rn_bend N xl1 xl6 xl4)] [] M' Q) : rn_WP 128 274 [rn_R 8, rn_I xl1, rn_I xl2, rn_I 1, rn_I xl4, rn_I xl5, rn_I xl6, vl7] [] M Q := by
  refine (rn_step (e := (.iload 6, 276, 6, 0, 0, 0, 0, [])) rfl).mpr ?_
  refine (rn_step (e := (.iload 4, 278, 4, 0, 0, 0, 0, [])) rfl).mpr ?_
  refine (rn_step (e := (.iadd, 279, 0, 0, 0, 0, 0, [])) rfl).mpr (rn_cw hr1.1 hr1.2.1 ?_)
  refine (rn_step (e := (.iload_n 2, 280, 2, 0, 0, 0, 0, [])) rfl).mpr ?_
  refine (rn_step (e := (.iconst 1, 281, 0, 0, 0, 0, 0, [])) rfl).mpr ?_
  refine (rn_step (e := (.iadd, 282, 0, 0, 0, 0, 0, [])) rfl).mpr (rn_cw hr1.2.2.1 hr1.2.2.2 ?_)
  refine (rn_step (e := (.if_icmp .gt 94, 285, 376, 0, 0, 0, 0, [])) rfl).mpr (And.intro (fun c1 => ?_) (fun c1 => ?_))
  ·
    refine (rn_step (e := (.iload_n 3, 377, 3, 0, 0, 0, 0, [])) rfl).mpr ?_
    refine (rn_step (e := (.ifCond .eq 19, 380, 396, 0, 0, 0, 0, [])) rfl).mpr (And.intro (fun q => absurd q (by decide)) (fun q => ?_))
    refine (rn_step (e := (.aload_n 0, 381, 0, 0, 0, 0, 0, [])) rfl).mpr ?_
    refine (rn_step (e := (.iload_n 1, 382, 1, 0, 0, 0, 0, [])) rfl).mpr ?_
    refine (rn_step (e := (.iload 4, 384, 4, 0, 0, 0, 0, [])) rfl).mpr ?_
    refine (rn_step (e := (.invokevirtual 82, 387, 114, 3, 692, 0, 10, [0])) rfl).mpr (And.intro ((rn_J8 J)) ((iq_straightest J ((hr2 c1).1) (fun M1 J1 => ?_))))
    refine (rn_step (e := (.iload 5, 389, 5, 0, 0, 0, 0, [])) rfl).mpr ?_
    refine (rn_step (e := (.if_icmp .ne 7, 392, 396, 0, 0, 0, 0, [])) rfl).mpr (And.intro (fun q => ?_) (fun q => absurd (hr2 c1).2.1 q))
    refine (rn_step (e := (.iconst 1, 393, 0, 0, 0, 0, 0, [])) rfl).mpr ?_
    refine (rn_step (e := (.goto 4, 396, 397, 0, 0, 0, 0, [])) rfl).mpr ?_
    refine (rn_step (e := (.istore_n 3, 398, 3, 0, 0, 1, 0, [])) rfl).mpr (And.intro (rn_lnq rfl rfl) (?_))
    refine (rn_step (e := (.iinc 4 3, 401, 4, 0, 0, 0, 0, [])) rfl).mpr (rn_ci (hr2 c1).2.2.1 (hr2 c1).2.2.2 ?_)
    refine (rn_step (e := (.goto (-145), 404, 256, 0, 0, 0, 0, [])) rfl).mpr ?_
    exact (k1 c1 M1 J1)
  ·
    refine (rn_step (e := (.iload_n 3, 286, 3, 0, 0, 0, 0, [])) rfl).mpr ?_
    refine (rn_step (e := (.ifCond .eq 90, 289, 376, 0, 0, 0, 0, [])) rfl).mpr (And.intro (fun q => absurd q (by decide)) (fun q => ?_))
    refine (rn_step (e := (.aload_n 0, 290, 0, 0, 0, 0, 0, [])) rfl).mpr ?_
    refine (rn_step (e := (.iload_n 1, 291, 1, 0, 0, 0, 0, [])) rfl).mpr ?_
    refine (rn_step (e := (.iload 6, 293, 6, 0, 0, 0, 0, [])) rfl).mpr ?_
    refine (rn_step (e := (.iload 4, 295, 4, 0, 0, 0, 0, [])) rfl).mpr ?_
    refine (rn_step (e := (.invokevirtual 78, 298, 113, 4, 687, 0, 10, [0])) rfl).mpr (And.intro ((rn_J8 J)) ((iq_bendV J ((hr3 c1)) (fun M2 J2 => ?_))))
    refine (rn_step (e := (.istore 7, 300, 7, 0, 0, 1, 0, [])) rfl).mpr (And.intro (rn_lnq rfl rfl) (?_))
    refine (rn_step (e := (.iload 4, 302, 4, 0, 0, 0, 0, [])) rfl).mpr ?_
    refine (rn_step (e := (.iconst 3, 303, 0, 0, 0, 0, 0, [])) rfl).mpr ?_
    refine (rn_step (e := (.if_icmp .lt 33, 306, 336, 0, 0, 0, 0, [])) rfl).mpr (And.intro (fun c2 => ?_) (fun c2 => ?_))
    ·
      refine (rn_step (e := (.iconst 1, 337, 0, 0, 0, 0, 0, [])) rfl).mpr ?_
      refine (rn_step (e := (.goto 4, 340, 341, 0, 0, 0, 0, [])) rfl).mpr ?_
      refine (rn_step (e := (.istore_n 3, 342, 3, 0, 0, 1, 0, [])) rfl).mpr (And.intro (rn_lnq rfl rfl) (?_))
      refine (rn_step (e := (.iload 5, 344, 5, 0, 0, 0, 0, [])) rfl).mpr ?_
      refine (rn_step (e := (.ifCond .lt 17, 347, 361, 0, 0, 0, 0, [])) rfl).mpr (And.intro (fun c3 => ?_) (fun c3 => ?_))
      ·
        refine (rn_step (e := (.iload 6, 363, 6, 0, 0, 0, 0, [])) rfl).mpr ?_
        refine (rn_step (e := (.goto 5, 366, 368, 0, 0, 0, 0, [])) rfl).mpr ?_
        refine (rn_step (e := (.istore 5, 370, 5, 0, 0, 1, 0, [])) rfl).mpr (And.intro (rn_lnq rfl rfl) (?_))
        refine (rn_step (e := (.iinc 6 1, 373, 6, 0, 0, 0, 0, [])) rfl).mpr (rn_ci (hr4 c1 c2 c3).1 (hr4 c1 c2 c3).2 ?_)
        refine (rn_step (e := (.goto (-99), 376, 274, 0, 0, 0, 0, [])) rfl).mpr ?_
        exact (k2 c1 c2 c3 M2 J2)
      ·
        refine (rn_step (e := (.iload 7, 349, 7, 0, 0, 0, 0, [])) rfl).mpr ?_
        refine (rn_step (e := (.aload_n 0, 350, 0, 0, 0, 0, 0, [])) rfl).mpr ?_
        refine (rn_step (e := (.iload_n 1, 351, 1, 0, 0, 0, 0, [])) rfl).mpr ?_
        refine (rn_step (e := (.iload 5, 353, 5, 0, 0, 0, 0, [])) rfl).mpr ?_
        refine (rn_step (e := (.iload 4, 355, 4, 0, 0, 0, 0, [])) rfl).mpr ?_
        refine (rn_step (e := (.invokevirtual 78, 358, 113, 4, 687, 0, 10, [0])) rfl).mpr (And.intro ((rn_J8 J2)) ((iq_bendV J2 ((hr5 c1 c2 c3)) (fun M3 J3 => ?_))))
        refine (rn_step (e := (.if_icmp .ge 8, 361, 366, 0, 0, 0, 0, [])) rfl).mpr (And.intro (fun c4 => ?_) (fun c4 => ?_))
        ·
          refine (rn_step (e := (.iload 6, 363, 6, 0, 0, 0, 0, [])) rfl).mpr ?_
          refine (rn_step (e := (.goto 5, 366, 368, 0, 0, 0, 0, [])) rfl).mpr ?_
          refine (rn_step (e := (.istore 5, 370, 5, 0, 0, 1, 0, [])) rfl).mpr (And.intro (rn_lnq rfl rfl) (?_))
          refine (rn_step (e := (.iinc 6 1, 373, 6, 0, 0, 0, 0, [])) rfl).mpr (rn_ci (hr6 c1 c2 c3 c4).1 (hr6 c1 c2 c3 c4).2 ?_)
          refine (rn_step (e := (.goto (-99), 376, 274, 0, 0, 0, 0, [])) rfl).mpr ?_
          exact (k3 c1 c2 c3 c4 M3 J3)
        ·
          refine (rn_step (e := (.iload 5, 368, 5, 0, 0, 0, 0, [])) rfl).mpr ?_
          refine (rn_step (e := (.istore 5, 370, 5, 0, 0, 1, 0, [])) rfl).mpr (And.intro (rn_lnq rfl rfl) (?_))
          refine (rn_step (e := (.iinc 6 1, 373, 6, 0, 0, 0, 0, [])) rfl).mpr (rn_ci (hr7 c1 c2 c3 c4).1 (hr7 c1 c2 c3 c4).2 ?_)
          refine (rn_step (e := (.goto (-99), 376, 274, 0, 0, 0, 0, [])) rfl).mpr ?_
          exact (k4 c1 c2 c3 c4 M3 J3)
    ·
      refine (rn_step (e := (.iload 7, 308, 7, 0, 0, 0, 0, [])) rfl).mpr ?_
      refine (rn_step (e := (.aload_n 0, 309, 0, 0, 0, 0, 0, [])) rfl).mpr ?_
      refine (rn_step (e := (.iload_n 1, 310, 1, 0, 0, 0, 0, [])) rfl).mpr ?_
      refine (rn_step (e := (.iload 6, 312, 6, 0, 0, 0, 0, [])) rfl).mpr ?_
      refine (rn_step (e := (.iload 4, 314, 4, 0, 0, 0, 0, [])) rfl).mpr ?_
      refine (rn_step (e := (.iconst 1, 315, 0, 0, 0, 0, 0, [])) rfl).mpr ?_
      refine (rn_step (e := (.isub, 316, 0, 0, 0, 0, 0, [])) rfl).mpr (rn_cw (hr8 c1 c2).1 (hr8 c1 c2).2.1 ?_)
      refine (rn_step (e := (.invokevirtual 78, 319, 113, 4, 687, 0, 10, [0])) rfl).mpr (And.intro ((rn_J8 J2)) ((iq_bendV J2 ((hr8 c1 c2).2.2.1) (fun M4 J4 => ?_))))
      refine (rn_step (e := (.aload_n 0, 320, 0, 0, 0, 0, 0, [])) rfl).mpr ?_
      refine (rn_step (e := (.iload_n 1, 321, 1, 0, 0, 0, 0, [])) rfl).mpr ?_
      refine (rn_step (e := (.iload 6, 323, 6, 0, 0, 0, 0, [])) rfl).mpr ?_
      refine (rn_step (e := (.iload 4, 325, 4, 0, 0, 0, 0, [])) rfl).mpr ?_
      refine (rn_step (e := (.iadd, 326, 0, 0, 0, 0, 0, [])) rfl).mpr (rn_cw (hr8 c1 c2).2.2.2.1 (hr8 c1 c2).2.2.2.2.1 ?_)
      refine (rn_step (e := (.iconst 3, 327, 0, 0, 0, 0, 0, [])) rfl).mpr ?_
      refine (rn_step (e := (.isub, 328, 0, 0, 0, 0, 0, [])) rfl).mpr (rn_cw (hr8 c1 c2).2.2.2.2.2.1 (hr8 c1 c2).2.2.2.2.2.2.1 ?_)
      refine (rn_step (e := (.iconst 3, 329, 0, 0, 0, 0, 0, [])) rfl).mpr ?_
      refine (rn_step (e := (.invokevirtual 78, 332, 113, 4, 687, 0, 10, [0])) rfl).mpr (And.intro ((rn_J8 J4)) ((iq_bendV J4 ((hr8 c1 c2).2.2.2.2.2.2.2.1) (fun M5 J5 => ?_))))
      refine (rn_step (e := (.iadd, 333, 0, 0, 0, 0, 0, [])) rfl).mpr (rn_cw (hr8 c1 c2).2.2.2.2.2.2.2.2.1 (hr8 c1 c2).2.2.2.2.2.2.2.2.2.1 ?_)
      refine (rn_step (e := (.if_icmp .ne 7, 336, 340, 0, 0, 0, 0, [])) rfl).mpr (And.intro (fun q => ?_) (fun q => absurd (hr8 c1 c2).2.2.2.2.2.2.2.2.2.2 q))
      refine (rn_step (e := (.iconst 1, 337, 0, 0, 0, 0, 0, [])) rfl).mpr ?_
      refine (rn_step (e := (.goto 4, 340, 341, 0, 0, 0, 0, [])) rfl).mpr ?_
      refine (rn_step (e := (.istore_n 3, 342, 3, 0, 0, 1, 0, [])) rfl).mpr (And.intro (rn_lnq rfl rfl) (?_))
      refine (rn_step (e := (.iload 5, 344, 5, 0, 0, 0, 0, [])) rfl).mpr ?_
      refine (rn_step (e := (.ifCond .lt 17, 347, 361, 0, 0, 0, 0, [])) rfl).mpr (And.intro (fun c3 => ?_) (fun c3 => ?_))
      ·
        refine (rn_step (e := (.iload 6, 363, 6, 0, 0, 0, 0, [])) rfl).mpr ?_
        refine (rn_step (e := (.goto 5, 366, 368, 0, 0, 0, 0, [])) rfl).mpr ?_
        refine (rn_step (e := (.istore 5, 370, 5, 0, 0, 1, 0, [])) rfl).mpr (And.intro (rn_lnq rfl rfl) (?_))
        refine (rn_step (e := (.iinc 6 1, 373, 6, 0, 0, 0, 0, [])) rfl).mpr (rn_ci (hr9 c1 c2 c3).1 (hr9 c1 c2 c3).2 ?_)
        refine (rn_step (e := (.goto (-99), 376, 274, 0, 0, 0, 0, [])) rfl).mpr ?_
        exact (k5 c1 c2 c3 M5 J5)
      ·
        refine (rn_step (e := (.iload 7, 349, 7, 0, 0, 0, 0, [])) rfl).mpr ?_
        refine (rn_step (e := (.aload_n 0, 350, 0, 0, 0, 0, 0, [])) rfl).mpr ?_
        refine (rn_step (e := (.iload_n 1, 351, 1, 0, 0, 0, 0, [])) rfl).mpr ?_
        refine (rn_step (e := (.iload 5, 353, 5, 0, 0, 0, 0, [])) rfl).mpr ?_
        refine (rn_step (e := (.iload 4, 355, 4, 0, 0, 0, 0, [])) rfl).mpr ?_
        refine (rn_step (e := (.invokevirtual 78, 358, 113, 4, 687, 0, 10, [0])) rfl).mpr (And.intro ((rn_J8 J5)) ((iq_bendV J5 ((hr10 c1 c2 c3)) (fun M6 J6 => ?_))))
        refine (rn_step (e := (.if_icmp .ge 8, 361, 366, 0, 0, 0, 0, [])) rfl).mpr (And.intro (fun c4 => ?_) (fun c4 => ?_))
        ·
          refine (rn_step (e := (.iload 6, 363, 6, 0, 0, 0, 0, [])) rfl).mpr ?_
          refine (rn_step (e := (.goto 5, 366, 368, 0, 0, 0, 0, [])) rfl).mpr ?_
          refine (rn_step (e := (.istore 5, 370, 5, 0, 0, 1, 0, [])) rfl).mpr (And.intro (rn_lnq rfl rfl) (?_))
          refine (rn_step (e := (.iinc 6 1, 373, 6, 0, 0, 0, 0, [])) rfl).mpr (rn_ci (hr11 c1 c2 c3 c4).1 (hr11 c1 c2 c3 c4).2 ?_)
          refine (rn_step (e := (.goto (-99), 376, 274, 0, 0, 0, 0, [])) rfl).mpr ?_
          exact (k6 c1 c2 c3 c4 M6 J6)
        ·
          refine (rn_step (e := (.iload 5, 368, 5, 0, 0, 0, 0, [])) rfl).mpr ?_
          refine (rn_step (e := (.istore 5, 370, 5, 0, 0, 1, 0, [])) rfl).mpr (And.intro (rn_lnq rfl rfl) (?_))
          refine (rn_step (e := (.iinc 6 1, 373, 6, 0, 0, 0, 0, [])) rfl).mpr (rn_ci (hr12 c1 c2 c3 c4).1 (hr12 c1 c2 c3 c4).2 ?_)
          refine (rn_step (e := (.goto (-99), 376, 274, 0, 0, 0, 0, [])) rfl).mpr ?_
          exact (k7 c1 c2 c3 c4 M6 J6)
