theorem re_Lw_print {M : rn_M} {Q : rn_Q} {v0 : rn_V} (h : rn_WP 126 0 [v0, rn_J, rn_J, rn_J, rn_J] [] M Q) : rn_ME 126 [v0] M Q := h
set_option maxRecDepth 4000 in
theorem rb_Lw_print_0 {M : rn_M} {Q : rn_Q} {G : Nat × (Nat → Int)} {N : Nat → Int} {n : Int} {K : Nat → Nat → Int} {vl1 : rn_V} {vl2 : rn_V} {vl3 : rn_V} {vl4 : rn_V} (J : rn_Jq G M N n K)   (k1 : ∀ M', rn_Jq G M' N n K → rn_WP 126 6 [rn_R 8, rn_G (Int64.ofNat 83), rn_J, rn_I 0, vl4] [] M' Q) : rn_WP 126 0 [rn_R 8, vl1, vl2, vl3, vl4] [] M Q := by
  refine (rn_step (e := (.ldc2_w 9, 3, 83, 0, 424, 0, 0, [])) rfl).mpr ?_
  refine (rn_step (e := (.lstore_n 1, 4, 1, 0, 0, 1, 0, [])) rfl).mpr (And.intro (rn_lnq rfl rfl) (?_))
  refine (rn_step (e := (.iconst 0, 5, 0, 0, 0, 0, 0, [])) rfl).mpr ?_
  refine (rn_step (e := (.istore_n 3, 6, 3, 0, 0, 1, 0, [])) rfl).mpr (And.intro (rn_lnq rfl rfl) (?_))
  exact (k1 M J)
set_option maxRecDepth 4000 in
theorem rb_Lw_print_6 {M : rn_M} {Q : rn_Q} {G : Nat × (Nat → Int)} {N : Nat → Int} {n : Int} {K : Nat → Nat → Int} {gl1 : Int64} {vl2 : rn_V} {xl3 : Int} {vl4 : rn_V} (J : rn_Jq G M N n K)  (h1 : rn_ca vl2 = 1) (hr1 : (xl3 < 8) → xl3 < 8 ∧ (-2147483648 : Int) ≤ xl3 + 1 ∧ xl3 + 1 ≤ 2147483647) (k1 : (xl3 < 8) → ∀ M', rn_Jq G M' N n K → rn_WP 126 6 [rn_R 8, rn_G (((Int64.ofNat 31) * gl1) + (rn_i2l (rn_aCount N 0 0 xl3))), rn_J, rn_I (xl3 + 1), vl4] [] M' Q) (k2 : (¬ (xl3 < 8)) → ∀ M', rn_Jq G M' N n K → rn_WP 126 33 [rn_R 8, rn_G gl1, vl2, rn_I 0, vl4] [] M' Q) : rn_WP 126 6 [rn_R 8, rn_G gl1, vl2, rn_I xl3, vl4] [] M Q := by
  refine (rn_step (e := (.iload_n 3, 7, 3, 0, 0, 0, 0, [])) rfl).mpr ?_
  refine (rn_step (e := (.bipush 8, 9, 0, 0, 0, 0, 0, [])) rfl).mpr ?_
  refine (rn_step (e := (.if_icmp .ge 22, 12, 31, 0, 0, 0, 0, [])) rfl).mpr (And.intro (fun c1 => ?_) (fun c1 => ?_))
  ·
    refine (rn_step (e := (.ldc2_w 11, 15, 31, 0, 425, 0, 0, [])) rfl).mpr ?_
    refine (rn_step (e := (.lload_n 1, 16, 1, 0, 0, 0, 0, [])) rfl).mpr ?_
    refine (rn_step (e := (.lmul, 17, 0, 0, 0, 0, 0, [])) rfl).mpr ?_
    refine (rn_step (e := (.aload_n 0, 18, 0, 0, 0, 0, 0, [])) rfl).mpr ?_
    refine (rn_step (e := (.iload_n 3, 19, 3, 0, 0, 0, 0, [])) rfl).mpr ?_
    refine (rn_step (e := (.invokevirtual 13, 22, 106, 2, 276, 0, 10, [0])) rfl).mpr (And.intro ((rn_J8 J)) ((iq_count J ((hr1 c1).1) (fun M1 J1 => ?_))))
    refine (rn_step (e := (.i2l, 23, 0, 0, 0, 0, 0, [])) rfl).mpr ?_
    refine (rn_step (e := (.ladd, 24, 0, 0, 0, 0, 0, [])) rfl).mpr ?_
    refine (rn_step (e := (.lstore_n 1, 25, 1, 0, 0, 1, 0, [])) rfl).mpr (And.intro (rn_lnq rfl rfl) (?_))
    refine (rn_step (e := (.iinc 3 1, 28, 3, 0, 0, 0, 0, [])) rfl).mpr (rn_ci (hr1 c1).2.1 (hr1 c1).2.2 ?_)
    refine (rn_step (e := (.goto (-22), 31, 6, 0, 0, 0, 0, [])) rfl).mpr ?_
    exact (k1 c1 M1 J1)
  ·
    refine (rn_step (e := (.iconst 0, 32, 0, 0, 0, 0, 0, [])) rfl).mpr ?_
    refine (rn_step (e := (.istore_n 3, 33, 3, 0, 0, 1, 0, [])) rfl).mpr (And.intro (rn_lnq rfl h1) (?_))
    exact (k2 c1 M J)
set_option maxRecDepth 4000 in
theorem rb_Lw_print_33 {M : rn_M} {Q : rn_Q} {G : Nat × (Nat → Int)} {N : Nat → Int} {n : Int} {K : Nat → Nat → Int} {vl1 : rn_V} {vl2 : rn_V} {xl3 : Int} {vl4 : rn_V} (J : rn_Jq G M N n K)  (h1 : rn_ca vl2 = 1) (k1 : (xl3 < 6) → ∀ M', rn_Jq G M' N n K → rn_WP 126 42 [rn_R 8, vl1, vl2, rn_I xl3, rn_I 0] [] M' Q) (k2 : (¬ (xl3 < 6)) → ∀ M', rn_Jq G M' N n K → rn_WP 126 137 [rn_R 8, vl1, vl2, rn_I 0, vl4] [] M' Q) : rn_WP 126 33 [rn_R 8, vl1, vl2, rn_I xl3, vl4] [] M Q := by
  refine (rn_step (e := (.iload_n 3, 34, 3, 0, 0, 0, 0, [])) rfl).mpr ?_
  refine (rn_step (e := (.bipush 6, 36, 0, 0, 0, 0, 0, [])) rfl).mpr ?_
  refine (rn_step (e := (.if_icmp .ge 99, 39, 135, 0, 0, 0, 0, [])) rfl).mpr (And.intro (fun c1 => ?_) (fun c1 => ?_))
  ·
    refine (rn_step (e := (.iconst 0, 40, 0, 0, 0, 0, 0, [])) rfl).mpr ?_
    refine (rn_step (e := (.istore 4, 42, 4, 0, 0, 1, 0, [])) rfl).mpr (And.intro (rn_lnq rfl rfl) (?_))
    exact (k1 c1 M J)
  ·
    refine (rn_step (e := (.iconst 0, 136, 0, 0, 0, 0, 0, [])) rfl).mpr ?_
    refine (rn_step (e := (.istore_n 3, 137, 3, 0, 0, 1, 0, [])) rfl).mpr (And.intro (rn_lnq rfl h1) (?_))
    exact (k2 c1 M J)
set_option maxRecDepth 4000 in
theorem rb_Lw_print_42 {M : rn_M} {Q : rn_Q} {G : Nat × (Nat → Int)} {N : Nat → Int} {n : Int} {K : Nat → Nat → Int} {gl1 : Int64} {vl2 : rn_V} {xl3 : Int} {xl4 : Int} (J : rn_Jq G M N n K)   (hr1 : (xl4 < 7) → (-2147483648 : Int) ≤ xl4 + 1 ∧ xl4 + 1 ≤ 2147483647) (k1 : (xl4 < 7) → ∀ M', rn_Jq G M' N n K → rn_WP 126 42 [rn_R 8, rn_G (((Int64.ofNat 31) * gl1) + (rn_i2l (rn_aRiver N xl3 xl4))), rn_J, rn_I xl3, rn_I (xl4 + 1)] [] M' Q) (k2 : (¬ (xl4 < 7)) → ∀ M', rn_Jq G M' N n K → rn_WP 126 73 [rn_R 8, rn_G gl1, vl2, rn_I xl3, rn_I 0] [] M' Q) : rn_WP 126 42 [rn_R 8, rn_G gl1, vl2, rn_I xl3, rn_I xl4] [] M Q := by
  refine (rn_step (e := (.iload 4, 44, 4, 0, 0, 0, 0, [])) rfl).mpr ?_
  refine (rn_step (e := (.bipush 7, 46, 0, 0, 0, 0, 0, [])) rfl).mpr ?_
  refine (rn_step (e := (.if_icmp .ge 24, 49, 70, 0, 0, 0, 0, [])) rfl).mpr (And.intro (fun c1 => ?_) (fun c1 => ?_))
  ·
    refine (rn_step (e := (.ldc2_w 11, 52, 31, 0, 425, 0, 0, [])) rfl).mpr ?_
    refine (rn_step (e := (.lload_n 1, 53, 1, 0, 0, 0, 0, [])) rfl).mpr ?_
    refine (rn_step (e := (.lmul, 54, 0, 0, 0, 0, 0, [])) rfl).mpr ?_
    refine (rn_step (e := (.aload_n 0, 55, 0, 0, 0, 0, 0, [])) rfl).mpr ?_
    refine (rn_step (e := (.iload_n 3, 56, 3, 0, 0, 0, 0, [])) rfl).mpr ?_
    refine (rn_step (e := (.iload 4, 58, 4, 0, 0, 0, 0, [])) rfl).mpr ?_
    refine (rn_step (e := (.invokevirtual 19, 61, 107, 3, 426, 0, 10, [0])) rfl).mpr (And.intro ((rn_J8 J)) ((iq_river J  (fun M1 J1 => ?_))))
    refine (rn_step (e := (.i2l, 62, 0, 0, 0, 0, 0, [])) rfl).mpr ?_
    refine (rn_step (e := (.ladd, 63, 0, 0, 0, 0, 0, [])) rfl).mpr ?_
    refine (rn_step (e := (.lstore_n 1, 64, 1, 0, 0, 1, 0, [])) rfl).mpr (And.intro (rn_lnq rfl rfl) (?_))
    refine (rn_step (e := (.iinc 4 1, 67, 4, 0, 0, 0, 0, [])) rfl).mpr (rn_ci (hr1 c1).1 (hr1 c1).2 ?_)
    refine (rn_step (e := (.goto (-25), 70, 42, 0, 0, 0, 0, [])) rfl).mpr ?_
    exact (k1 c1 M1 J1)
  ·
    refine (rn_step (e := (.iconst 0, 71, 0, 0, 0, 0, 0, [])) rfl).mpr ?_
    refine (rn_step (e := (.istore 4, 73, 4, 0, 0, 1, 0, [])) rfl).mpr (And.intro (rn_lnq rfl rfl) (?_))
    exact (k2 c1 M J)
set_option maxRecDepth 4000 in
theorem rb_Lw_print_73 {M : rn_M} {Q : rn_Q} {G : Nat × (Nat → Int)} {N : Nat → Int} {n : Int} {K : Nat → Nat → Int} {gl1 : Int64} {vl2 : rn_V} {xl3 : Int} {xl4 : Int} (J : rn_Jq G M N n K)   (hr1 : (xl4 < 12) → (-2147483648 : Int) ≤ 5 * xl4 ∧ 5 * xl4 ≤ 2147483647 ∧ (-2147483648 : Int) ≤ xl4 + 1 ∧ xl4 + 1 ≤ 2147483647) (hr2 : (¬ (xl4 < 12)) → (-2147483648 : Int) ≤ xl3 + 1 ∧ xl3 + 1 ≤ 2147483647) (k1 : (xl4 < 12) → ∀ M', rn_Jq G M' N n K → rn_WP 126 73 [rn_R 8, rn_G (((Int64.ofNat 31) * (((Int64.ofNat 31) * (((Int64.ofNat 31) * gl1) + (rn_i2l (rn_aLetter N xl3 xl4)))) + (rn_i2l (rn_aCell N xl3 xl4)))) + (rn_i2l (rn_aCell N xl3 (5 * xl4)))), rn_J, rn_I xl3, rn_I (xl4 + 1)] [] M' Q) (k2 : (¬ (xl4 < 12)) → ∀ M', rn_Jq G M' N n K → rn_WP 126 33 [rn_R 8, rn_G gl1, vl2, rn_I (xl3 + 1), rn_I xl4] [] M' Q) : rn_WP 126 73 [rn_R 8, rn_G gl1, vl2, rn_I xl3, rn_I xl4] [] M Q := by
  refine (rn_step (e := (.iload 4, 75, 4, 0, 0, 0, 0, [])) rfl).mpr ?_
  refine (rn_step (e := (.bipush 12, 77, 0, 0, 0, 0, 0, [])) rfl).mpr ?_
  refine (rn_step (e := (.if_icmp .ge 52, 80, 129, 0, 0, 0, 0, [])) rfl).mpr (And.intro (fun c1 => ?_) (fun c1 => ?_))
  ·
    refine (rn_step (e := (.ldc2_w 11, 83, 31, 0, 425, 0, 0, [])) rfl).mpr ?_
    refine (rn_step (e := (.ldc2_w 11, 86, 31, 0, 425, 0, 0, [])) rfl).mpr ?_
    refine (rn_step (e := (.ldc2_w 11, 89, 31, 0, 425, 0, 0, [])) rfl).mpr ?_
    refine (rn_step (e := (.lload_n 1, 90, 1, 0, 0, 0, 0, [])) rfl).mpr ?_
    refine (rn_step (e := (.lmul, 91, 0, 0, 0, 0, 0, [])) rfl).mpr ?_
    refine (rn_step (e := (.aload_n 0, 92, 0, 0, 0, 0, 0, [])) rfl).mpr ?_
    refine (rn_step (e := (.iload_n 3, 93, 3, 0, 0, 0, 0, [])) rfl).mpr ?_
    refine (rn_step (e := (.iload 4, 95, 4, 0, 0, 0, 0, [])) rfl).mpr ?_
    refine (rn_step (e := (.invokevirtual 23, 98, 109, 3, 441, 0, 10, [0])) rfl).mpr (And.intro ((rn_J8 J)) ((iq_letter J  (fun M1 J1 => ?_))))
    refine (rn_step (e := (.i2l, 99, 0, 0, 0, 0, 0, [])) rfl).mpr ?_
    refine (rn_step (e := (.ladd, 100, 0, 0, 0, 0, 0, [])) rfl).mpr ?_
    refine (rn_step (e := (.lmul, 101, 0, 0, 0, 0, 0, [])) rfl).mpr ?_
    refine (rn_step (e := (.aload_n 0, 102, 0, 0, 0, 0, 0, [])) rfl).mpr ?_
    refine (rn_step (e := (.iload_n 3, 103, 3, 0, 0, 0, 0, [])) rfl).mpr ?_
    refine (rn_step (e := (.iload 4, 105, 4, 0, 0, 0, 0, [])) rfl).mpr ?_
    refine (rn_step (e := (.invokevirtual 26, 108, 108, 3, 450, 0, 10, [0])) rfl).mpr (And.intro ((rn_J8 J1)) ((iq_cell J1  (fun M2 J2 => ?_))))
    refine (rn_step (e := (.i2l, 109, 0, 0, 0, 0, 0, [])) rfl).mpr ?_
    refine (rn_step (e := (.ladd, 110, 0, 0, 0, 0, 0, [])) rfl).mpr ?_
    refine (rn_step (e := (.lmul, 111, 0, 0, 0, 0, 0, [])) rfl).mpr ?_
    refine (rn_step (e := (.aload_n 0, 112, 0, 0, 0, 0, 0, [])) rfl).mpr ?_
    refine (rn_step (e := (.iload_n 3, 113, 3, 0, 0, 0, 0, [])) rfl).mpr ?_
    refine (rn_step (e := (.iconst 5, 114, 0, 0, 0, 0, 0, [])) rfl).mpr ?_
    refine (rn_step (e := (.iload 4, 116, 4, 0, 0, 0, 0, [])) rfl).mpr ?_
    refine (rn_step (e := (.imul, 117, 0, 0, 0, 0, 0, [])) rfl).mpr (rn_cw (hr1 c1).1 (hr1 c1).2.1 ?_)
    refine (rn_step (e := (.invokevirtual 26, 120, 108, 3, 450, 0, 10, [0])) rfl).mpr (And.intro ((rn_J8 J2)) ((iq_cell J2  (fun M3 J3 => ?_))))
    refine (rn_step (e := (.i2l, 121, 0, 0, 0, 0, 0, [])) rfl).mpr ?_
    refine (rn_step (e := (.ladd, 122, 0, 0, 0, 0, 0, [])) rfl).mpr ?_
    refine (rn_step (e := (.lstore_n 1, 123, 1, 0, 0, 1, 0, [])) rfl).mpr (And.intro (rn_lnq rfl rfl) (?_))
    refine (rn_step (e := (.iinc 4 1, 126, 4, 0, 0, 0, 0, [])) rfl).mpr (rn_ci (hr1 c1).2.2.1 (hr1 c1).2.2.2 ?_)
    refine (rn_step (e := (.goto (-53), 129, 73, 0, 0, 0, 0, [])) rfl).mpr ?_
    exact (k1 c1 M3 J3)
  ·
    refine (rn_step (e := (.iinc 3 1, 132, 3, 0, 0, 0, 0, [])) rfl).mpr (rn_ci (hr2 c1).1 (hr2 c1).2 ?_)
    refine (rn_step (e := (.goto (-99), 135, 33, 0, 0, 0, 0, [])) rfl).mpr ?_
    exact (k2 c1 M J)
set_option maxRecDepth 4000 in
theorem rb_Lw_print_137 {M : rn_M} {Q : rn_Q} {G : Nat × (Nat → Int)} {N : Nat → Int} {n : Int} {K : Nat → Nat → Int} {gl1 : Int64} {vl2 : rn_V} {xl3 : Int} {vl4 : rn_V} (J : rn_Jq G M N n K)   (hr1 : (xl3 < 20) → (0 : Int) ≤ xl3 ∧ (-2147483648 : Int) ≤ xl3 + 1 ∧ xl3 + 1 ≤ 2147483647) (k1 : (xl3 < 20) → ∀ M', rn_Jq G M' N n K → rn_WP 126 137 [rn_R 8, rn_G (((Int64.ofNat 31) * (((Int64.ofNat 31) * (((Int64.ofNat 31) * (((Int64.ofNat 31) * (((Int64.ofNat 31) * gl1) + (rn_i2l (rn_aLabel N xl3 0)))) + (rn_i2l (rn_aLabel N xl3 1)))) + (rn_i2l (rn_aTown N xl3 (xl3 % 6))))) + (rn_i2l (rn_aTown N xl3 4)))) + (rn_i2l (rn_aTown N xl3 2))), rn_J, rn_I (xl3 + 1), vl4] [] M' Q) (k2 : (¬ (xl3 < 20)) → ∀ M', rn_Jq G M' N n K → Q (some (rn_G gl1)) M') : rn_WP 126 137 [rn_R 8, rn_G gl1, vl2, rn_I xl3, vl4] [] M Q := by
  refine (rn_step (e := (.iload_n 3, 138, 3, 0, 0, 0, 0, [])) rfl).mpr ?_
  refine (rn_step (e := (.bipush 20, 140, 0, 0, 0, 0, 0, [])) rfl).mpr ?_
  refine (rn_step (e := (.if_icmp .ge 76, 143, 216, 0, 0, 0, 0, [])) rfl).mpr (And.intro (fun c1 => ?_) (fun c1 => ?_))
  ·
    refine (rn_step (e := (.ldc2_w 11, 146, 31, 0, 425, 0, 0, [])) rfl).mpr ?_
    refine (rn_step (e := (.ldc2_w 11, 149, 31, 0, 425, 0, 0, [])) rfl).mpr ?_
    refine (rn_step (e := (.ldc2_w 11, 152, 31, 0, 425, 0, 0, [])) rfl).mpr ?_
    refine (rn_step (e := (.lload_n 1, 153, 1, 0, 0, 0, 0, [])) rfl).mpr ?_
    refine (rn_step (e := (.lmul, 154, 0, 0, 0, 0, 0, [])) rfl).mpr ?_
    refine (rn_step (e := (.aload_n 0, 155, 0, 0, 0, 0, 0, [])) rfl).mpr ?_
    refine (rn_step (e := (.iload_n 3, 156, 3, 0, 0, 0, 0, [])) rfl).mpr ?_
    refine (rn_step (e := (.iconst 0, 157, 0, 0, 0, 0, 0, [])) rfl).mpr ?_
    refine (rn_step (e := (.invokevirtual 29, 160, 111, 3, 461, 0, 10, [0])) rfl).mpr (And.intro ((rn_J8 J)) ((iq_label J  (fun M1 J1 => ?_))))
    refine (rn_step (e := (.i2l, 161, 0, 0, 0, 0, 0, [])) rfl).mpr ?_
    refine (rn_step (e := (.ladd, 162, 0, 0, 0, 0, 0, [])) rfl).mpr ?_
    refine (rn_step (e := (.lmul, 163, 0, 0, 0, 0, 0, [])) rfl).mpr ?_
    refine (rn_step (e := (.aload_n 0, 164, 0, 0, 0, 0, 0, [])) rfl).mpr ?_
    refine (rn_step (e := (.iload_n 3, 165, 3, 0, 0, 0, 0, [])) rfl).mpr ?_
    refine (rn_step (e := (.iconst 1, 166, 0, 0, 0, 0, 0, [])) rfl).mpr ?_
    refine (rn_step (e := (.invokevirtual 29, 169, 111, 3, 461, 0, 10, [0])) rfl).mpr (And.intro ((rn_J8 J1)) ((iq_label J1  (fun M2 J2 => ?_))))
    refine (rn_step (e := (.i2l, 170, 0, 0, 0, 0, 0, [])) rfl).mpr ?_
    refine (rn_step (e := (.ladd, 171, 0, 0, 0, 0, 0, [])) rfl).mpr ?_
    refine (rn_step (e := (.lmul, 172, 0, 0, 0, 0, 0, [])) rfl).mpr ?_
    refine (rn_step (e := (.aload_n 0, 173, 0, 0, 0, 0, 0, [])) rfl).mpr ?_
    refine (rn_step (e := (.iload_n 3, 174, 3, 0, 0, 0, 0, [])) rfl).mpr ?_
    refine (rn_step (e := (.iload_n 3, 175, 3, 0, 0, 0, 0, [])) rfl).mpr ?_
    refine (rn_step (e := (.bipush 6, 177, 0, 0, 0, 0, 0, [])) rfl).mpr ?_
    refine (rn_step (e := (.irem, 178, 0, 0, 0, 0, 0, [])) rfl).mpr (And.intro ((hr1 c1).1) (And.intro ((by decide)) (?_)))
    refine (rn_step (e := (.invokevirtual 32, 181, 110, 3, 488, 0, 10, [0])) rfl).mpr (And.intro ((rn_J8 J2)) ((iq_town J2  (fun M3 J3 => ?_))))
    refine (rn_step (e := (.i2l, 182, 0, 0, 0, 0, 0, [])) rfl).mpr ?_
    refine (rn_step (e := (.ladd, 183, 0, 0, 0, 0, 0, [])) rfl).mpr ?_
    refine (rn_step (e := (.lstore_n 1, 184, 1, 0, 0, 1, 0, [])) rfl).mpr (And.intro (rn_lnq rfl rfl) (?_))
    refine (rn_step (e := (.ldc2_w 11, 187, 31, 0, 425, 0, 0, [])) rfl).mpr ?_
    refine (rn_step (e := (.ldc2_w 11, 190, 31, 0, 425, 0, 0, [])) rfl).mpr ?_
    refine (rn_step (e := (.lload_n 1, 191, 1, 0, 0, 0, 0, [])) rfl).mpr ?_
    refine (rn_step (e := (.lmul, 192, 0, 0, 0, 0, 0, [])) rfl).mpr ?_
    refine (rn_step (e := (.aload_n 0, 193, 0, 0, 0, 0, 0, [])) rfl).mpr ?_
    refine (rn_step (e := (.iload_n 3, 194, 3, 0, 0, 0, 0, [])) rfl).mpr ?_
    refine (rn_step (e := (.iconst 4, 195, 0, 0, 0, 0, 0, [])) rfl).mpr ?_
    refine (rn_step (e := (.invokevirtual 32, 198, 110, 3, 488, 0, 10, [0])) rfl).mpr (And.intro ((rn_J8 J3)) ((iq_town J3  (fun M4 J4 => ?_))))
    refine (rn_step (e := (.i2l, 199, 0, 0, 0, 0, 0, [])) rfl).mpr ?_
    refine (rn_step (e := (.ladd, 200, 0, 0, 0, 0, 0, [])) rfl).mpr ?_
    refine (rn_step (e := (.lmul, 201, 0, 0, 0, 0, 0, [])) rfl).mpr ?_
    refine (rn_step (e := (.aload_n 0, 202, 0, 0, 0, 0, 0, [])) rfl).mpr ?_
    refine (rn_step (e := (.iload_n 3, 203, 3, 0, 0, 0, 0, [])) rfl).mpr ?_
    refine (rn_step (e := (.iconst 2, 204, 0, 0, 0, 0, 0, [])) rfl).mpr ?_
    refine (rn_step (e := (.invokevirtual 32, 207, 110, 3, 488, 0, 10, [0])) rfl).mpr (And.intro ((rn_J8 J4)) ((iq_town J4  (fun M5 J5 => ?_))))
    refine (rn_step (e := (.i2l, 208, 0, 0, 0, 0, 0, [])) rfl).mpr ?_
    refine (rn_step (e := (.ladd, 209, 0, 0, 0, 0, 0, [])) rfl).mpr ?_
    refine (rn_step (e := (.lstore_n 1, 210, 1, 0, 0, 1, 0, [])) rfl).mpr (And.intro (rn_lnq rfl rfl) (?_))
    refine (rn_step (e := (.iinc 3 1, 213, 3, 0, 0, 0, 0, [])) rfl).mpr (rn_ci (hr1 c1).2.1 (hr1 c1).2.2 ?_)
    refine (rn_step (e := (.goto (-76), 216, 137, 0, 0, 0, 0, [])) rfl).mpr ?_
    exact (k1 c1 M5 J5)
  ·
    refine (rn_step (e := (.lload_n 1, 217, 1, 0, 0, 0, 0, [])) rfl).mpr ?_
    exact (rn_step (e := (.lreturn, 218, 0, 0, 0, 0, 0, [])) rfl).mpr (k2 c1 M J)
