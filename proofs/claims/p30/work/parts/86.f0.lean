theorem re_Lw_areLabels {M : rn_M} {Q : rn_Q} {v0 : rn_V} (h : rn_WP 130 0 [v0, rn_J, rn_J, rn_J, rn_J, rn_J, rn_J, rn_J, rn_J, rn_J, rn_J, rn_J, rn_J, rn_J, rn_J, rn_J, rn_J] [] M Q) : rn_ME 130 [v0] M Q := h
set_option maxRecDepth 4000 in
theorem rb_Lw_areLabels_0 {M : rn_M} {Q : rn_Q} {G : Nat × (Nat → Int)} {N : Nat → Int} {n : Int} {K : Nat → Nat → Int} {vl1 : rn_V} {vl2 : rn_V} {vl3 : rn_V} {vl4 : rn_V} {vl5 : rn_V} {vl6 : rn_V} {vl7 : rn_V} {vl8 : rn_V} {vl9 : rn_V} {vl10 : rn_V} {vl11 : rn_V} {vl12 : rn_V} {vl13 : rn_V} {vl14 : rn_V} {vl15 : rn_V} {vl16 : rn_V} (J : rn_Jq G M N n K)   (k1 : ∀ M', rn_Jq G M' N n K → rn_WP 130 15 [rn_R 8, rn_I 0, rn_I 0, rn_I 0, rn_I 0, rn_I 1, rn_I 0, vl7, vl8, vl9, vl10, vl11, vl12, vl13, vl14, vl15, vl16] [] M' Q) : rn_WP 130 0 [rn_R 8, vl1, vl2, vl3, vl4, vl5, vl6, vl7, vl8, vl9, vl10, vl11, vl12, vl13, vl14, vl15, vl16] [] M Q := by
  refine (rn_step (e := (.iconst 0, 1, 0, 0, 0, 0, 0, [])) rfl).mpr ?_
  refine (rn_step (e := (.istore_n 1, 2, 1, 0, 0, 1, 0, [])) rfl).mpr (And.intro (rn_lnq rfl rfl) (?_))
  refine (rn_step (e := (.iconst 0, 3, 0, 0, 0, 0, 0, [])) rfl).mpr ?_
  refine (rn_step (e := (.istore_n 2, 4, 2, 0, 0, 1, 0, [])) rfl).mpr (And.intro (rn_lnq rfl rfl) (?_))
  refine (rn_step (e := (.iconst 0, 5, 0, 0, 0, 0, 0, [])) rfl).mpr ?_
  refine (rn_step (e := (.istore_n 3, 6, 3, 0, 0, 1, 0, [])) rfl).mpr (And.intro (rn_lnq rfl rfl) (?_))
  refine (rn_step (e := (.iconst 0, 7, 0, 0, 0, 0, 0, [])) rfl).mpr ?_
  refine (rn_step (e := (.istore 4, 9, 4, 0, 0, 1, 0, [])) rfl).mpr (And.intro (rn_lnq rfl rfl) (?_))
  refine (rn_step (e := (.iconst 1, 10, 0, 0, 0, 0, 0, [])) rfl).mpr ?_
  refine (rn_step (e := (.istore 5, 12, 5, 0, 0, 1, 0, [])) rfl).mpr (And.intro (rn_lnq rfl rfl) (?_))
  refine (rn_step (e := (.iconst 0, 13, 0, 0, 0, 0, 0, [])) rfl).mpr ?_
  refine (rn_step (e := (.istore 6, 15, 6, 0, 0, 1, 0, [])) rfl).mpr (And.intro (rn_lnq rfl rfl) (?_))
  exact (k1 M J)
set_option maxRecDepth 4000 in
theorem rb_Lw_areLabels_15 {M : rn_M} {Q : rn_Q} {G : Nat × (Nat → Int)} {N : Nat → Int} {n : Int} {K : Nat → Nat → Int} {xl1 : Int} {xl2 : Int} {vl3 : rn_V} {vl4 : rn_V} {xl6 : Int} {vl7 : rn_V} {vl8 : rn_V} {vl9 : rn_V} {vl10 : rn_V} {vl11 : rn_V} {vl12 : rn_V} {vl13 : rn_V} {vl14 : rn_V} {vl15 : rn_V} {vl16 : rn_V} (J : rn_Jq G M N n K)   (hr1 : (xl6 < N 2) → ((0 : Int) ≤ xl6 ∧ xl6 < N 2) ∧ ((0 : Int) ≤ rn_lb N xl6 0 ∧ rn_lb N xl6 0 < N 0) ∧ (-2147483648 : Int) ≤ 2 * (rn_o N (rn_lb N xl6 0) 2) ∧ 2 * (rn_o N (rn_lb N xl6 0) 2) ≤ 2147483647 ∧ (-2147483648 : Int) ≤ (2 * (rn_o N (rn_lb N xl6 0) 2)) + 1 ∧ (2 * (rn_o N (rn_lb N xl6 0) 2)) + 1 ≤ 2147483647 ∧ (-2147483648 : Int) ≤ xl1 + (rn_cost N (rn_lb N xl6 0) (rn_lb N xl6 1)) ∧ xl1 + (rn_cost N (rn_lb N xl6 0) (rn_lb N xl6 1)) ≤ 2147483647) (hr2 : (xl6 < N 2) → (rn_why N (rn_lb N xl6 0) (rn_lb N xl6 1) (rn_o N (rn_lb N xl6 0) 1) xl6 ≤ 0) → (-2147483648 : Int) ≤ xl2 + 0 ∧ xl2 + 0 ≤ 2147483647) (hr3 : (xl6 < N 2) → (¬ (rn_why N (rn_lb N xl6 0) (rn_lb N xl6 1) (rn_o N (rn_lb N xl6 0) 1) xl6 ≤ 0)) → (-2147483648 : Int) ≤ xl2 + 1 ∧ xl2 + 1 ≤ 2147483647) (k1 : (xl6 < N 2) → (rn_why N (rn_lb N xl6 0) (rn_lb N xl6 1) (rn_o N (rn_lb N xl6 0) 1) xl6 ≤ 0) → ∀ M', rn_Jq G M' N n K → rn_WP 130 99 [rn_R 8, rn_I (xl1 + (rn_cost N (rn_lb N xl6 0) (rn_lb N xl6 1))), rn_I (xl2 + 0), vl3, vl4, rn_I 1, rn_I xl6, rn_I (rn_lb N xl6 0), rn_I (rn_lb N xl6 1), rn_I (rn_o N (rn_lb N xl6 0) 0), rn_I ((2 * (rn_o N (rn_lb N xl6 0) 2)) + 1), vl11, vl12, vl13, vl14, vl15, vl16] [] M' Q) (k2 : (xl6 < N 2) → (¬ (rn_why N (rn_lb N xl6 0) (rn_lb N xl6 1) (rn_o N (rn_lb N xl6 0) 1) xl6 ≤ 0)) → ∀ M', rn_Jq G M' N n K → rn_WP 130 99 [rn_R 8, rn_I (xl1 + (rn_cost N (rn_lb N xl6 0) (rn_lb N xl6 1))), rn_I (xl2 + 1), vl3, vl4, rn_I 1, rn_I xl6, rn_I (rn_lb N xl6 0), rn_I (rn_lb N xl6 1), rn_I (rn_o N (rn_lb N xl6 0) 0), rn_I ((2 * (rn_o N (rn_lb N xl6 0) 2)) + 1), vl11, vl12, vl13, vl14, vl15, vl16] [] M' Q) (k3 : (¬ (xl6 < N 2)) → ∀ M', rn_Jq G M' N n K → rn_WP 130 480 [rn_R 8, rn_I xl1, rn_I xl2, vl3, vl4, rn_I 1, rn_I 0, rn_I 0, rn_I 0, vl9, vl10, vl11, vl12, vl13, vl14, vl15, vl16] [] M' Q) : rn_WP 130 15 [rn_R 8, rn_I xl1, rn_I xl2, vl3, vl4, rn_I 1, rn_I xl6, vl7, vl8, vl9, vl10, vl11, vl12, vl13, vl14, vl15, vl16] [] M Q := by
  refine (rn_step (e := (.iload 6, 17, 6, 0, 0, 0, 0, [])) rfl).mpr ?_
  refine (rn_step (e := (.aload_n 0, 18, 0, 0, 0, 0, 0, [])) rfl).mpr ?_
  refine (rn_step (e := (.iconst 2, 19, 0, 0, 0, 0, 0, [])) rfl).mpr ?_
  refine (rn_step (e := (.invokevirtual 13, 22, 106, 2, 276, 0, 10, [0])) rfl).mpr (And.intro ((rn_J8 J)) ((iq_count2 J  (fun M1 J1 => ?_))))
  refine (rn_step (e := (.if_icmp .ge 449, 25, 471, 0, 0, 0, 0, [])) rfl).mpr (And.intro (fun c1 => ?_) (fun c1 => ?_))
  ·
    refine (rn_step (e := (.iload 5, 27, 5, 0, 0, 0, 0, [])) rfl).mpr ?_
    refine (rn_step (e := (.ifCond .eq 444, 30, 471, 0, 0, 0, 0, [])) rfl).mpr (And.intro (fun q => absurd q (by decide)) (fun q => ?_))
    refine (rn_step (e := (.aload_n 0, 31, 0, 0, 0, 0, 0, [])) rfl).mpr ?_
    refine (rn_step (e := (.iload 6, 33, 6, 0, 0, 0, 0, [])) rfl).mpr ?_
    refine (rn_step (e := (.iconst 0, 34, 0, 0, 0, 0, 0, [])) rfl).mpr ?_
    refine (rn_step (e := (.invokevirtual 29, 37, 111, 3, 461, 0, 10, [0])) rfl).mpr (And.intro ((rn_J8 J1)) ((iq_label0 J1 ((hr1 c1).1) (fun M2 J2 => ?_))))
    refine (rn_step (e := (.istore 7, 39, 7, 0, 0, 1, 0, [])) rfl).mpr (And.intro (rn_lnq rfl rfl) (?_))
    refine (rn_step (e := (.aload_n 0, 40, 0, 0, 0, 0, 0, [])) rfl).mpr ?_
    refine (rn_step (e := (.iload 6, 42, 6, 0, 0, 0, 0, [])) rfl).mpr ?_
    refine (rn_step (e := (.iconst 1, 43, 0, 0, 0, 0, 0, [])) rfl).mpr ?_
    refine (rn_step (e := (.invokevirtual 29, 46, 111, 3, 461, 0, 10, [0])) rfl).mpr (And.intro ((rn_J8 J2)) ((iq_label1 J2 ((hr1 c1).1) (fun M3 J3 => ?_))))
    refine (rn_step (e := (.istore 8, 48, 8, 0, 0, 1, 0, [])) rfl).mpr (And.intro (rn_lnq rfl rfl) (?_))
    refine (rn_step (e := (.aload_n 0, 49, 0, 0, 0, 0, 0, [])) rfl).mpr ?_
    refine (rn_step (e := (.iload 7, 51, 7, 0, 0, 0, 0, [])) rfl).mpr ?_
    refine (rn_step (e := (.iconst 2, 52, 0, 0, 0, 0, 0, [])) rfl).mpr ?_
    refine (rn_step (e := (.invokevirtual 19, 55, 107, 3, 426, 0, 10, [0])) rfl).mpr (And.intro ((rn_J8 J3)) ((iq_river2 J3 ((hr1 c1).2.1) (fun M4 J4 => ?_))))
    refine (rn_step (e := (.istore 9, 57, 9, 0, 0, 1, 0, [])) rfl).mpr (And.intro (rn_lnq rfl rfl) (?_))
    refine (rn_step (e := (.iconst 2, 58, 0, 0, 0, 0, 0, [])) rfl).mpr ?_
    refine (rn_step (e := (.aload_n 0, 59, 0, 0, 0, 0, 0, [])) rfl).mpr ?_
    refine (rn_step (e := (.iload 7, 61, 7, 0, 0, 0, 0, [])) rfl).mpr ?_
    refine (rn_step (e := (.iconst 1, 62, 0, 0, 0, 0, 0, [])) rfl).mpr ?_
    refine (rn_step (e := (.invokevirtual 19, 65, 107, 3, 426, 0, 10, [0])) rfl).mpr (And.intro ((rn_J8 J4)) ((iq_river1 J4 ((hr1 c1).2.1) (fun M5 J5 => ?_))))
    refine (rn_step (e := (.imul, 66, 0, 0, 0, 0, 0, [])) rfl).mpr (rn_cw (hr1 c1).2.2.1 (hr1 c1).2.2.2.1 ?_)
    refine (rn_step (e := (.iconst 1, 67, 0, 0, 0, 0, 0, [])) rfl).mpr ?_
    refine (rn_step (e := (.iadd, 68, 0, 0, 0, 0, 0, [])) rfl).mpr (rn_cw (hr1 c1).2.2.2.2.1 (hr1 c1).2.2.2.2.2.1 ?_)
    refine (rn_step (e := (.istore 10, 70, 10, 0, 0, 1, 0, [])) rfl).mpr (And.intro (rn_lnq rfl rfl) (?_))
    refine (rn_step (e := (.iload_n 1, 71, 1, 0, 0, 0, 0, [])) rfl).mpr ?_
    refine (rn_step (e := (.aload_n 0, 72, 0, 0, 0, 0, 0, [])) rfl).mpr ?_
    refine (rn_step (e := (.iload 6, 74, 6, 0, 0, 0, 0, [])) rfl).mpr ?_
    refine (rn_step (e := (.iconst 2, 75, 0, 0, 0, 0, 0, [])) rfl).mpr ?_
    refine (rn_step (e := (.invokevirtual 29, 78, 111, 3, 461, 0, 10, [0])) rfl).mpr (And.intro ((rn_J8 J5)) ((iq_label2 J5 ((hr1 c1).1) (fun M6 J6 => ?_))))
    refine (rn_step (e := (.iadd, 79, 0, 0, 0, 0, 0, [])) rfl).mpr (rn_cw (hr1 c1).2.2.2.2.2.2.1 (hr1 c1).2.2.2.2.2.2.2 ?_)
    refine (rn_step (e := (.istore_n 1, 80, 1, 0, 0, 1, 0, [])) rfl).mpr (And.intro (rn_lnq rfl rfl) (?_))
    refine (rn_step (e := (.iload_n 2, 81, 2, 0, 0, 0, 0, [])) rfl).mpr ?_
    refine (rn_step (e := (.aload_n 0, 82, 0, 0, 0, 0, 0, [])) rfl).mpr ?_
    refine (rn_step (e := (.iload 6, 84, 6, 0, 0, 0, 0, [])) rfl).mpr ?_
    refine (rn_step (e := (.bipush 6, 86, 0, 0, 0, 0, 0, [])) rfl).mpr ?_
    refine (rn_step (e := (.invokevirtual 29, 89, 111, 3, 461, 0, 10, [0])) rfl).mpr (And.intro ((rn_J8 J6)) ((iq_label6 J6 ((hr1 c1).1) (fun M7 J7 => ?_))))
    refine (rn_step (e := (.ifCond .le 7, 92, 96, 0, 0, 0, 0, [])) rfl).mpr (And.intro (fun c2 => ?_) (fun c2 => ?_))
    ·
      refine (rn_step (e := (.iconst 0, 97, 0, 0, 0, 0, 0, [])) rfl).mpr ?_
      refine (rn_step (e := (.iadd, 98, 0, 0, 0, 0, 0, [])) rfl).mpr (rn_cw (hr2 c1 c2).1 (hr2 c1 c2).2 ?_)
      refine (rn_step (e := (.istore_n 2, 99, 2, 0, 0, 1, 0, [])) rfl).mpr (And.intro (rn_lnq rfl rfl) (?_))
      exact (k1 c1 c2 M7 J7)
    ·
      refine (rn_step (e := (.iconst 1, 93, 0, 0, 0, 0, 0, [])) rfl).mpr ?_
      refine (rn_step (e := (.goto 4, 96, 97, 0, 0, 0, 0, [])) rfl).mpr ?_
      refine (rn_step (e := (.iadd, 98, 0, 0, 0, 0, 0, [])) rfl).mpr (rn_cw (hr3 c1 c2).1 (hr3 c1 c2).2 ?_)
      refine (rn_step (e := (.istore_n 2, 99, 2, 0, 0, 1, 0, [])) rfl).mpr (And.intro (rn_lnq rfl rfl) (?_))
      exact (k2 c1 c2 M7 J7)
  ·
    refine (rn_step (e := (.iconst 0, 472, 0, 0, 0, 0, 0, [])) rfl).mpr ?_
    refine (rn_step (e := (.istore 6, 474, 6, 0, 0, 1, 0, [])) rfl).mpr (And.intro (rn_lnq rfl rfl) (?_))
    refine (rn_step (e := (.iconst 0, 475, 0, 0, 0, 0, 0, [])) rfl).mpr ?_
    refine (rn_step (e := (.istore 7, 477, 7, 0, 0, 1, 0, [])) rfl).mpr (And.intro (rn_lnq rfl rfl) (?_))
    refine (rn_step (e := (.iconst 0, 478, 0, 0, 0, 0, 0, [])) rfl).mpr ?_
    refine (rn_step (e := (.istore 8, 480, 8, 0, 0, 1, 0, [])) rfl).mpr (And.intro (rn_lnq rfl rfl) (?_))
    exact (k3 c1 M1 J1)
set_option maxRecDepth 4000 in
theorem rb_Lw_areLabels_99 {M : rn_M} {Q : rn_Q} {G : Nat × (Nat → Int)} {N : Nat → Int} {n : Int} {K : Nat → Nat → Int} {vl1 : rn_V} {vl2 : rn_V} {xl3 : Int} {xl4 : Int} {vl5 : rn_V} {xl6 : Int} {xl7 : Int} {xl8 : Int} {xl9 : Int} {vl10 : rn_V} {vl11 : rn_V} {vl12 : rn_V} {vl13 : rn_V} {vl14 : rn_V} {vl15 : rn_V} {vl16 : rn_V} (J : rn_Jq G M N n K)  (h1 : rn_ca vl2 = 1) (h2 : rn_ca vl10 = 1) (hr1 : ((0 : Int) ≤ xl6 ∧ xl6 < N 2) ∧ (-2147483648 : Int) ≤ xl4 + (rn_card (rn_ar N (rn_lb N xl6 0) (rn_lb N xl6 1)) 2400) ∧ xl4 + (rn_card (rn_ar N (rn_lb N xl6 0) (rn_lb N xl6 1)) 2400) ≤ 2147483647 ∧ (((0 : Int) ≤ xl7 ∧ xl7 < N 0) ∧ (0 : Int) ≤ xl8 ∧ xl8 ≤ rn_o N xl7 5) ∧ (-2147483648 : Int) ≤ xl8 + xl9 ∧ xl8 + xl9 ≤ 2147483647 ∧ (-2147483648 : Int) ≤ (xl8 + xl9) - 1 ∧ (xl8 + xl9) - 1 ≤ 2147483647 ∧ (((0 : Int) ≤ xl7 ∧ xl7 < N 0) ∧ (0 : Int) ≤ (xl8 + xl9) - 1 ∧ (xl8 + xl9) - 1 ≤ rn_o N xl7 5)) (k1 : ∀ M', rn_Jq G M' N n K → rn_WP 130 143 [rn_R 8, vl1, vl2, rn_I (rn_or xl3 (rn_shl 1 xl7)), rn_I (xl4 + (rn_card (rn_ar N (rn_lb N xl6 0) (rn_lb N xl6 1)) 2400)), vl5, rn_I xl6, rn_I xl7, rn_I xl8, rn_I xl9, vl10, rn_I (100 * rn_px N xl7 (xl8).toNat + rn_py N xl7 (xl8).toNat), rn_I (100 * rn_px N xl7 ((xl8 + xl9) - 1).toNat + rn_py N xl7 ((xl8 + xl9) - 1).toNat), vl13, vl14, vl15, vl16] [] M' Q) : rn_WP 130 99 [rn_R 8, vl1, vl2, rn_I xl3, rn_I xl4, vl5, rn_I xl6, rn_I xl7, rn_I xl8, rn_I xl9, vl10, vl11, vl12, vl13, vl14, vl15, vl16] [] M Q := by
  refine (rn_step (e := (.iload_n 3, 100, 3, 0, 0, 0, 0, [])) rfl).mpr ?_
  refine (rn_step (e := (.iconst 1, 101, 0, 0, 0, 0, 0, [])) rfl).mpr ?_
  refine (rn_step (e := (.iload 7, 103, 7, 0, 0, 0, 0, [])) rfl).mpr ?_
  refine (rn_step (e := (.ishl, 104, 0, 0, 0, 0, 0, [])) rfl).mpr ?_
  refine (rn_step (e := (.ior, 105, 0, 0, 0, 0, 0, [])) rfl).mpr ?_
  refine (rn_step (e := (.istore_n 3, 106, 3, 0, 0, 1, 0, [])) rfl).mpr (And.intro (rn_lnq rfl h1) (?_))
  refine (rn_step (e := (.iload 4, 108, 4, 0, 0, 0, 0, [])) rfl).mpr ?_
  refine (rn_step (e := (.aload_n 0, 109, 0, 0, 0, 0, 0, [])) rfl).mpr ?_
  refine (rn_step (e := (.iload 6, 111, 6, 0, 0, 0, 0, [])) rfl).mpr ?_
  refine (rn_step (e := (.iconst 5, 112, 0, 0, 0, 0, 0, [])) rfl).mpr ?_
  refine (rn_step (e := (.invokevirtual 29, 115, 111, 3, 461, 0, 10, [0])) rfl).mpr (And.intro ((rn_J8 J)) ((iq_label5 J (hr1.1) (fun M1 J1 => ?_))))
  refine (rn_step (e := (.iadd, 116, 0, 0, 0, 0, 0, [])) rfl).mpr (rn_cw hr1.2.1 hr1.2.2.1 ?_)
  refine (rn_step (e := (.istore 4, 118, 4, 0, 0, 1, 0, [])) rfl).mpr (And.intro (rn_lnq rfl rfl) (?_))
  refine (rn_step (e := (.aload_n 0, 119, 0, 0, 0, 0, 0, [])) rfl).mpr ?_
  refine (rn_step (e := (.iload 7, 121, 7, 0, 0, 0, 0, [])) rfl).mpr ?_
  refine (rn_step (e := (.iload 8, 123, 8, 0, 0, 0, 0, [])) rfl).mpr ?_
  refine (rn_step (e := (.invokevirtual 26, 126, 108, 3, 450, 0, 10, [0])) rfl).mpr (And.intro ((rn_J8 J1)) ((iq_cellV J1 (hr1.2.2.2.1) (fun M2 J2 => ?_))))
  refine (rn_step (e := (.istore 11, 128, 11, 0, 0, 1, 0, [])) rfl).mpr (And.intro (rn_lnq rfl h2) (?_))
  refine (rn_step (e := (.aload_n 0, 129, 0, 0, 0, 0, 0, [])) rfl).mpr ?_
  refine (rn_step (e := (.iload 7, 131, 7, 0, 0, 0, 0, [])) rfl).mpr ?_
  refine (rn_step (e := (.iload 8, 133, 8, 0, 0, 0, 0, [])) rfl).mpr ?_
  refine (rn_step (e := (.iload 9, 135, 9, 0, 0, 0, 0, [])) rfl).mpr ?_
  refine (rn_step (e := (.iadd, 136, 0, 0, 0, 0, 0, [])) rfl).mpr (rn_cw hr1.2.2.2.2.1 hr1.2.2.2.2.2.1 ?_)
  refine (rn_step (e := (.iconst 1, 137, 0, 0, 0, 0, 0, [])) rfl).mpr ?_
  refine (rn_step (e := (.isub, 138, 0, 0, 0, 0, 0, [])) rfl).mpr (rn_cw hr1.2.2.2.2.2.2.1 hr1.2.2.2.2.2.2.2.1 ?_)
  refine (rn_step (e := (.invokevirtual 26, 141, 108, 3, 450, 0, 10, [0])) rfl).mpr (And.intro ((rn_J8 J2)) ((iq_cellV J2 (hr1.2.2.2.2.2.2.2.2) (fun M3 J3 => ?_))))
  refine (rn_step (e := (.istore 12, 143, 12, 0, 0, 1, 0, [])) rfl).mpr (And.intro (rn_lnq rfl rfl) (?_))
  exact (k1 M3 J3)
set_option maxRecDepth 4000 in
theorem rb_Lw_areLabels_143 {M : rn_M} {Q : rn_Q} {G : Nat × (Nat → Int)} {N : Nat → Int} {n : Int} {K : Nat → Nat → Int} {vl1 : rn_V} {vl2 : rn_V} {vl3 : rn_V} {vl4 : rn_V} {vl5 : rn_V} {vl6 : rn_V} {vl7 : rn_V} {vl8 : rn_V} {vl9 : rn_V} {vl10 : rn_V} {xl11 : Int} {xl12 : Int} {vl13 : rn_V} {vl14 : rn_V} {vl15 : rn_V} {vl16 : rn_V} (J : rn_Jq G M N n K)   (hr1 : (0 : Int) ≤ xl12 ∧ (0 : Int) ≤ xl11) (hr2 : (¬ (xl12 / 100 < xl11 / 100)) → (0 : Int) ≤ xl12 ∧ (0 : Int) ≤ xl11) (hr3 : (¬ (xl12 / 100 < xl11 / 100)) → (xl12 / 100 = xl11 / 100) → (0 : Int) ≤ xl12 ∧ (0 : Int) ≤ xl11) (k1 : (xl12 / 100 < xl11 / 100) → ∀ M', rn_Jq G M' N n K → rn_WP 130 187 [rn_R 8, vl1, vl2, vl3, vl4, vl5, vl6, vl7, vl8, vl9, vl10, rn_I xl11, rn_I xl12, vl13, vl14, vl15, vl16] [rn_I 1] M' Q) (k2 : (¬ (xl12 / 100 < xl11 / 100)) → (xl12 / 100 = xl11 / 100) → (xl12 % 100 < xl11 % 100) → ∀ M', rn_Jq G M' N n K → rn_WP 130 187 [rn_R 8, vl1, vl2, vl3, vl4, vl5, vl6, vl7, vl8, vl9, vl10, rn_I xl11, rn_I xl12, vl13, vl14, vl15, vl16] [rn_I 1] M' Q) (k3 : (¬ (xl12 / 100 < xl11 / 100)) → (xl12 / 100 = xl11 / 100) → (¬ (xl12 % 100 < xl11 % 100)) → ∀ M', rn_Jq G M' N n K → rn_WP 130 187 [rn_R 8, vl1, vl2, vl3, vl4, vl5, vl6, vl7, vl8, vl9, vl10, rn_I xl11, rn_I xl12, vl13, vl14, vl15, vl16] [rn_I 0] M' Q) (k4 : (¬ (xl12 / 100 < xl11 / 100)) → (¬ (xl12 / 100 = xl11 / 100)) → ∀ M', rn_Jq G M' N n K → rn_WP 130 187 [rn_R 8, vl1, vl2, vl3, vl4, vl5, vl6, vl7, vl8, vl9, vl10, rn_I xl11, rn_I xl12, vl13, vl14, vl15, vl16] [rn_I 0] M' Q) : rn_WP 130 143 [rn_R 8, vl1, vl2, vl3, vl4, vl5, vl6, vl7, vl8, vl9, vl10, rn_I xl11, rn_I xl12, vl13, vl14, vl15, vl16] [] M Q := by
  refine (rn_step (e := (.iload 12, 145, 12, 0, 0, 0, 0, [])) rfl).mpr ?_
  refine (rn_step (e := (.bipush 100, 147, 0, 0, 0, 0, 0, [])) rfl).mpr ?_
  refine (rn_step (e := (.idiv, 148, 0, 0, 0, 0, 0, [])) rfl).mpr (And.intro (hr1.1) (And.intro ((by decide)) (?_)))
  refine (rn_step (e := (.iload 11, 150, 11, 0, 0, 0, 0, [])) rfl).mpr ?_
  refine (rn_step (e := (.bipush 100, 152, 0, 0, 0, 0, 0, [])) rfl).mpr ?_
  refine (rn_step (e := (.idiv, 153, 0, 0, 0, 0, 0, [])) rfl).mpr (And.intro (hr1.2) (And.intro ((by decide)) (?_)))
  refine (rn_step (e := (.if_icmp .lt 29, 156, 182, 0, 0, 0, 0, [])) rfl).mpr (And.intro (fun c1 => ?_) (fun c1 => ?_))
  ·
    refine (rn_step (e := (.iconst 1, 183, 0, 0, 0, 0, 0, [])) rfl).mpr ?_
    refine (rn_step (e := (.goto 4, 186, 187, 0, 0, 0, 0, [])) rfl).mpr ?_
    exact (k1 c1 M J)
  ·
    refine (rn_step (e := (.iload 12, 158, 12, 0, 0, 0, 0, [])) rfl).mpr ?_
    refine (rn_step (e := (.bipush 100, 160, 0, 0, 0, 0, 0, [])) rfl).mpr ?_
    refine (rn_step (e := (.idiv, 161, 0, 0, 0, 0, 0, [])) rfl).mpr (And.intro ((hr2 c1).1) (And.intro ((by decide)) (?_)))
    refine (rn_step (e := (.iload 11, 163, 11, 0, 0, 0, 0, [])) rfl).mpr ?_
    refine (rn_step (e := (.bipush 100, 165, 0, 0, 0, 0, 0, [])) rfl).mpr ?_
    refine (rn_step (e := (.idiv, 166, 0, 0, 0, 0, 0, [])) rfl).mpr (And.intro ((hr2 c1).2) (And.intro ((by decide)) (?_)))
    refine (rn_step (e := (.if_icmp .ne 20, 169, 186, 0, 0, 0, 0, [])) rfl).mpr (And.intro (fun c2 => ?_) (fun c2 => ?_))
    ·
      refine (rn_step (e := (.iload 12, 171, 12, 0, 0, 0, 0, [])) rfl).mpr ?_
      refine (rn_step (e := (.bipush 100, 173, 0, 0, 0, 0, 0, [])) rfl).mpr ?_
      refine (rn_step (e := (.irem, 174, 0, 0, 0, 0, 0, [])) rfl).mpr (And.intro ((hr3 c1 c2).1) (And.intro ((by decide)) (?_)))
      refine (rn_step (e := (.iload 11, 176, 11, 0, 0, 0, 0, [])) rfl).mpr ?_
      refine (rn_step (e := (.bipush 100, 178, 0, 0, 0, 0, 0, [])) rfl).mpr ?_
      refine (rn_step (e := (.irem, 179, 0, 0, 0, 0, 0, [])) rfl).mpr (And.intro ((hr3 c1 c2).2) (And.intro ((by decide)) (?_)))
      refine (rn_step (e := (.if_icmp .ge 7, 182, 186, 0, 0, 0, 0, [])) rfl).mpr (And.intro (fun c3 => ?_) (fun c3 => ?_))
      ·
        refine (rn_step (e := (.iconst 1, 183, 0, 0, 0, 0, 0, [])) rfl).mpr ?_
        refine (rn_step (e := (.goto 4, 186, 187, 0, 0, 0, 0, [])) rfl).mpr ?_
        exact (k2 c1 c2 c3 M J)
      ·
        refine (rn_step (e := (.iconst 0, 187, 0, 0, 0, 0, 0, [])) rfl).mpr ?_
        exact (k3 c1 c2 c3 M J)
    ·
      refine (rn_step (e := (.iconst 0, 187, 0, 0, 0, 0, 0, [])) rfl).mpr ?_
      exact (k4 c1 c2 M J)
set_option maxRecDepth 4000 in
theorem rb_Lw_areLabels_187 {M : rn_M} {Q : rn_Q} {G : Nat × (Nat → Int)} {N : Nat → Int} {n : Int} {K : Nat → Nat → Int} {vl1 : rn_V} {vl2 : rn_V} {vl3 : rn_V} {vl4 : rn_V} {vl5 : rn_V} {xl6 : Int} {xl7 : Int} {xl8 : Int} {xl9 : Int} {xl10 : Int} {vl11 : rn_V} {vl12 : rn_V} {vl13 : rn_V} {vl14 : rn_V} {vl15 : rn_V} {vl16 : rn_V} {xs0 : Int} (J : rn_Jq G M N n K)  (h1 : rn_ca vl12 = 1) (h2 : rn_ca vl4 = 1) (hr1 : ¬ (xl8 < 0) ∧ (-2147483648 : Int) ≤ xl8 + xl9 ∧ xl8 + xl9 ≤ 2147483647 ∧ ((0 : Int) ≤ xl7 ∧ xl7 < N 0) ∧ (-2147483648 : Int) ≤ rn_o N xl7 5 + 1 ∧ rn_o N xl7 5 + 1 ≤ 2147483647 ∧ ¬ (rn_o N xl7 5 + 1 < xl8 + xl9) ∧ ((0 : Int) ≤ xl6 ∧ xl6 < N 2)) (hr2 : (xs0 = 0) → rn_b (rn_trn N (rn_lb N xl6 0) (rn_lb N xl6 1)) = 0 ∧ ((0 : Int) ≤ xl6 ∧ xl6 < N 2) ∧ ¬ (rn_card (rn_ar N (rn_lb N xl6 0) (rn_lb N xl6 1)) 2400 ≤ 0) ∧ (-2147483648 : Int) ≤ xl9 * xl10 ∧ xl9 * xl10 ≤ 2147483647 ∧ (-2147483648 : Int) ≤ (xl9 * xl10) * xl10 ∧ (xl9 * xl10) * xl10 ≤ 2147483647 ∧ ¬ ((xl9 * xl10) * xl10 < rn_card (rn_ar N (rn_lb N xl6 0) (rn_lb N xl6 1)) 2400) ∧ ¬ (N 1 < rn_card (fun t => rn_mt' N (rn_lb N xl6 0) (rn_lb N xl6 1) t) (N 1).toNat)) (hr3 : (¬ (xs0 = 0)) → rn_b (rn_trn N (rn_lb N xl6 0) (rn_lb N xl6 1)) = 1 ∧ ((0 : Int) ≤ xl6 ∧ xl6 < N 2) ∧ ¬ (rn_card (rn_ar N (rn_lb N xl6 0) (rn_lb N xl6 1)) 2400 ≤ 0) ∧ (-2147483648 : Int) ≤ xl9 * xl10 ∧ xl9 * xl10 ≤ 2147483647 ∧ (-2147483648 : Int) ≤ (xl9 * xl10) * xl10 ∧ (xl9 * xl10) * xl10 ≤ 2147483647 ∧ ¬ ((xl9 * xl10) * xl10 < rn_card (rn_ar N (rn_lb N xl6 0) (rn_lb N xl6 1)) 2400) ∧ ¬ (N 1 < rn_card (fun t => rn_mt' N (rn_lb N xl6 0) (rn_lb N xl6 1) t) (N 1).toNat)) (k1 : (xs0 = 0) → ∀ M', rn_Jq G M' N n K → rn_WP 130 285 [rn_R 8, vl1, vl2, vl3, vl4, rn_I 1, rn_I xl6, rn_I xl7, rn_I xl8, rn_I xl9, rn_I xl10, vl11, vl12, rn_I xs0, rn_I 0, vl15, vl16] [] M' Q) (k2 : (¬ (xs0 = 0)) → ∀ M', rn_Jq G M' N n K → rn_WP 130 285 [rn_R 8, vl1, vl2, vl3, vl4, rn_I 1, rn_I xl6, rn_I xl7, rn_I xl8, rn_I xl9, rn_I xl10, vl11, vl12, rn_I xs0, rn_I 0, vl15, vl16] [] M' Q) : rn_WP 130 187 [rn_R 8, vl1, vl2, vl3, vl4, vl5, rn_I xl6, rn_I xl7, rn_I xl8, rn_I xl9, rn_I xl10, vl11, vl12, vl13, vl14, vl15, vl16] [rn_I xs0] M Q := by
  refine (rn_step (e := (.istore 13, 189, 13, 0, 0, 1, 0, [])) rfl).mpr (And.intro (rn_lnq rfl h1) (?_))
  refine (rn_step (e := (.iload 8, 191, 8, 0, 0, 0, 0, [])) rfl).mpr ?_
  refine (rn_step (e := (.ifCond .lt 88, 194, 279, 0, 0, 0, 0, [])) rfl).mpr (And.intro (fun q => absurd q hr1.1) (fun q => ?_))
  refine (rn_step (e := (.iload 8, 196, 8, 0, 0, 0, 0, [])) rfl).mpr ?_
  refine (rn_step (e := (.iload 9, 198, 9, 0, 0, 0, 0, [])) rfl).mpr ?_
  refine (rn_step (e := (.iadd, 199, 0, 0, 0, 0, 0, [])) rfl).mpr (rn_cw hr1.2.1 hr1.2.2.1 ?_)
  refine (rn_step (e := (.aload_n 0, 200, 0, 0, 0, 0, 0, [])) rfl).mpr ?_
  refine (rn_step (e := (.iload 7, 202, 7, 0, 0, 0, 0, [])) rfl).mpr ?_
  refine (rn_step (e := (.iconst 3, 203, 0, 0, 0, 0, 0, [])) rfl).mpr ?_
  refine (rn_step (e := (.invokevirtual 19, 206, 107, 3, 426, 0, 10, [0])) rfl).mpr (And.intro ((rn_J8 J)) ((iq_river3 J (hr1.2.2.2.1) (fun M1 J1 => ?_))))
  refine (rn_step (e := (.iconst 1, 207, 0, 0, 0, 0, 0, [])) rfl).mpr ?_
  refine (rn_step (e := (.iadd, 208, 0, 0, 0, 0, 0, [])) rfl).mpr (rn_cw hr1.2.2.2.2.1 hr1.2.2.2.2.2.1 ?_)
  refine (rn_step (e := (.if_icmp .gt 71, 211, 279, 0, 0, 0, 0, [])) rfl).mpr (And.intro (fun q => absurd q hr1.2.2.2.2.2.2.1) (fun q => ?_))
  refine (rn_step (e := (.aload_n 0, 212, 0, 0, 0, 0, 0, [])) rfl).mpr ?_
  refine (rn_step (e := (.iload 6, 214, 6, 0, 0, 0, 0, [])) rfl).mpr ?_
  refine (rn_step (e := (.iconst 4, 215, 0, 0, 0, 0, 0, [])) rfl).mpr ?_
  refine (rn_step (e := (.invokevirtual 29, 218, 111, 3, 461, 0, 10, [0])) rfl).mpr (And.intro ((rn_J8 J1)) ((iq_label4 J1 (hr1.2.2.2.2.2.2.2) (fun M2 J2 => ?_))))
  refine (rn_step (e := (.iload 13, 220, 13, 0, 0, 0, 0, [])) rfl).mpr ?_
  refine (rn_step (e := (.ifCond .eq 7, 223, 227, 0, 0, 0, 0, [])) rfl).mpr (And.intro (fun c1 => ?_) (fun c1 => ?_))
  ·
    refine (rn_step (e := (.iconst 0, 228, 0, 0, 0, 0, 0, [])) rfl).mpr ?_
    refine (rn_step (e := (.if_icmp .ne 51, 231, 279, 0, 0, 0, 0, [])) rfl).mpr (And.intro (fun q => ?_) (fun q => absurd (hr2 c1).1 q))
    refine (rn_step (e := (.aload_n 0, 232, 0, 0, 0, 0, 0, [])) rfl).mpr ?_
    refine (rn_step (e := (.iload 6, 234, 6, 0, 0, 0, 0, [])) rfl).mpr ?_
    refine (rn_step (e := (.iconst 5, 235, 0, 0, 0, 0, 0, [])) rfl).mpr ?_
    refine (rn_step (e := (.invokevirtual 29, 238, 111, 3, 461, 0, 10, [0])) rfl).mpr (And.intro ((rn_J8 J2)) ((iq_label5 J2 ((hr2 c1).2.1) (fun M3 J3 => ?_))))
    refine (rn_step (e := (.ifCond .le 41, 241, 279, 0, 0, 0, 0, [])) rfl).mpr (And.intro (fun q => absurd q (hr2 c1).2.2.1) (fun q => ?_))
    refine (rn_step (e := (.aload_n 0, 242, 0, 0, 0, 0, 0, [])) rfl).mpr ?_
    refine (rn_step (e := (.iload 6, 244, 6, 0, 0, 0, 0, [])) rfl).mpr ?_
    refine (rn_step (e := (.iconst 5, 245, 0, 0, 0, 0, 0, [])) rfl).mpr ?_
    refine (rn_step (e := (.invokevirtual 29, 248, 111, 3, 461, 0, 10, [0])) rfl).mpr (And.intro ((rn_J8 J3)) ((iq_label5 J3 ((hr2 c1).2.1) (fun M4 J4 => ?_))))
    refine (rn_step (e := (.iload 9, 250, 9, 0, 0, 0, 0, [])) rfl).mpr ?_
    refine (rn_step (e := (.iload 10, 252, 10, 0, 0, 0, 0, [])) rfl).mpr ?_
    refine (rn_step (e := (.imul, 253, 0, 0, 0, 0, 0, [])) rfl).mpr (rn_cw (hr2 c1).2.2.2.1 (hr2 c1).2.2.2.2.1 ?_)
    refine (rn_step (e := (.iload 10, 255, 10, 0, 0, 0, 0, [])) rfl).mpr ?_
    refine (rn_step (e := (.imul, 256, 0, 0, 0, 0, 0, [])) rfl).mpr (rn_cw (hr2 c1).2.2.2.2.2.1 (hr2 c1).2.2.2.2.2.2.1 ?_)
    refine (rn_step (e := (.if_icmp .gt 23, 259, 279, 0, 0, 0, 0, [])) rfl).mpr (And.intro (fun q => absurd q (hr2 c1).2.2.2.2.2.2.2.1) (fun q => ?_))
    refine (rn_step (e := (.aload_n 0, 260, 0, 0, 0, 0, 0, [])) rfl).mpr ?_
    refine (rn_step (e := (.iload 6, 262, 6, 0, 0, 0, 0, [])) rfl).mpr ?_
    refine (rn_step (e := (.bipush 7, 264, 0, 0, 0, 0, 0, [])) rfl).mpr ?_
    refine (rn_step (e := (.invokevirtual 29, 267, 111, 3, 461, 0, 10, [0])) rfl).mpr (And.intro ((rn_J8 J4)) ((iq_label7 J4 ((hr2 c1).2.1) (fun M5 J5 => ?_))))
    refine (rn_step (e := (.aload_n 0, 268, 0, 0, 0, 0, 0, [])) rfl).mpr ?_
    refine (rn_step (e := (.iconst 1, 269, 0, 0, 0, 0, 0, [])) rfl).mpr ?_
    refine (rn_step (e := (.invokevirtual 13, 272, 106, 2, 276, 0, 10, [0])) rfl).mpr (And.intro ((rn_J8 J5)) ((iq_count1 J5  (fun M6 J6 => ?_))))
    refine (rn_step (e := (.if_icmp .gt 7, 275, 279, 0, 0, 0, 0, [])) rfl).mpr (And.intro (fun q => absurd q (hr2 c1).2.2.2.2.2.2.2.2) (fun q => ?_))
    refine (rn_step (e := (.iconst 1, 276, 0, 0, 0, 0, 0, [])) rfl).mpr ?_
    refine (rn_step (e := (.goto 4, 279, 280, 0, 0, 0, 0, [])) rfl).mpr ?_
    refine (rn_step (e := (.istore 5, 282, 5, 0, 0, 1, 0, [])) rfl).mpr (And.intro (rn_lnq rfl h2) (?_))
    refine (rn_step (e := (.iconst 0, 283, 0, 0, 0, 0, 0, [])) rfl).mpr ?_
    refine (rn_step (e := (.istore 14, 285, 14, 0, 0, 1, 0, [])) rfl).mpr (And.intro (rn_lnq rfl rfl) (?_))
    exact (k1 c1 M6 J6)
  ·
    refine (rn_step (e := (.iconst 1, 224, 0, 0, 0, 0, 0, [])) rfl).mpr ?_
    refine (rn_step (e := (.goto 4, 227, 228, 0, 0, 0, 0, [])) rfl).mpr ?_
    refine (rn_step (e := (.if_icmp .ne 51, 231, 279, 0, 0, 0, 0, [])) rfl).mpr (And.intro (fun q => ?_) (fun q => absurd (hr3 c1).1 q))
    refine (rn_step (e := (.aload_n 0, 232, 0, 0, 0, 0, 0, [])) rfl).mpr ?_
    refine (rn_step (e := (.iload 6, 234, 6, 0, 0, 0, 0, [])) rfl).mpr ?_
    refine (rn_step (e := (.iconst 5, 235, 0, 0, 0, 0, 0, [])) rfl).mpr ?_
    refine (rn_step (e := (.invokevirtual 29, 238, 111, 3, 461, 0, 10, [0])) rfl).mpr (And.intro ((rn_J8 J2)) ((iq_label5 J2 ((hr3 c1).2.1) (fun M7 J7 => ?_))))
    refine (rn_step (e := (.ifCond .le 41, 241, 279, 0, 0, 0, 0, [])) rfl).mpr (And.intro (fun q => absurd q (hr3 c1).2.2.1) (fun q => ?_))
    refine (rn_step (e := (.aload_n 0, 242, 0, 0, 0, 0, 0, [])) rfl).mpr ?_
    refine (rn_step (e := (.iload 6, 244, 6, 0, 0, 0, 0, [])) rfl).mpr ?_
    refine (rn_step (e := (.iconst 5, 245, 0, 0, 0, 0, 0, [])) rfl).mpr ?_
    refine (rn_step (e := (.invokevirtual 29, 248, 111, 3, 461, 0, 10, [0])) rfl).mpr (And.intro ((rn_J8 J7)) ((iq_label5 J7 ((hr3 c1).2.1) (fun M8 J8 => ?_))))
    refine (rn_step (e := (.iload 9, 250, 9, 0, 0, 0, 0, [])) rfl).mpr ?_
    refine (rn_step (e := (.iload 10, 252, 10, 0, 0, 0, 0, [])) rfl).mpr ?_
    refine (rn_step (e := (.imul, 253, 0, 0, 0, 0, 0, [])) rfl).mpr (rn_cw (hr3 c1).2.2.2.1 (hr3 c1).2.2.2.2.1 ?_)
    refine (rn_step (e := (.iload 10, 255, 10, 0, 0, 0, 0, [])) rfl).mpr ?_
    refine (rn_step (e := (.imul, 256, 0, 0, 0, 0, 0, [])) rfl).mpr (rn_cw (hr3 c1).2.2.2.2.2.1 (hr3 c1).2.2.2.2.2.2.1 ?_)
    refine (rn_step (e := (.if_icmp .gt 23, 259, 279, 0, 0, 0, 0, [])) rfl).mpr (And.intro (fun q => absurd q (hr3 c1).2.2.2.2.2.2.2.1) (fun q => ?_))
    refine (rn_step (e := (.aload_n 0, 260, 0, 0, 0, 0, 0, [])) rfl).mpr ?_
    refine (rn_step (e := (.iload 6, 262, 6, 0, 0, 0, 0, [])) rfl).mpr ?_
    refine (rn_step (e := (.bipush 7, 264, 0, 0, 0, 0, 0, [])) rfl).mpr ?_
    refine (rn_step (e := (.invokevirtual 29, 267, 111, 3, 461, 0, 10, [0])) rfl).mpr (And.intro ((rn_J8 J8)) ((iq_label7 J8 ((hr3 c1).2.1) (fun M9 J9 => ?_))))
    refine (rn_step (e := (.aload_n 0, 268, 0, 0, 0, 0, 0, [])) rfl).mpr ?_
    refine (rn_step (e := (.iconst 1, 269, 0, 0, 0, 0, 0, [])) rfl).mpr ?_
    refine (rn_step (e := (.invokevirtual 13, 272, 106, 2, 276, 0, 10, [0])) rfl).mpr (And.intro ((rn_J8 J9)) ((iq_count1 J9  (fun M10 J10 => ?_))))
    refine (rn_step (e := (.if_icmp .gt 7, 275, 279, 0, 0, 0, 0, [])) rfl).mpr (And.intro (fun q => absurd q (hr3 c1).2.2.2.2.2.2.2.2) (fun q => ?_))
    refine (rn_step (e := (.iconst 1, 276, 0, 0, 0, 0, 0, [])) rfl).mpr ?_
    refine (rn_step (e := (.goto 4, 279, 280, 0, 0, 0, 0, [])) rfl).mpr ?_
    refine (rn_step (e := (.istore 5, 282, 5, 0, 0, 1, 0, [])) rfl).mpr (And.intro (rn_lnq rfl h2) (?_))
    refine (rn_step (e := (.iconst 0, 283, 0, 0, 0, 0, 0, [])) rfl).mpr ?_
    refine (rn_step (e := (.istore 14, 285, 14, 0, 0, 1, 0, [])) rfl).mpr (And.intro (rn_lnq rfl rfl) (?_))
    exact (k2 c1 M10 J10)
set_option maxRecDepth 4000 in
theorem rb_Lw_areLabels_285 {M : rn_M} {Q : rn_Q} {G : Nat × (Nat → Int)} {N : Nat → Int} {n : Int} {K : Nat → Nat → Int} {vl1 : rn_V} {vl2 : rn_V} {vl3 : rn_V} {vl4 : rn_V} {vl6 : rn_V} {xl7 : Int} {xl8 : Int} {xl9 : Int} {vl10 : rn_V} {vl11 : rn_V} {vl12 : rn_V} {vl13 : rn_V} {xl14 : Int} {vl15 : rn_V} {vl16 : rn_V} (J : rn_Jq G M N n K)  (h1 : rn_ca vl4 = 1) (hr1 : (xl14 < xl9) → (-2147483648 : Int) ≤ xl8 + xl14 ∧ xl8 + xl14 ≤ 2147483647 ∧ (((0 : Int) ≤ xl7 ∧ xl7 < N 0) ∧ (0 : Int) ≤ xl8 + xl14 ∧ xl8 + xl14 ≤ rn_o N xl7 5) ∧ (0 : Int) ≤ 100 * rn_px N xl7 (xl8 + xl14).toNat + rn_py N xl7 (xl8 + xl14).toNat ∧ ¬ (rn_aWritten N ((100 * rn_px N xl7 (xl8 + xl14).toNat + rn_py N xl7 (xl8 + xl14).toNat) / 100) ((100 * rn_px N xl7 (xl8 + xl14).toNat + rn_py N xl7 (xl8 + xl14).toNat) % 100) < 97) ∧ ¬ (122 < rn_aWritten N ((100 * rn_px N xl7 (xl8 + xl14).toNat + rn_py N xl7 (xl8 + xl14).toNat) / 100) ((100 * rn_px N xl7 (xl8 + xl14).toNat + rn_py N xl7 (xl8 + xl14).toNat) % 100)) ∧ (-2147483648 : Int) ≤ xl14 + 1 ∧ xl14 + 1 ≤ 2147483647) (k1 : (xl14 < xl9) → ∀ M', rn_Jq G M' N n K → rn_WP 130 285 [rn_R 8, vl1, vl2, vl3, vl4, rn_I 1, vl6, rn_I xl7, rn_I xl8, rn_I xl9, vl10, vl11, vl12, vl13, rn_I (xl14 + 1), rn_I (100 * rn_px N xl7 (xl8 + xl14).toNat + rn_py N xl7 (xl8 + xl14).toNat), rn_I (rn_aWritten N ((100 * rn_px N xl7 (xl8 + xl14).toNat + rn_py N xl7 (xl8 + xl14).toNat) / 100) ((100 * rn_px N xl7 (xl8 + xl14).toNat + rn_py N xl7 (xl8 + xl14).toNat) % 100))] [] M' Q) (k2 : (¬ (xl14 < xl9)) → ∀ M', rn_Jq G M' N n K → rn_WP 130 353 [rn_R 8, vl1, vl2, vl3, vl4, rn_I 1, vl6, rn_I xl7, rn_I xl8, rn_I xl9, vl10, vl11, vl12, vl13, rn_I xl14, vl15, vl16] [] M' Q) : rn_WP 130 285 [rn_R 8, vl1, vl2, vl3, vl4, rn_I 1, vl6, rn_I xl7, rn_I xl8, rn_I xl9, vl10, vl11, vl12, vl13, rn_I xl14, vl15, vl16] [] M Q := by
  refine (rn_step (e := (.iload 14, 287, 14, 0, 0, 0, 0, [])) rfl).mpr ?_
  refine (rn_step (e := (.iload 9, 289, 9, 0, 0, 0, 0, [])) rfl).mpr ?_
  refine (rn_step (e := (.if_icmp .ge 64, 292, 353, 0, 0, 0, 0, [])) rfl).mpr (And.intro (fun c1 => ?_) (fun c1 => ?_))
  ·
    refine (rn_step (e := (.iload 5, 294, 5, 0, 0, 0, 0, [])) rfl).mpr ?_
    refine (rn_step (e := (.ifCond .eq 59, 297, 353, 0, 0, 0, 0, [])) rfl).mpr (And.intro (fun q => absurd q (by decide)) (fun q => ?_))
    refine (rn_step (e := (.aload_n 0, 298, 0, 0, 0, 0, 0, [])) rfl).mpr ?_
    refine (rn_step (e := (.iload 7, 300, 7, 0, 0, 0, 0, [])) rfl).mpr ?_
    refine (rn_step (e := (.iload 8, 302, 8, 0, 0, 0, 0, [])) rfl).mpr ?_
    refine (rn_step (e := (.iload 14, 304, 14, 0, 0, 0, 0, [])) rfl).mpr ?_
    refine (rn_step (e := (.iadd, 305, 0, 0, 0, 0, 0, [])) rfl).mpr (rn_cw (hr1 c1).1 (hr1 c1).2.1 ?_)
    refine (rn_step (e := (.invokevirtual 26, 308, 108, 3, 450, 0, 10, [0])) rfl).mpr (And.intro ((rn_J8 J)) ((iq_cellV J ((hr1 c1).2.2.1) (fun M1 J1 => ?_))))
    refine (rn_step (e := (.istore 15, 310, 15, 0, 0, 1, 0, [])) rfl).mpr (And.intro (rn_lnq rfl rfl) (?_))
    refine (rn_step (e := (.aload_n 0, 311, 0, 0, 0, 0, 0, [])) rfl).mpr ?_
    refine (rn_step (e := (.iload 15, 313, 15, 0, 0, 0, 0, [])) rfl).mpr ?_
    refine (rn_step (e := (.bipush 100, 315, 0, 0, 0, 0, 0, [])) rfl).mpr ?_
    refine (rn_step (e := (.idiv, 316, 0, 0, 0, 0, 0, [])) rfl).mpr (And.intro ((hr1 c1).2.2.2.1) (And.intro ((by decide)) (?_)))
    refine (rn_step (e := (.iload 15, 318, 15, 0, 0, 0, 0, [])) rfl).mpr ?_
    refine (rn_step (e := (.bipush 100, 320, 0, 0, 0, 0, 0, [])) rfl).mpr ?_
    refine (rn_step (e := (.irem, 321, 0, 0, 0, 0, 0, [])) rfl).mpr (And.intro ((hr1 c1).2.2.2.1) (And.intro ((by decide)) (?_)))
    refine (rn_step (e := (.invokevirtual 75, 324, 112, 3, 673, 0, 10, [0])) rfl).mpr (And.intro ((rn_J8 J1)) ((iq_written J1  (fun M2 J2 => ?_))))
    refine (rn_step (e := (.istore 16, 326, 16, 0, 0, 1, 0, [])) rfl).mpr (And.intro (rn_lnq rfl rfl) (?_))
    refine (rn_step (e := (.iload 16, 328, 16, 0, 0, 0, 0, [])) rfl).mpr ?_
    refine (rn_step (e := (.bipush 97, 330, 0, 0, 0, 0, 0, [])) rfl).mpr ?_
    refine (rn_step (e := (.if_icmp .lt 14, 333, 344, 0, 0, 0, 0, [])) rfl).mpr (And.intro (fun q => absurd q (hr1 c1).2.2.2.2.1) (fun q => ?_))
    refine (rn_step (e := (.iload 16, 335, 16, 0, 0, 0, 0, [])) rfl).mpr ?_
    refine (rn_step (e := (.bipush 122, 337, 0, 0, 0, 0, 0, [])) rfl).mpr ?_
    refine (rn_step (e := (.if_icmp .gt 7, 340, 344, 0, 0, 0, 0, [])) rfl).mpr (And.intro (fun q => absurd q (hr1 c1).2.2.2.2.2.1) (fun q => ?_))
    refine (rn_step (e := (.iconst 1, 341, 0, 0, 0, 0, 0, [])) rfl).mpr ?_
    refine (rn_step (e := (.goto 4, 344, 345, 0, 0, 0, 0, [])) rfl).mpr ?_
    refine (rn_step (e := (.istore 5, 347, 5, 0, 0, 1, 0, [])) rfl).mpr (And.intro (rn_lnq rfl h1) (?_))
    refine (rn_step (e := (.iinc 14 1, 350, 14, 0, 0, 0, 0, [])) rfl).mpr (rn_ci (hr1 c1).2.2.2.2.2.2.1 (hr1 c1).2.2.2.2.2.2.2 ?_)
    refine (rn_step (e := (.goto (-65), 353, 285, 0, 0, 0, 0, [])) rfl).mpr ?_
    exact (k1 c1 M2 J2)
  ·
    exact (k2 c1 M J)
set_option maxRecDepth 4000 in
theorem rb_Lw_areLabels_353 {M : rn_M} {Q : rn_Q} {G : Nat × (Nat → Int)} {N : Nat → Int} {n : Int} {K : Nat → Nat → Int} {vl1 : rn_V} {vl2 : rn_V} {vl3 : rn_V} {vl4 : rn_V} {xl6 : Int} {xl7 : Int} {vl8 : rn_V} {xl9 : Int} {vl10 : rn_V} {xl11 : Int} {xl12 : Int} {xl13 : Int} {vl14 : rn_V} {vl15 : rn_V} {vl16 : rn_V} (J : rn_Jq G M N n K)  (h1 : rn_ca vl4 = 1) (hr1 : (N 2 = 1) → ((0 : Int) ≤ xl7 ∧ xl7 < N 0) ∧ (-2147483648 : Int) ≤ rn_o N xl7 5 + 1 ∧ rn_o N xl7 5 + 1 ≤ 2147483647) (hr2 : (N 2 = 1) → (rn_card (rn_clr N xl7) 2400 = rn_o N xl7 5 + 1) → (0 : Int) ≤ xl11) (hr3 : (N 2 = 1) → (rn_card (rn_clr N xl7) 2400 = rn_o N xl7 5 + 1) → (xl13 = 0) → (((0 : Int) ≤ xl7 ∧ xl7 < N 0) ∧ (0 : Int) ≤ 0 ∧ 0 < rn_o N xl7 0) ∧ rn_aWritten N (xl11 / 100) (xl11 % 100) = rn_o N xl7 (6 + 0) ∧ (0 : Int) ≤ xl12) (hr4 : (N 2 = 1) → (rn_card (rn_clr N xl7) 2400 = rn_o N xl7 5 + 1) → (xl13 = 0) → (xl13 = 0) → (-2147483648 : Int) ≤ xl9 - 1 ∧ xl9 - 1 ≤ 2147483647 ∧ (((0 : Int) ≤ xl7 ∧ xl7 < N 0) ∧ (0 : Int) ≤ xl9 - 1 ∧ xl9 - 1 < rn_o N xl7 0) ∧ rn_aWritten N (xl12 / 100) (xl12 % 100) = rn_o N xl7 (6 + (xl9 - 1)) ∧ (-2147483648 : Int) ≤ xl6 + 1 ∧ xl6 + 1 ≤ 2147483647) (hr5 : (N 2 = 1) → (rn_card (rn_clr N xl7) 2400 = rn_o N xl7 5 + 1) → (xl13 = 0) → (¬ (xl13 = 0)) → (((0 : Int) ≤ xl7 ∧ xl7 < N 0) ∧ (0 : Int) ≤ 0 ∧ 0 < rn_o N xl7 0) ∧ rn_aWritten N (xl12 / 100) (xl12 % 100) = rn_o N xl7 (6 + 0) ∧ (-2147483648 : Int) ≤ xl6 + 1 ∧ xl6 + 1 ≤ 2147483647) (hr6 : (N 2 = 1) → (rn_card (rn_clr N xl7) 2400 = rn_o N xl7 5 + 1) → (¬ (xl13 = 0)) → (-2147483648 : Int) ≤ xl9 - 1 ∧ xl9 - 1 ≤ 2147483647 ∧ (((0 : Int) ≤ xl7 ∧ xl7 < N 0) ∧ (0 : Int) ≤ xl9 - 1 ∧ xl9 - 1 < rn_o N xl7 0) ∧ rn_aWritten N (xl11 / 100) (xl11 % 100) = rn_o N xl7 (6 + (xl9 - 1)) ∧ (0 : Int) ≤ xl12) (hr7 : (N 2 = 1) → (rn_card (rn_clr N xl7) 2400 = rn_o N xl7 5 + 1) → (¬ (xl13 = 0)) → (xl13 = 0) → (-2147483648 : Int) ≤ xl9 - 1 ∧ xl9 - 1 ≤ 2147483647 ∧ (((0 : Int) ≤ xl7 ∧ xl7 < N 0) ∧ (0 : Int) ≤ xl9 - 1 ∧ xl9 - 1 < rn_o N xl7 0) ∧ rn_aWritten N (xl12 / 100) (xl12 % 100) = rn_o N xl7 (6 + (xl9 - 1)) ∧ (-2147483648 : Int) ≤ xl6 + 1 ∧ xl6 + 1 ≤ 2147483647) (hr8 : (N 2 = 1) → (rn_card (rn_clr N xl7) 2400 = rn_o N xl7 5 + 1) → (¬ (xl13 = 0)) → (¬ (xl13 = 0)) → (((0 : Int) ≤ xl7 ∧ xl7 < N 0) ∧ (0 : Int) ≤ 0 ∧ 0 < rn_o N xl7 0) ∧ rn_aWritten N (xl12 / 100) (xl12 % 100) = rn_o N xl7 (6 + 0) ∧ (-2147483648 : Int) ≤ xl6 + 1 ∧ xl6 + 1 ≤ 2147483647) (hr9 : (N 2 = 1) → (¬ (rn_card (rn_clr N xl7) 2400 = rn_o N xl7 5 + 1)) → (-2147483648 : Int) ≤ xl6 + 1 ∧ xl6 + 1 ≤ 2147483647) (hr10 : (¬ (N 2 = 1)) → (-2147483648 : Int) ≤ xl6 + 1 ∧ xl6 + 1 ≤ 2147483647) (k1 : (N 2 = 1) → (rn_card (rn_clr N xl7) 2400 = rn_o N xl7 5 + 1) → (xl13 = 0) → (xl13 = 0) → ∀ M', rn_Jq G M' N n K → rn_WP 130 15 [rn_R 8, vl1, vl2, vl3, vl4, rn_I 1, rn_I (xl6 + 1), rn_I xl7, vl8, rn_I xl9, vl10, rn_I xl11, rn_I xl12, rn_I xl13, vl14, vl15, vl16] [] M' Q) (k2 : (N 2 = 1) → (rn_card (rn_clr N xl7) 2400 = rn_o N xl7 5 + 1) → (xl13 = 0) → (¬ (xl13 = 0)) → ∀ M', rn_Jq G M' N n K → rn_WP 130 15 [rn_R 8, vl1, vl2, vl3, vl4, rn_I 1, rn_I (xl6 + 1), rn_I xl7, vl8, rn_I xl9, vl10, rn_I xl11, rn_I xl12, rn_I xl13, vl14, vl15, vl16] [] M' Q) (k3 : (N 2 = 1) → (rn_card (rn_clr N xl7) 2400 = rn_o N xl7 5 + 1) → (¬ (xl13 = 0)) → (xl13 = 0) → ∀ M', rn_Jq G M' N n K → rn_WP 130 15 [rn_R 8, vl1, vl2, vl3, vl4, rn_I 1, rn_I (xl6 + 1), rn_I xl7, vl8, rn_I xl9, vl10, rn_I xl11, rn_I xl12, rn_I xl13, vl14, vl15, vl16] [] M' Q) (k4 : (N 2 = 1) → (rn_card (rn_clr N xl7) 2400 = rn_o N xl7 5 + 1) → (¬ (xl13 = 0)) → (¬ (xl13 = 0)) → ∀ M', rn_Jq G M' N n K → rn_WP 130 15 [rn_R 8, vl1, vl2, vl3, vl4, rn_I 1, rn_I (xl6 + 1), rn_I xl7, vl8, rn_I xl9, vl10, rn_I xl11, rn_I xl12, rn_I xl13, vl14, vl15, vl16] [] M' Q) (k5 : (N 2 = 1) → (¬ (rn_card (rn_clr N xl7) 2400 = rn_o N xl7 5 + 1)) → ∀ M', rn_Jq G M' N n K → rn_WP 130 15 [rn_R 8, vl1, vl2, vl3, vl4, rn_I 1, rn_I (xl6 + 1), rn_I xl7, vl8, rn_I xl9, vl10, rn_I xl11, rn_I xl12, rn_I xl13, vl14, vl15, vl16] [] M' Q) (k6 : (¬ (N 2 = 1)) → ∀ M', rn_Jq G M' N n K → rn_WP 130 15 [rn_R 8, vl1, vl2, vl3, vl4, rn_I 1, rn_I (xl6 + 1), rn_I xl7, vl8, rn_I xl9, vl10, rn_I xl11, rn_I xl12, rn_I xl13, vl14, vl15, vl16] [] M' Q) : rn_WP 130 353 [rn_R 8, vl1, vl2, vl3, vl4, rn_I 1, rn_I xl6, rn_I xl7, vl8, rn_I xl9, vl10, rn_I xl11, rn_I xl12, rn_I xl13, vl14, vl15, vl16] [] M Q := by
  refine (rn_step (e := (.iload 5, 355, 5, 0, 0, 0, 0, [])) rfl).mpr ?_
  refine (rn_step (e := (.ifCond .eq 110, 358, 465, 0, 0, 0, 0, [])) rfl).mpr (And.intro (fun q => absurd q (by decide)) (fun q => ?_))
  refine (rn_step (e := (.aload_n 0, 359, 0, 0, 0, 0, 0, [])) rfl).mpr ?_
  refine (rn_step (e := (.iconst 2, 360, 0, 0, 0, 0, 0, [])) rfl).mpr ?_
  refine (rn_step (e := (.invokevirtual 13, 363, 106, 2, 276, 0, 10, [0])) rfl).mpr (And.intro ((rn_J8 J)) ((iq_count2 J  (fun M1 J1 => ?_))))
  refine (rn_step (e := (.iconst 1, 364, 0, 0, 0, 0, 0, [])) rfl).mpr ?_
  refine (rn_step (e := (.if_icmp .ne 101, 367, 465, 0, 0, 0, 0, [])) rfl).mpr (And.intro (fun c1 => ?_) (fun c1 => ?_))
  ·
    refine (rn_step (e := (.aload_n 0, 368, 0, 0, 0, 0, 0, [])) rfl).mpr ?_
    refine (rn_step (e := (.iload 7, 370, 7, 0, 0, 0, 0, [])) rfl).mpr ?_
    refine (rn_step (e := (.iconst 5, 371, 0, 0, 0, 0, 0, [])) rfl).mpr ?_
    refine (rn_step (e := (.invokevirtual 19, 374, 107, 3, 426, 0, 10, [0])) rfl).mpr (And.intro ((rn_J8 J1)) ((iq_river5 J1 ((hr1 c1).1) (fun M2 J2 => ?_))))
    refine (rn_step (e := (.aload_n 0, 375, 0, 0, 0, 0, 0, [])) rfl).mpr ?_
    refine (rn_step (e := (.iload 7, 377, 7, 0, 0, 0, 0, [])) rfl).mpr ?_
    refine (rn_step (e := (.iconst 3, 378, 0, 0, 0, 0, 0, [])) rfl).mpr ?_
    refine (rn_step (e := (.invokevirtual 19, 381, 107, 3, 426, 0, 10, [0])) rfl).mpr (And.intro ((rn_J8 J2)) ((iq_river3 J2 ((hr1 c1).1) (fun M3 J3 => ?_))))
    refine (rn_step (e := (.iconst 1, 382, 0, 0, 0, 0, 0, [])) rfl).mpr ?_
    refine (rn_step (e := (.iadd, 383, 0, 0, 0, 0, 0, [])) rfl).mpr (rn_cw (hr1 c1).2.1 (hr1 c1).2.2 ?_)
    refine (rn_step (e := (.if_icmp .ne 82, 386, 465, 0, 0, 0, 0, [])) rfl).mpr (And.intro (fun c2 => ?_) (fun c2 => ?_))
    ·
      refine (rn_step (e := (.aload_n 0, 387, 0, 0, 0, 0, 0, [])) rfl).mpr ?_
      refine (rn_step (e := (.iload 11, 389, 11, 0, 0, 0, 0, [])) rfl).mpr ?_
      refine (rn_step (e := (.bipush 100, 391, 0, 0, 0, 0, 0, [])) rfl).mpr ?_
      refine (rn_step (e := (.idiv, 392, 0, 0, 0, 0, 0, [])) rfl).mpr (And.intro ((hr2 c1 c2)) (And.intro ((by decide)) (?_)))
      refine (rn_step (e := (.iload 11, 394, 11, 0, 0, 0, 0, [])) rfl).mpr ?_
      refine (rn_step (e := (.bipush 100, 396, 0, 0, 0, 0, 0, [])) rfl).mpr ?_
      refine (rn_step (e := (.irem, 397, 0, 0, 0, 0, 0, [])) rfl).mpr (And.intro ((hr2 c1 c2)) (And.intro ((by decide)) (?_)))
      refine (rn_step (e := (.invokevirtual 75, 400, 112, 3, 673, 0, 10, [0])) rfl).mpr (And.intro ((rn_J8 J3)) ((iq_written J3  (fun M4 J4 => ?_))))
      refine (rn_step (e := (.aload_n 0, 401, 0, 0, 0, 0, 0, [])) rfl).mpr ?_
      refine (rn_step (e := (.iload 7, 403, 7, 0, 0, 0, 0, [])) rfl).mpr ?_
      refine (rn_step (e := (.iload 13, 405, 13, 0, 0, 0, 0, [])) rfl).mpr ?_
      refine (rn_step (e := (.ifCond .eq 10, 408, 415, 0, 0, 0, 0, [])) rfl).mpr (And.intro (fun c3 => ?_) (fun c3 => ?_))
      ·
        refine (rn_step (e := (.iconst 0, 416, 0, 0, 0, 0, 0, [])) rfl).mpr ?_
        refine (rn_step (e := (.invokevirtual 23, 419, 109, 3, 441, 0, 10, [0])) rfl).mpr (And.intro ((rn_J8 J4)) ((iq_letterV J4 ((hr3 c1 c2 c3).1) (fun M5 J5 => ?_))))
        refine (rn_step (e := (.if_icmp .ne 43, 422, 462, 0, 0, 0, 0, [])) rfl).mpr (And.intro (fun q => ?_) (fun q => absurd (hr3 c1 c2 c3).2.1 q))
        refine (rn_step (e := (.aload_n 0, 423, 0, 0, 0, 0, 0, [])) rfl).mpr ?_
        refine (rn_step (e := (.iload 12, 425, 12, 0, 0, 0, 0, [])) rfl).mpr ?_
        refine (rn_step (e := (.bipush 100, 427, 0, 0, 0, 0, 0, [])) rfl).mpr ?_
        refine (rn_step (e := (.idiv, 428, 0, 0, 0, 0, 0, [])) rfl).mpr (And.intro ((hr3 c1 c2 c3).2.2) (And.intro ((by decide)) (?_)))
        refine (rn_step (e := (.iload 12, 430, 12, 0, 0, 0, 0, [])) rfl).mpr ?_
        refine (rn_step (e := (.bipush 100, 432, 0, 0, 0, 0, 0, [])) rfl).mpr ?_
        refine (rn_step (e := (.irem, 433, 0, 0, 0, 0, 0, [])) rfl).mpr (And.intro ((hr3 c1 c2 c3).2.2) (And.intro ((by decide)) (?_)))
        refine (rn_step (e := (.invokevirtual 75, 436, 112, 3, 673, 0, 10, [0])) rfl).mpr (And.intro ((rn_J8 J5)) ((iq_written J5  (fun M6 J6 => ?_))))
        refine (rn_step (e := (.aload_n 0, 437, 0, 0, 0, 0, 0, [])) rfl).mpr ?_
        refine (rn_step (e := (.iload 7, 439, 7, 0, 0, 0, 0, [])) rfl).mpr ?_
        refine (rn_step (e := (.iload 13, 441, 13, 0, 0, 0, 0, [])) rfl).mpr ?_
        refine (rn_step (e := (.ifCond .eq 7, 444, 448, 0, 0, 0, 0, [])) rfl).mpr (And.intro (fun c4 => ?_) (fun c4 => ?_))
        ·
          refine (rn_step (e := (.iload 9, 450, 9, 0, 0, 0, 0, [])) rfl).mpr ?_
          refine (rn_step (e := (.iconst 1, 451, 0, 0, 0, 0, 0, [])) rfl).mpr ?_
          refine (rn_step (e := (.isub, 452, 0, 0, 0, 0, 0, [])) rfl).mpr (rn_cw (hr4 c1 c2 c3 c4).1 (hr4 c1 c2 c3 c4).2.1 ?_)
          refine (rn_step (e := (.invokevirtual 23, 455, 109, 3, 441, 0, 10, [0])) rfl).mpr (And.intro ((rn_J8 J6)) ((iq_letterV J6 ((hr4 c1 c2 c3 c4).2.2.1) (fun M7 J7 => ?_))))
          refine (rn_step (e := (.if_icmp .ne 7, 458, 462, 0, 0, 0, 0, [])) rfl).mpr (And.intro (fun q => ?_) (fun q => absurd (hr4 c1 c2 c3 c4).2.2.2.1 q))
          refine (rn_step (e := (.iconst 1, 459, 0, 0, 0, 0, 0, [])) rfl).mpr ?_
          refine (rn_step (e := (.goto 4, 462, 463, 0, 0, 0, 0, [])) rfl).mpr ?_
          refine (rn_step (e := (.istore 5, 465, 5, 0, 0, 1, 0, [])) rfl).mpr (And.intro (rn_lnq rfl h1) (?_))
          refine (rn_step (e := (.iinc 6 1, 468, 6, 0, 0, 0, 0, [])) rfl).mpr (rn_ci (hr4 c1 c2 c3 c4).2.2.2.2.1 (hr4 c1 c2 c3 c4).2.2.2.2.2 ?_)
          refine (rn_step (e := (.goto (-453), 471, 15, 0, 0, 0, 0, [])) rfl).mpr ?_
          exact (k1 c1 c2 c3 c4 M7 J7)
        ·
          refine (rn_step (e := (.iconst 0, 445, 0, 0, 0, 0, 0, [])) rfl).mpr ?_
          refine (rn_step (e := (.goto 7, 448, 452, 0, 0, 0, 0, [])) rfl).mpr ?_
          refine (rn_step (e := (.invokevirtual 23, 455, 109, 3, 441, 0, 10, [0])) rfl).mpr (And.intro ((rn_J8 J6)) ((iq_letterV J6 ((hr5 c1 c2 c3 c4).1) (fun M8 J8 => ?_))))
          refine (rn_step (e := (.if_icmp .ne 7, 458, 462, 0, 0, 0, 0, [])) rfl).mpr (And.intro (fun q => ?_) (fun q => absurd (hr5 c1 c2 c3 c4).2.1 q))
          refine (rn_step (e := (.iconst 1, 459, 0, 0, 0, 0, 0, [])) rfl).mpr ?_
          refine (rn_step (e := (.goto 4, 462, 463, 0, 0, 0, 0, [])) rfl).mpr ?_
          refine (rn_step (e := (.istore 5, 465, 5, 0, 0, 1, 0, [])) rfl).mpr (And.intro (rn_lnq rfl h1) (?_))
          refine (rn_step (e := (.iinc 6 1, 468, 6, 0, 0, 0, 0, [])) rfl).mpr (rn_ci (hr5 c1 c2 c3 c4).2.2.1 (hr5 c1 c2 c3 c4).2.2.2 ?_)
          refine (rn_step (e := (.goto (-453), 471, 15, 0, 0, 0, 0, [])) rfl).mpr ?_
          exact (k2 c1 c2 c3 c4 M8 J8)
      ·
        refine (rn_step (e := (.iload 9, 410, 9, 0, 0, 0, 0, [])) rfl).mpr ?_
        refine (rn_step (e := (.iconst 1, 411, 0, 0, 0, 0, 0, [])) rfl).mpr ?_
        refine (rn_step (e := (.isub, 412, 0, 0, 0, 0, 0, [])) rfl).mpr (rn_cw (hr6 c1 c2 c3).1 (hr6 c1 c2 c3).2.1 ?_)
        refine (rn_step (e := (.goto 4, 415, 416, 0, 0, 0, 0, [])) rfl).mpr ?_
        refine (rn_step (e := (.invokevirtual 23, 419, 109, 3, 441, 0, 10, [0])) rfl).mpr (And.intro ((rn_J8 J4)) ((iq_letterV J4 ((hr6 c1 c2 c3).2.2.1) (fun M9 J9 => ?_))))
        refine (rn_step (e := (.if_icmp .ne 43, 422, 462, 0, 0, 0, 0, [])) rfl).mpr (And.intro (fun q => ?_) (fun q => absurd (hr6 c1 c2 c3).2.2.2.1 q))
        refine (rn_step (e := (.aload_n 0, 423, 0, 0, 0, 0, 0, [])) rfl).mpr ?_
        refine (rn_step (e := (.iload 12, 425, 12, 0, 0, 0, 0, [])) rfl).mpr ?_
        refine (rn_step (e := (.bipush 100, 427, 0, 0, 0, 0, 0, [])) rfl).mpr ?_
        refine (rn_step (e := (.idiv, 428, 0, 0, 0, 0, 0, [])) rfl).mpr (And.intro ((hr6 c1 c2 c3).2.2.2.2) (And.intro ((by decide)) (?_)))
        refine (rn_step (e := (.iload 12, 430, 12, 0, 0, 0, 0, [])) rfl).mpr ?_
        refine (rn_step (e := (.bipush 100, 432, 0, 0, 0, 0, 0, [])) rfl).mpr ?_
        refine (rn_step (e := (.irem, 433, 0, 0, 0, 0, 0, [])) rfl).mpr (And.intro ((hr6 c1 c2 c3).2.2.2.2) (And.intro ((by decide)) (?_)))
        refine (rn_step (e := (.invokevirtual 75, 436, 112, 3, 673, 0, 10, [0])) rfl).mpr (And.intro ((rn_J8 J9)) ((iq_written J9  (fun M10 J10 => ?_))))
        refine (rn_step (e := (.aload_n 0, 437, 0, 0, 0, 0, 0, [])) rfl).mpr ?_
        refine (rn_step (e := (.iload 7, 439, 7, 0, 0, 0, 0, [])) rfl).mpr ?_
        refine (rn_step (e := (.iload 13, 441, 13, 0, 0, 0, 0, [])) rfl).mpr ?_
        refine (rn_step (e := (.ifCond .eq 7, 444, 448, 0, 0, 0, 0, [])) rfl).mpr (And.intro (fun c4 => ?_) (fun c4 => ?_))
        ·
          refine (rn_step (e := (.iload 9, 450, 9, 0, 0, 0, 0, [])) rfl).mpr ?_
          refine (rn_step (e := (.iconst 1, 451, 0, 0, 0, 0, 0, [])) rfl).mpr ?_
          refine (rn_step (e := (.isub, 452, 0, 0, 0, 0, 0, [])) rfl).mpr (rn_cw (hr7 c1 c2 c3 c4).1 (hr7 c1 c2 c3 c4).2.1 ?_)
          refine (rn_step (e := (.invokevirtual 23, 455, 109, 3, 441, 0, 10, [0])) rfl).mpr (And.intro ((rn_J8 J10)) ((iq_letterV J10 ((hr7 c1 c2 c3 c4).2.2.1) (fun M11 J11 => ?_))))
          refine (rn_step (e := (.if_icmp .ne 7, 458, 462, 0, 0, 0, 0, [])) rfl).mpr (And.intro (fun q => ?_) (fun q => absurd (hr7 c1 c2 c3 c4).2.2.2.1 q))
          refine (rn_step (e := (.iconst 1, 459, 0, 0, 0, 0, 0, [])) rfl).mpr ?_
          refine (rn_step (e := (.goto 4, 462, 463, 0, 0, 0, 0, [])) rfl).mpr ?_
          refine (rn_step (e := (.istore 5, 465, 5, 0, 0, 1, 0, [])) rfl).mpr (And.intro (rn_lnq rfl h1) (?_))
          refine (rn_step (e := (.iinc 6 1, 468, 6, 0, 0, 0, 0, [])) rfl).mpr (rn_ci (hr7 c1 c2 c3 c4).2.2.2.2.1 (hr7 c1 c2 c3 c4).2.2.2.2.2 ?_)
          refine (rn_step (e := (.goto (-453), 471, 15, 0, 0, 0, 0, [])) rfl).mpr ?_
          exact (k3 c1 c2 c3 c4 M11 J11)
        ·
          refine (rn_step (e := (.iconst 0, 445, 0, 0, 0, 0, 0, [])) rfl).mpr ?_
          refine (rn_step (e := (.goto 7, 448, 452, 0, 0, 0, 0, [])) rfl).mpr ?_
          refine (rn_step (e := (.invokevirtual 23, 455, 109, 3, 441, 0, 10, [0])) rfl).mpr (And.intro ((rn_J8 J10)) ((iq_letterV J10 ((hr8 c1 c2 c3 c4).1) (fun M12 J12 => ?_))))
          refine (rn_step (e := (.if_icmp .ne 7, 458, 462, 0, 0, 0, 0, [])) rfl).mpr (And.intro (fun q => ?_) (fun q => absurd (hr8 c1 c2 c3 c4).2.1 q))
          refine (rn_step (e := (.iconst 1, 459, 0, 0, 0, 0, 0, [])) rfl).mpr ?_
          refine (rn_step (e := (.goto 4, 462, 463, 0, 0, 0, 0, [])) rfl).mpr ?_
          refine (rn_step (e := (.istore 5, 465, 5, 0, 0, 1, 0, [])) rfl).mpr (And.intro (rn_lnq rfl h1) (?_))
          refine (rn_step (e := (.iinc 6 1, 468, 6, 0, 0, 0, 0, [])) rfl).mpr (rn_ci (hr8 c1 c2 c3 c4).2.2.1 (hr8 c1 c2 c3 c4).2.2.2 ?_)
          refine (rn_step (e := (.goto (-453), 471, 15, 0, 0, 0, 0, [])) rfl).mpr ?_
          exact (k4 c1 c2 c3 c4 M12 J12)
    ·
      refine (rn_step (e := (.iinc 6 1, 468, 6, 0, 0, 0, 0, [])) rfl).mpr (rn_ci (hr9 c1 c2).1 (hr9 c1 c2).2 ?_)
      refine (rn_step (e := (.goto (-453), 471, 15, 0, 0, 0, 0, [])) rfl).mpr ?_
      exact (k5 c1 c2 M3 J3)
  ·
    refine (rn_step (e := (.iinc 6 1, 468, 6, 0, 0, 0, 0, [])) rfl).mpr (rn_ci (hr10 c1).1 (hr10 c1).2 ?_)
    refine (rn_step (e := (.goto (-453), 471, 15, 0, 0, 0, 0, [])) rfl).mpr ?_
    exact (k6 c1 M1 J1)
set_option maxRecDepth 4000 in
theorem rb_Lw_areLabels_480 {M : rn_M} {Q : rn_Q} {G : Nat × (Nat → Int)} {N : Nat → Int} {n : Int} {K : Nat → Nat → Int} {vl1 : rn_V} {vl2 : rn_V} {xl3 : Int} {vl4 : rn_V} {xl6 : Int} {xl7 : Int} {xl8 : Int} {vl9 : rn_V} {vl10 : rn_V} {vl11 : rn_V} {vl12 : rn_V} {vl13 : rn_V} {vl14 : rn_V} {vl15 : rn_V} {vl16 : rn_V} (J : rn_Jq G M N n K)   (hr1 : (xl8 < N 0) → (rn_and (rn_shr xl3 xl8) 1 = 0) → ((0 : Int) ≤ xl8 ∧ xl8 < N 0) ∧ (-2147483648 : Int) ≤ xl7 + (rn_lo N xl8) ∧ xl7 + (rn_lo N xl8) ≤ 2147483647 ∧ (-2147483648 : Int) ≤ xl8 + 1 ∧ xl8 + 1 ≤ 2147483647) (hr2 : (xl8 < N 0) → (¬ (rn_and (rn_shr xl3 xl8) 1 = 0)) → ((0 : Int) ≤ xl8 ∧ xl8 < N 0) ∧ (-2147483648 : Int) ≤ xl7 + (rn_lo N xl8) ∧ xl7 + (rn_lo N xl8) ≤ 2147483647 ∧ (-2147483648 : Int) ≤ xl8 + 1 ∧ xl8 + 1 ≤ 2147483647) (k1 : (xl8 < N 0) → (rn_and (rn_shr xl3 xl8) 1 = 0) → ∀ M', rn_Jq G M' N n K → rn_WP 130 480 [rn_R 8, vl1, vl2, rn_I xl3, vl4, rn_I 1, rn_I (rn_or xl6 (rn_shl 1 xl8)), rn_I (xl7 + (rn_lo N xl8)), rn_I (xl8 + 1), vl9, vl10, vl11, vl12, vl13, vl14, vl15, vl16] [] M' Q) (k2 : (xl8 < N 0) → (¬ (rn_and (rn_shr xl3 xl8) 1 = 0)) → ∀ M', rn_Jq G M' N n K → rn_WP 130 480 [rn_R 8, vl1, vl2, rn_I xl3, vl4, rn_I 1, rn_I (rn_or xl6 0), rn_I (xl7 + (rn_lo N xl8)), rn_I (xl8 + 1), vl9, vl10, vl11, vl12, vl13, vl14, vl15, vl16] [] M' Q) (k3 : (¬ (xl8 < N 0)) → ∀ M', rn_Jq G M' N n K → rn_WP 130 530 [rn_R 8, vl1, vl2, rn_I xl3, vl4, rn_I 1, rn_I xl6, rn_I xl7, rn_I xl8, vl9, vl10, vl11, vl12, vl13, vl14, vl15, vl16] [] M' Q) : rn_WP 130 480 [rn_R 8, vl1, vl2, rn_I xl3, vl4, rn_I 1, rn_I xl6, rn_I xl7, rn_I xl8, vl9, vl10, vl11, vl12, vl13, vl14, vl15, vl16] [] M Q := by
  refine (rn_step (e := (.iload 8, 482, 8, 0, 0, 0, 0, [])) rfl).mpr ?_
  refine (rn_step (e := (.aload_n 0, 483, 0, 0, 0, 0, 0, [])) rfl).mpr ?_
  refine (rn_step (e := (.iconst 0, 484, 0, 0, 0, 0, 0, [])) rfl).mpr ?_
  refine (rn_step (e := (.invokevirtual 13, 487, 106, 2, 276, 0, 10, [0])) rfl).mpr (And.intro ((rn_J8 J)) ((iq_count0 J  (fun M1 J1 => ?_))))
  refine (rn_step (e := (.if_icmp .ge 43, 490, 530, 0, 0, 0, 0, [])) rfl).mpr (And.intro (fun c1 => ?_) (fun c1 => ?_))
  ·
    refine (rn_step (e := (.iload 6, 492, 6, 0, 0, 0, 0, [])) rfl).mpr ?_
    refine (rn_step (e := (.iload_n 3, 493, 3, 0, 0, 0, 0, [])) rfl).mpr ?_
    refine (rn_step (e := (.iload 8, 495, 8, 0, 0, 0, 0, [])) rfl).mpr ?_
    refine (rn_step (e := (.ishr, 496, 0, 0, 0, 0, 0, [])) rfl).mpr ?_
    refine (rn_step (e := (.iconst 1, 497, 0, 0, 0, 0, 0, [])) rfl).mpr ?_
    refine (rn_step (e := (.iand, 498, 0, 0, 0, 0, 0, [])) rfl).mpr ?_
    refine (rn_step (e := (.ifCond .ne 10, 501, 508, 0, 0, 0, 0, [])) rfl).mpr (And.intro (fun c2 => ?_) (fun c2 => ?_))
    ·
      refine (rn_step (e := (.iconst 1, 502, 0, 0, 0, 0, 0, [])) rfl).mpr ?_
      refine (rn_step (e := (.iload 8, 504, 8, 0, 0, 0, 0, [])) rfl).mpr ?_
      refine (rn_step (e := (.ishl, 505, 0, 0, 0, 0, 0, [])) rfl).mpr ?_
      refine (rn_step (e := (.goto 4, 508, 509, 0, 0, 0, 0, [])) rfl).mpr ?_
      refine (rn_step (e := (.ior, 510, 0, 0, 0, 0, 0, [])) rfl).mpr ?_
      refine (rn_step (e := (.istore 6, 512, 6, 0, 0, 1, 0, [])) rfl).mpr (And.intro (rn_lnq rfl rfl) (?_))
      refine (rn_step (e := (.iload 7, 514, 7, 0, 0, 0, 0, [])) rfl).mpr ?_
      refine (rn_step (e := (.aload_n 0, 515, 0, 0, 0, 0, 0, [])) rfl).mpr ?_
      refine (rn_step (e := (.iload 8, 517, 8, 0, 0, 0, 0, [])) rfl).mpr ?_
      refine (rn_step (e := (.iconst 4, 518, 0, 0, 0, 0, 0, [])) rfl).mpr ?_
      refine (rn_step (e := (.invokevirtual 19, 521, 107, 3, 426, 0, 10, [0])) rfl).mpr (And.intro ((rn_J8 J1)) ((iq_river4 J1 ((hr1 c1 c2).1) (fun M2 J2 => ?_))))
      refine (rn_step (e := (.iadd, 522, 0, 0, 0, 0, 0, [])) rfl).mpr (rn_cw (hr1 c1 c2).2.1 (hr1 c1 c2).2.2.1 ?_)
      refine (rn_step (e := (.istore 7, 524, 7, 0, 0, 1, 0, [])) rfl).mpr (And.intro (rn_lnq rfl rfl) (?_))
      refine (rn_step (e := (.iinc 8 1, 527, 8, 0, 0, 0, 0, [])) rfl).mpr (rn_ci (hr1 c1 c2).2.2.2.1 (hr1 c1 c2).2.2.2.2 ?_)
      refine (rn_step (e := (.goto (-47), 530, 480, 0, 0, 0, 0, [])) rfl).mpr ?_
      exact (k1 c1 c2 M2 J2)
    ·
      refine (rn_step (e := (.iconst 0, 509, 0, 0, 0, 0, 0, [])) rfl).mpr ?_
      refine (rn_step (e := (.ior, 510, 0, 0, 0, 0, 0, [])) rfl).mpr ?_
      refine (rn_step (e := (.istore 6, 512, 6, 0, 0, 1, 0, [])) rfl).mpr (And.intro (rn_lnq rfl rfl) (?_))
      refine (rn_step (e := (.iload 7, 514, 7, 0, 0, 0, 0, [])) rfl).mpr ?_
      refine (rn_step (e := (.aload_n 0, 515, 0, 0, 0, 0, 0, [])) rfl).mpr ?_
      refine (rn_step (e := (.iload 8, 517, 8, 0, 0, 0, 0, [])) rfl).mpr ?_
      refine (rn_step (e := (.iconst 4, 518, 0, 0, 0, 0, 0, [])) rfl).mpr ?_
      refine (rn_step (e := (.invokevirtual 19, 521, 107, 3, 426, 0, 10, [0])) rfl).mpr (And.intro ((rn_J8 J1)) ((iq_river4 J1 ((hr2 c1 c2).1) (fun M3 J3 => ?_))))
      refine (rn_step (e := (.iadd, 522, 0, 0, 0, 0, 0, [])) rfl).mpr (rn_cw (hr2 c1 c2).2.1 (hr2 c1 c2).2.2.1 ?_)
      refine (rn_step (e := (.istore 7, 524, 7, 0, 0, 1, 0, [])) rfl).mpr (And.intro (rn_lnq rfl rfl) (?_))
      refine (rn_step (e := (.iinc 8 1, 527, 8, 0, 0, 0, 0, [])) rfl).mpr (rn_ci (hr2 c1 c2).2.2.2.1 (hr2 c1 c2).2.2.2.2 ?_)
      refine (rn_step (e := (.goto (-47), 530, 480, 0, 0, 0, 0, [])) rfl).mpr ?_
      exact (k2 c1 c2 M3 J3)
  ·
    exact (k3 c1 M1 J1)
set_option maxRecDepth 4000 in
theorem rb_Lw_areLabels_530 {M : rn_M} {Q : rn_Q} {G : Nat × (Nat → Int)} {N : Nat → Int} {n : Int} {K : Nat → Nat → Int} {xl1 : Int} {xl2 : Int} {vl3 : rn_V} {xl4 : Int} {xl6 : Int} {xl7 : Int} {vl8 : rn_V} {vl9 : rn_V} {vl10 : rn_V} {vl11 : rn_V} {vl12 : rn_V} {vl13 : rn_V} {vl14 : rn_V} {vl15 : rn_V} {vl16 : rn_V} (J : rn_Jq G M N n K)   (hr1 : rn_cs N (N 2).toNat = xl1 ∧ rn_card (fun l => rn_mf N l) (N 2).toNat = xl2 ∧ rn_wo N (N 0).toNat = xl6 ∧ xl7 = N 2 ∧ ¬ (xl4 < rn_card (rn_cv2 N (N 2)) 2400)) (hr2 : (xl4 = 0) → (rn_card (rn_cv2 N (N 2)) 2400 = 0) → (N 2 = 1) → rn_card (rn_cv2 N (N 2)) 2400 = xl4) (hr3 : (xl4 = 0) → (¬ (rn_card (rn_cv2 N (N 2)) 2400 = 0)) → False) (hr4 : (¬ (xl4 = 0)) → (rn_card (rn_cv2 N (N 2)) 2400 = 0) → False) (hr5 : (¬ (xl4 = 0)) → (¬ (rn_card (rn_cv2 N (N 2)) 2400 = 0)) → (N 2 = 1) → rn_card (rn_cv2 N (N 2)) 2400 = xl4) (k1 : (xl4 = 0) → (rn_card (rn_cv2 N (N 2)) 2400 = 0) → (N 2 = 1) → ∀ M', rn_Jq G M' N n K → Q (some (rn_I 1)) M') (k2 : (xl4 = 0) → (rn_card (rn_cv2 N (N 2)) 2400 = 0) → (¬ (N 2 = 1)) → ∀ M', rn_Jq G M' N n K → Q (some (rn_I 1)) M') (k3 : (¬ (xl4 = 0)) → (¬ (rn_card (rn_cv2 N (N 2)) 2400 = 0)) → (N 2 = 1) → ∀ M', rn_Jq G M' N n K → Q (some (rn_I 1)) M') (k4 : (¬ (xl4 = 0)) → (¬ (rn_card (rn_cv2 N (N 2)) 2400 = 0)) → (¬ (N 2 = 1)) → ∀ M', rn_Jq G M' N n K → Q (some (rn_I 1)) M') : rn_WP 130 530 [rn_R 8, rn_I xl1, rn_I xl2, vl3, rn_I xl4, rn_I 1, rn_I xl6, rn_I xl7, vl8, vl9, vl10, vl11, vl12, vl13, vl14, vl15, vl16] [] M Q := by
  refine (rn_step (e := (.iload 5, 532, 5, 0, 0, 0, 0, [])) rfl).mpr ?_
  refine (rn_step (e := (.ifCond .eq 104, 535, 636, 0, 0, 0, 0, [])) rfl).mpr (And.intro (fun q => absurd q (by decide)) (fun q => ?_))
  refine (rn_step (e := (.aload_n 0, 536, 0, 0, 0, 0, 0, [])) rfl).mpr ?_
  refine (rn_step (e := (.iconst 4, 537, 0, 0, 0, 0, 0, [])) rfl).mpr ?_
  refine (rn_step (e := (.invokevirtual 13, 540, 106, 2, 276, 0, 10, [0])) rfl).mpr (And.intro ((rn_J8 J)) ((iq_count4 J  (fun M1 J1 => ?_))))
  refine (rn_step (e := (.iload_n 1, 541, 1, 0, 0, 0, 0, [])) rfl).mpr ?_
  refine (rn_step (e := (.if_icmp .ne 95, 544, 636, 0, 0, 0, 0, [])) rfl).mpr (And.intro (fun q => ?_) (fun q => absurd hr1.1 q))
  refine (rn_step (e := (.aload_n 0, 545, 0, 0, 0, 0, 0, [])) rfl).mpr ?_
  refine (rn_step (e := (.iconst 5, 546, 0, 0, 0, 0, 0, [])) rfl).mpr ?_
  refine (rn_step (e := (.invokevirtual 13, 549, 106, 2, 276, 0, 10, [0])) rfl).mpr (And.intro ((rn_J8 J1)) ((iq_count5 J1  (fun M2 J2 => ?_))))
  refine (rn_step (e := (.iload_n 2, 550, 2, 0, 0, 0, 0, [])) rfl).mpr ?_
  refine (rn_step (e := (.if_icmp .ne 86, 553, 636, 0, 0, 0, 0, [])) rfl).mpr (And.intro (fun q => ?_) (fun q => absurd hr1.2.1 q))
  refine (rn_step (e := (.aload_n 0, 554, 0, 0, 0, 0, 0, [])) rfl).mpr ?_
  refine (rn_step (e := (.bipush 6, 556, 0, 0, 0, 0, 0, [])) rfl).mpr ?_
  refine (rn_step (e := (.invokevirtual 13, 559, 106, 2, 276, 0, 10, [0])) rfl).mpr (And.intro ((rn_J8 J2)) ((iq_count6 J2  (fun M3 J3 => ?_))))
  refine (rn_step (e := (.iload 6, 561, 6, 0, 0, 0, 0, [])) rfl).mpr ?_
  refine (rn_step (e := (.if_icmp .ne 75, 564, 636, 0, 0, 0, 0, [])) rfl).mpr (And.intro (fun q => ?_) (fun q => absurd hr1.2.2.1 q))
  refine (rn_step (e := (.iload 7, 566, 7, 0, 0, 0, 0, [])) rfl).mpr ?_
  refine (rn_step (e := (.aload_n 0, 567, 0, 0, 0, 0, 0, [])) rfl).mpr ?_
  refine (rn_step (e := (.iconst 2, 568, 0, 0, 0, 0, 0, [])) rfl).mpr ?_
  refine (rn_step (e := (.invokevirtual 13, 571, 106, 2, 276, 0, 10, [0])) rfl).mpr (And.intro ((rn_J8 J3)) ((iq_count2 J3  (fun M4 J4 => ?_))))
  refine (rn_step (e := (.if_icmp .ne 65, 574, 636, 0, 0, 0, 0, [])) rfl).mpr (And.intro (fun q => ?_) (fun q => absurd hr1.2.2.2.1 q))
  refine (rn_step (e := (.aload_n 0, 575, 0, 0, 0, 0, 0, [])) rfl).mpr ?_
  refine (rn_step (e := (.bipush 7, 577, 0, 0, 0, 0, 0, [])) rfl).mpr ?_
  refine (rn_step (e := (.invokevirtual 13, 580, 106, 2, 276, 0, 10, [0])) rfl).mpr (And.intro ((rn_J8 J4)) ((iq_count7 J4  (fun M5 J5 => ?_))))
  refine (rn_step (e := (.iload 4, 582, 4, 0, 0, 0, 0, [])) rfl).mpr ?_
  refine (rn_step (e := (.if_icmp .gt 54, 585, 636, 0, 0, 0, 0, [])) rfl).mpr (And.intro (fun q => absurd q hr1.2.2.2.2) (fun q => ?_))
  refine (rn_step (e := (.iload 4, 587, 4, 0, 0, 0, 0, [])) rfl).mpr ?_
  refine (rn_step (e := (.ifCond .ne 7, 590, 594, 0, 0, 0, 0, [])) rfl).mpr (And.intro (fun c1 => ?_) (fun c1 => ?_))
  ·
    refine (rn_step (e := (.iconst 1, 591, 0, 0, 0, 0, 0, [])) rfl).mpr ?_
    refine (rn_step (e := (.goto 4, 594, 595, 0, 0, 0, 0, [])) rfl).mpr ?_
    refine (rn_step (e := (.aload_n 0, 596, 0, 0, 0, 0, 0, [])) rfl).mpr ?_
    refine (rn_step (e := (.bipush 7, 598, 0, 0, 0, 0, 0, [])) rfl).mpr ?_
    refine (rn_step (e := (.invokevirtual 13, 601, 106, 2, 276, 0, 10, [0])) rfl).mpr (And.intro ((rn_J8 J5)) ((iq_count7 J5  (fun M6 J6 => ?_))))
    refine (rn_step (e := (.ifCond .ne 7, 604, 608, 0, 0, 0, 0, [])) rfl).mpr (And.intro (fun c2 => ?_) (fun c2 => ?_))
    ·
      refine (rn_step (e := (.iconst 1, 605, 0, 0, 0, 0, 0, [])) rfl).mpr ?_
      refine (rn_step (e := (.goto 4, 608, 609, 0, 0, 0, 0, [])) rfl).mpr ?_
      refine (rn_step (e := (.if_icmp .ne 27, 612, 636, 0, 0, 0, 0, [])) rfl).mpr (And.intro (fun q => ?_) (fun q => absurd (by decide) q))
      refine (rn_step (e := (.aload_n 0, 613, 0, 0, 0, 0, 0, [])) rfl).mpr ?_
      refine (rn_step (e := (.iconst 2, 614, 0, 0, 0, 0, 0, [])) rfl).mpr ?_
      refine (rn_step (e := (.invokevirtual 13, 617, 106, 2, 276, 0, 10, [0])) rfl).mpr (And.intro ((rn_J8 J6)) ((iq_count2 J6  (fun M7 J7 => ?_))))
      refine (rn_step (e := (.iconst 1, 618, 0, 0, 0, 0, 0, [])) rfl).mpr ?_
      refine (rn_step (e := (.if_icmp .ne 14, 621, 632, 0, 0, 0, 0, [])) rfl).mpr (And.intro (fun c3 => ?_) (fun c3 => ?_))
      ·
        refine (rn_step (e := (.aload_n 0, 622, 0, 0, 0, 0, 0, [])) rfl).mpr ?_
        refine (rn_step (e := (.bipush 7, 624, 0, 0, 0, 0, 0, [])) rfl).mpr ?_
        refine (rn_step (e := (.invokevirtual 13, 627, 106, 2, 276, 0, 10, [0])) rfl).mpr (And.intro ((rn_J8 J7)) ((iq_count7 J7  (fun M8 J8 => ?_))))
        refine (rn_step (e := (.iload 4, 629, 4, 0, 0, 0, 0, [])) rfl).mpr ?_
        refine (rn_step (e := (.if_icmp .ne 7, 632, 636, 0, 0, 0, 0, [])) rfl).mpr (And.intro (fun q => ?_) (fun q => absurd (hr2 c1 c2 c3) q))
        refine (rn_step (e := (.iconst 1, 633, 0, 0, 0, 0, 0, [])) rfl).mpr ?_
        refine (rn_step (e := (.goto 4, 636, 637, 0, 0, 0, 0, [])) rfl).mpr ?_
        exact (rn_step (e := (.ireturn, 638, 0, 0, 0, 1, 0, [])) rfl).mpr (And.intro ((Or.inr rfl)) ((k1 c1 c2 c3 M8 J8)))
      ·
        refine (rn_step (e := (.iconst 1, 633, 0, 0, 0, 0, 0, [])) rfl).mpr ?_
        refine (rn_step (e := (.goto 4, 636, 637, 0, 0, 0, 0, [])) rfl).mpr ?_
        exact (rn_step (e := (.ireturn, 638, 0, 0, 0, 1, 0, [])) rfl).mpr (And.intro ((Or.inr rfl)) ((k2 c1 c2 c3 M7 J7)))
    ·
      refine (rn_step (e := (.iconst 0, 609, 0, 0, 0, 0, 0, [])) rfl).mpr ?_
      exact False.elim (hr3 c1 c2)
  ·
    refine (rn_step (e := (.iconst 0, 595, 0, 0, 0, 0, 0, [])) rfl).mpr ?_
    refine (rn_step (e := (.aload_n 0, 596, 0, 0, 0, 0, 0, [])) rfl).mpr ?_
    refine (rn_step (e := (.bipush 7, 598, 0, 0, 0, 0, 0, [])) rfl).mpr ?_
    refine (rn_step (e := (.invokevirtual 13, 601, 106, 2, 276, 0, 10, [0])) rfl).mpr (And.intro ((rn_J8 J5)) ((iq_count7 J5  (fun M9 J9 => ?_))))
    refine (rn_step (e := (.ifCond .ne 7, 604, 608, 0, 0, 0, 0, [])) rfl).mpr (And.intro (fun c2 => ?_) (fun c2 => ?_))
    ·
      refine (rn_step (e := (.iconst 1, 605, 0, 0, 0, 0, 0, [])) rfl).mpr ?_
      refine (rn_step (e := (.goto 4, 608, 609, 0, 0, 0, 0, [])) rfl).mpr ?_
      exact False.elim (hr4 c1 c2)
    ·
      refine (rn_step (e := (.iconst 0, 609, 0, 0, 0, 0, 0, [])) rfl).mpr ?_
      refine (rn_step (e := (.if_icmp .ne 27, 612, 636, 0, 0, 0, 0, [])) rfl).mpr (And.intro (fun q => ?_) (fun q => absurd (by decide) q))
      refine (rn_step (e := (.aload_n 0, 613, 0, 0, 0, 0, 0, [])) rfl).mpr ?_
      refine (rn_step (e := (.iconst 2, 614, 0, 0, 0, 0, 0, [])) rfl).mpr ?_
      refine (rn_step (e := (.invokevirtual 13, 617, 106, 2, 276, 0, 10, [0])) rfl).mpr (And.intro ((rn_J8 J9)) ((iq_count2 J9  (fun M10 J10 => ?_))))
      refine (rn_step (e := (.iconst 1, 618, 0, 0, 0, 0, 0, [])) rfl).mpr ?_
      refine (rn_step (e := (.if_icmp .ne 14, 621, 632, 0, 0, 0, 0, [])) rfl).mpr (And.intro (fun c3 => ?_) (fun c3 => ?_))
      ·
        refine (rn_step (e := (.aload_n 0, 622, 0, 0, 0, 0, 0, [])) rfl).mpr ?_
        refine (rn_step (e := (.bipush 7, 624, 0, 0, 0, 0, 0, [])) rfl).mpr ?_
        refine (rn_step (e := (.invokevirtual 13, 627, 106, 2, 276, 0, 10, [0])) rfl).mpr (And.intro ((rn_J8 J10)) ((iq_count7 J10  (fun M11 J11 => ?_))))
        refine (rn_step (e := (.iload 4, 629, 4, 0, 0, 0, 0, [])) rfl).mpr ?_
        refine (rn_step (e := (.if_icmp .ne 7, 632, 636, 0, 0, 0, 0, [])) rfl).mpr (And.intro (fun q => ?_) (fun q => absurd (hr5 c1 c2 c3) q))
        refine (rn_step (e := (.iconst 1, 633, 0, 0, 0, 0, 0, [])) rfl).mpr ?_
        refine (rn_step (e := (.goto 4, 636, 637, 0, 0, 0, 0, [])) rfl).mpr ?_
        exact (rn_step (e := (.ireturn, 638, 0, 0, 0, 1, 0, [])) rfl).mpr (And.intro ((Or.inr rfl)) ((k3 c1 c2 c3 M11 J11)))
      ·
        refine (rn_step (e := (.iconst 1, 633, 0, 0, 0, 0, 0, [])) rfl).mpr ?_
        refine (rn_step (e := (.goto 4, 636, 637, 0, 0, 0, 0, [])) rfl).mpr ?_
        exact (rn_step (e := (.ireturn, 638, 0, 0, 0, 1, 0, [])) rfl).mpr (And.intro ((Or.inr rfl)) ((k4 c1 c2 c3 M10 J10)))
