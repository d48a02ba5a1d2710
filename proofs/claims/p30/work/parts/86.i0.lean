theorem re_Lw_law {M : rn_M} {Q : rn_Q} {v0 : rn_V} (h : rn_WP 215 0 [v0, rn_J, rn_J, rn_J, rn_J, rn_J, rn_J, rn_J, rn_J, rn_J, rn_J, rn_J] [] M Q) : rn_ME 215 [v0] M Q := h
set_option maxRecDepth 4000 in
theorem rb_Lw_law_0 {M : rn_M} {Q : rn_Q} {vl0 : rn_V} {vl1 : rn_V} {vl2 : rn_V} {vl3 : rn_V} {vl4 : rn_V} {vl5 : rn_V} {vl6 : rn_V} {vl7 : rn_V} {vl8 : rn_V} {vl9 : rn_V} {vl10 : rn_V} {vl11 : rn_V}  (h1 : rn_kd (rn_nw M 10 4) M.1.length = 10) (hr1 : 1 ≤ M.2.1.1 ∧ 4 ≤ M.2.1.2) (k1 : 600 ≤ (rn_nw M 10 4).2.1.1 ∧ 50000 ≤ (rn_nw M 10 4).2.1.2 ∧ rn_ME 90 [rn_R M.1.length] (rn_sb (rn_nw M 10 4) 600 50000) (fun r M1 => rn_WP 215 7 [vl0, vl1, vl2, vl3, vl4, vl5, vl6, vl7, vl8, vl9, vl10, vl11] (r.toList ++ [rn_R M.1.length]) (rn_sb M1 ((rn_nw M 10 4).2.1.1 - 600) ((rn_nw M 10 4).2.1.2 - 50000)) Q)) : rn_WP 215 0 [vl0, vl1, vl2, vl3, vl4, vl5, vl6, vl7, vl8, vl9, vl10, vl11] [] M Q := by
  refine (rn_step (e := (.new 14, 3, 9, 0, 29, 0, 0, [])) rfl).mpr (And.intro (hr1.1) (And.intro (hr1.2) (?_)))
  refine (rn_step (e := (.dup, 4, 0, 0, 0, 0, 0, [])) rfl).mpr ?_
  exact (rn_step (e := (.invokespecial 107, 7, 90, 1, 31, 4, 10, [0])) rfl).mpr (And.intro (h1) (k1))
set_option maxRecDepth 4000 in
theorem rb_Lw_law_7 {M : rn_M} {Q : rn_Q} {G : Nat × (Nat → Int)} {N : Nat → Int} {n : Int} {K : Nat → Nat → Int} {vl1 : rn_V} {vl2 : rn_V} {vl3 : rn_V} {vl4 : rn_V} {vl5 : rn_V} {vl6 : rn_V} {vl7 : rn_V} {vl8 : rn_V} {vl9 : rn_V} {vl10 : rn_V} {vl11 : rn_V} (J : rn_Jq G M N n K)   (k1 : ∀ M', rn_Jq G M' N n K → rn_ME 105 [rn_R 8] M' (fun r M1 => rn_WP 215 12 [rn_R 0, rn_R 8, vl2, vl3, vl4, vl5, vl6, vl7, vl8, vl9, vl10, vl11] (r.toList ++ []) M1 Q)) : rn_WP 215 7 [rn_R 0, vl1, vl2, vl3, vl4, vl5, vl6, vl7, vl8, vl9, vl10, vl11] [rn_R 8] M Q := by
  refine (rn_step (e := (.astore_n 1, 8, 1, 0, 0, 1, 0, [])) rfl).mpr (And.intro (rn_lnq rfl rfl) (?_))
  refine (rn_step (e := (.aload_n 1, 9, 1, 0, 0, 0, 0, [])) rfl).mpr ?_
  exact (rn_step (e := (.invokevirtual 97, 12, 105, 1, 265, 0, 10, [0])) rfl).mpr (And.intro ((rn_J8 J)) ((k1 M J)))
set_option maxRecDepth 4000 in
theorem rb_Lw_law_12 {M : rn_M} {Q : rn_Q} {G : Nat × (Nat → Int)} {N : Nat → Int} {n : Int} {K : Nat → Nat → Int} {vl2 : rn_V} {vl3 : rn_V} {vl4 : rn_V} {vl5 : rn_V} {vl6 : rn_V} {vl7 : rn_V} {vl8 : rn_V} {vl9 : rn_V} {vl10 : rn_V} {vl11 : rn_V} {xs0 : Int} (J : rn_Jq G M N n K)   (hr1 : xs0 = (-2)) (k1 : ∀ M', rn_Jq G M' N n K → rn_WP 215 39 [rn_R 0, rn_R 8, rn_I 1, rn_I 0, vl4, vl5, vl6, vl7, vl8, vl9, vl10, vl11] [] M' Q) : rn_WP 215 12 [rn_R 0, rn_R 8, vl2, vl3, vl4, vl5, vl6, vl7, vl8, vl9, vl10, vl11] [rn_I xs0] M Q := by
  refine (rn_step (e := (.bipush (-2), 14, 0, 0, 0, 0, 0, [])) rfl).mpr ?_
  refine (rn_step (e := (.if_icmp .ne 21, 17, 35, 0, 0, 0, 0, [])) rfl).mpr (And.intro (fun q => ?_) (fun q => absurd hr1 q))
  refine (rn_step (e := (.aload_n 1, 18, 1, 0, 0, 0, 0, [])) rfl).mpr ?_
  refine (rn_step (e := (.invokestatic 108, 21, 127, 1, 497, 0, 0, [0])) rfl).mpr (iq_refused J  (fun M1 J1 => ?_))
  refine (rn_step (e := (.ifCond .eq 14, 24, 35, 0, 0, 0, 0, [])) rfl).mpr (And.intro (fun q => absurd q (by decide)) (fun q => ?_))
  refine (rn_step (e := (.aload_n 1, 25, 1, 0, 0, 0, 0, [])) rfl).mpr ?_
  refine (rn_step (e := (.invokestatic 112, 28, 130, 1, 732, 0, 0, [0])) rfl).mpr (iq_areLabels J1  (fun M2 J2 => ?_))
  refine (rn_step (e := (.ifCond .eq 7, 31, 35, 0, 0, 0, 0, [])) rfl).mpr (And.intro (fun q => absurd q (by decide)) (fun q => ?_))
  refine (rn_step (e := (.iconst 1, 32, 0, 0, 0, 0, 0, [])) rfl).mpr ?_
  refine (rn_step (e := (.goto 4, 35, 36, 0, 0, 0, 0, [])) rfl).mpr ?_
  refine (rn_step (e := (.istore_n 2, 37, 2, 0, 0, 1, 0, [])) rfl).mpr (And.intro (rn_lnq rfl rfl) (?_))
  refine (rn_step (e := (.iconst 0, 38, 0, 0, 0, 0, 0, [])) rfl).mpr ?_
  refine (rn_step (e := (.istore_n 3, 39, 3, 0, 0, 1, 0, [])) rfl).mpr (And.intro (rn_lnq rfl rfl) (?_))
  exact (k1 M2 J2)
set_option maxRecDepth 4000 in
theorem rb_Lw_law_39 {M : rn_M} {Q : rn_Q} {G : Nat × (Nat → Int)} {N : Nat → Int} {n : Int} {K : Nat → Nat → Int} {xl3 : Int} {vl4 : rn_V} {vl5 : rn_V} {vl6 : rn_V} {vl7 : rn_V} {vl8 : rn_V} {vl9 : rn_V} {vl10 : rn_V} {vl11 : rn_V} (J : rn_Jq G M N n K)   (hr1 : (xl3 < 70) → (-2147483648 : Int) ≤ 2 * xl3 ∧ 2 * xl3 ≤ 2147483647 ∧ (0 : Int) ≤ 2 * xl3 ∧ (-2147483648 : Int) ≤ (2 * xl3) + 1 ∧ (2 * xl3) + 1 ≤ 2147483647 ∧ (0 : Int) ≤ (2 * xl3) + 1) (hr2 : (xl3 < 70) → (xl3 < 4) → (-2147483648 : Int) ≤ 20 * (rn_and (rn_shr (rn_cx G (2 * xl3)) 4) 2147483647 % 99999) ∧ 20 * (rn_and (rn_shr (rn_cx G (2 * xl3)) 4) 2147483647 % 99999) ≤ 2147483647 ∧ (-2147483648 : Int) ≤ (20 * (rn_and (rn_shr (rn_cx G (2 * xl3)) 4) 2147483647 % 99999)) + 0 ∧ (20 * (rn_and (rn_shr (rn_cx G (2 * xl3)) 4) 2147483647 % 99999)) + 0 ≤ 2147483647) (hr3 : (xl3 < 70) → (¬ (xl3 < 4)) → (xl3 < 6) → (-2147483648 : Int) ≤ 20 * (rn_and (rn_shr (rn_cx G (2 * xl3)) 4) 2147483647 % 99999) ∧ 20 * (rn_and (rn_shr (rn_cx G (2 * xl3)) 4) 2147483647 % 99999) ≤ 2147483647 ∧ (-2147483648 : Int) ≤ (20 * (rn_and (rn_shr (rn_cx G (2 * xl3)) 4) 2147483647 % 99999)) + 1 ∧ (20 * (rn_and (rn_shr (rn_cx G (2 * xl3)) 4) 2147483647 % 99999)) + 1 ≤ 2147483647) (hr4 : (xl3 < 70) → (¬ (xl3 < 4)) → (¬ (xl3 < 6)) → (xl3 < 34) → (-2147483648 : Int) ≤ 20 * (rn_and (rn_shr (rn_cx G (2 * xl3)) 4) 2147483647 % 99999) ∧ 20 * (rn_and (rn_shr (rn_cx G (2 * xl3)) 4) 2147483647 % 99999) ≤ 2147483647 ∧ (-2147483648 : Int) ≤ (20 * (rn_and (rn_shr (rn_cx G (2 * xl3)) 4) 2147483647 % 99999)) + 2 ∧ (20 * (rn_and (rn_shr (rn_cx G (2 * xl3)) 4) 2147483647 % 99999)) + 2 ≤ 2147483647) (hr5 : (xl3 < 70) → (¬ (xl3 < 4)) → (¬ (xl3 < 6)) → (¬ (xl3 < 34)) → (xl3 = 34) → (-2147483648 : Int) ≤ 20 * (rn_and (rn_shr (rn_cx G (2 * xl3)) 4) 2147483647 % 99999) ∧ 20 * (rn_and (rn_shr (rn_cx G (2 * xl3)) 4) 2147483647 % 99999) ≤ 2147483647 ∧ (-2147483648 : Int) ≤ (20 * (rn_and (rn_shr (rn_cx G (2 * xl3)) 4) 2147483647 % 99999)) + 19 ∧ (20 * (rn_and (rn_shr (rn_cx G (2 * xl3)) 4) 2147483647 % 99999)) + 19 ≤ 2147483647) (hr6 : (xl3 < 70) → (¬ (xl3 < 4)) → (¬ (xl3 < 6)) → (¬ (xl3 < 34)) → (¬ (xl3 = 34)) → (-2147483648 : Int) ≤ 20 * (rn_and (rn_shr (rn_cx G (2 * xl3)) 4) 2147483647 % 99999) ∧ 20 * (rn_and (rn_shr (rn_cx G (2 * xl3)) 4) 2147483647 % 99999) ≤ 2147483647 ∧ (-2147483648 : Int) ≤ (20 * (rn_and (rn_shr (rn_cx G (2 * xl3)) 4) 2147483647 % 99999)) + (rn_and (rn_cx G (2 * xl3)) 2147483647 % 20) ∧ (20 * (rn_and (rn_shr (rn_cx G (2 * xl3)) 4) 2147483647 % 99999)) + (rn_and (rn_cx G (2 * xl3)) 2147483647 % 20) ≤ 2147483647) (k1 : (xl3 < 70) → (xl3 < 4) → ∀ M', rn_Jq G M' N n K → rn_ME 132 [rn_R 8, rn_I ((20 * (rn_and (rn_shr (rn_cx G (2 * xl3)) 4) 2147483647 % 99999)) + 0), rn_I (rn_and (rn_cx G ((2 * xl3) + 1)) 2147483647 % 1000000)] M' (fun r M1 => rn_WP 215 158 [rn_R 0, rn_R 8, rn_I 1, rn_I xl3, rn_I (rn_cx G (2 * xl3)), rn_I (rn_and (rn_cx G ((2 * xl3) + 1)) 2147483647 % 1000000), rn_G (rn_pr N), rn_J, rn_I n, rn_I 0, vl10, vl11] (r.toList ++ []) M1 Q)) (k2 : (xl3 < 70) → (¬ (xl3 < 4)) → (xl3 < 6) → ∀ M', rn_Jq G M' N n K → rn_ME 132 [rn_R 8, rn_I ((20 * (rn_and (rn_shr (rn_cx G (2 * xl3)) 4) 2147483647 % 99999)) + 1), rn_I (rn_and (rn_cx G ((2 * xl3) + 1)) 2147483647 % 1000000)] M' (fun r M1 => rn_WP 215 158 [rn_R 0, rn_R 8, rn_I 1, rn_I xl3, rn_I (rn_cx G (2 * xl3)), rn_I (rn_and (rn_cx G ((2 * xl3) + 1)) 2147483647 % 1000000), rn_G (rn_pr N), rn_J, rn_I n, rn_I 1, vl10, vl11] (r.toList ++ []) M1 Q)) (k3 : (xl3 < 70) → (¬ (xl3 < 4)) → (¬ (xl3 < 6)) → (xl3 < 34) → ∀ M', rn_Jq G M' N n K → rn_ME 132 [rn_R 8, rn_I ((20 * (rn_and (rn_shr (rn_cx G (2 * xl3)) 4) 2147483647 % 99999)) + 2), rn_I (rn_and (rn_cx G ((2 * xl3) + 1)) 2147483647 % 1000000)] M' (fun r M1 => rn_WP 215 158 [rn_R 0, rn_R 8, rn_I 1, rn_I xl3, rn_I (rn_cx G (2 * xl3)), rn_I (rn_and (rn_cx G ((2 * xl3) + 1)) 2147483647 % 1000000), rn_G (rn_pr N), rn_J, rn_I n, rn_I 2, vl10, vl11] (r.toList ++ []) M1 Q)) (k4 : (xl3 < 70) → (¬ (xl3 < 4)) → (¬ (xl3 < 6)) → (¬ (xl3 < 34)) → (xl3 = 34) → ∀ M', rn_Jq G M' N n K → rn_ME 132 [rn_R 8, rn_I ((20 * (rn_and (rn_shr (rn_cx G (2 * xl3)) 4) 2147483647 % 99999)) + 19), rn_I (rn_and (rn_cx G ((2 * xl3) + 1)) 2147483647 % 1000000)] M' (fun r M1 => rn_WP 215 158 [rn_R 0, rn_R 8, rn_I 1, rn_I xl3, rn_I (rn_cx G (2 * xl3)), rn_I (rn_and (rn_cx G ((2 * xl3) + 1)) 2147483647 % 1000000), rn_G (rn_pr N), rn_J, rn_I n, rn_I 19, vl10, vl11] (r.toList ++ []) M1 Q)) (k5 : (xl3 < 70) → (¬ (xl3 < 4)) → (¬ (xl3 < 6)) → (¬ (xl3 < 34)) → (¬ (xl3 = 34)) → ∀ M', rn_Jq G M' N n K → rn_ME 132 [rn_R 8, rn_I ((20 * (rn_and (rn_shr (rn_cx G (2 * xl3)) 4) 2147483647 % 99999)) + (rn_and (rn_cx G (2 * xl3)) 2147483647 % 20)), rn_I (rn_and (rn_cx G ((2 * xl3) + 1)) 2147483647 % 1000000)] M' (fun r M1 => rn_WP 215 158 [rn_R 0, rn_R 8, rn_I 1, rn_I xl3, rn_I (rn_cx G (2 * xl3)), rn_I (rn_and (rn_cx G ((2 * xl3) + 1)) 2147483647 % 1000000), rn_G (rn_pr N), rn_J, rn_I n, rn_I (rn_and (rn_cx G (2 * xl3)) 2147483647 % 20), vl10, vl11] (r.toList ++ []) M1 Q)) (k6 : (¬ (xl3 < 70)) → ∀ M', rn_Jq G M' N n K → rn_WP 215 413 [rn_R 0, rn_R 8, rn_I 1, rn_I xl3, vl4, vl5, vl6, vl7, vl8, vl9, vl10, vl11] [] M' Q) : rn_WP 215 39 [rn_R 0, rn_R 8, rn_I 1, rn_I xl3, vl4, vl5, vl6, vl7, vl8, vl9, vl10, vl11] [] M Q := by
  refine (rn_step (e := (.iload_n 3, 40, 3, 0, 0, 0, 0, [])) rfl).mpr ?_
  refine (rn_step (e := (.bipush 70, 42, 0, 0, 0, 0, 0, [])) rfl).mpr ?_
  refine (rn_step (e := (.if_icmp .ge 371, 45, 413, 0, 0, 0, 0, [])) rfl).mpr (And.intro (fun c1 => ?_) (fun c1 => ?_))
  ·
    refine (rn_step (e := (.iload_n 2, 46, 2, 0, 0, 0, 0, [])) rfl).mpr ?_
    refine (rn_step (e := (.ifCond .eq 367, 49, 413, 0, 0, 0, 0, [])) rfl).mpr (And.intro (fun q => absurd q (by decide)) (fun q => ?_))
    refine (rn_step (e := (.aload_n 0, 50, 0, 0, 0, 0, 0, [])) rfl).mpr ?_
    refine (rn_step (e := (.iconst 2, 51, 0, 0, 0, 0, 0, [])) rfl).mpr ?_
    refine (rn_step (e := (.iload_n 3, 52, 3, 0, 0, 0, 0, [])) rfl).mpr ?_
    refine (rn_step (e := (.imul, 53, 0, 0, 0, 0, 0, [])) rfl).mpr (rn_cw (hr1 c1).1 (hr1 c1).2.1 ?_)
    refine (rn_step (e := (.invokestatic 115, 56, 123, 2, 413, 0, 0, [0])) rfl).mpr (iq_cellS J ((hr1 c1).2.2.1) (fun M1 J1 => ?_))
    refine (rn_step (e := (.istore 4, 58, 4, 0, 0, 1, 0, [])) rfl).mpr (And.intro (rn_lnq rfl rfl) (?_))
    refine (rn_step (e := (.aload_n 0, 59, 0, 0, 0, 0, 0, [])) rfl).mpr ?_
    refine (rn_step (e := (.iconst 2, 60, 0, 0, 0, 0, 0, [])) rfl).mpr ?_
    refine (rn_step (e := (.iload_n 3, 61, 3, 0, 0, 0, 0, [])) rfl).mpr ?_
    refine (rn_step (e := (.imul, 62, 0, 0, 0, 0, 0, [])) rfl).mpr (rn_cw (hr1 c1).1 (hr1 c1).2.1 ?_)
    refine (rn_step (e := (.iconst 1, 63, 0, 0, 0, 0, 0, [])) rfl).mpr ?_
    refine (rn_step (e := (.iadd, 64, 0, 0, 0, 0, 0, [])) rfl).mpr (rn_cw (hr1 c1).2.2.2.1 (hr1 c1).2.2.2.2.1 ?_)
    refine (rn_step (e := (.invokestatic 115, 67, 123, 2, 413, 0, 0, [0])) rfl).mpr (iq_cellS J1 ((hr1 c1).2.2.2.2.2) (fun M2 J2 => ?_))
    refine (rn_step (e := (.ldc 118, 69, 1000000, 0, 750, 0, 0, [])) rfl).mpr ?_
    refine (rn_step (e := (.invokestatic 104, 72, 124, 2, 417, 0, 0, [0])) rfl).mpr (rc_Lw_low ((by decide)) ?_)
    refine (rn_step (e := (.istore 5, 74, 5, 0, 0, 1, 0, [])) rfl).mpr (And.intro (rn_lnq rfl rfl) (?_))
    refine (rn_step (e := (.aload_n 1, 75, 1, 0, 0, 0, 0, [])) rfl).mpr ?_
    refine (rn_step (e := (.invokestatic 35, 78, 126, 1, 421, 0, 0, [0])) rfl).mpr (iq_print J2  (fun M3 J3 => ?_))
    refine (rn_step (e := (.lstore 6, 80, 6, 0, 0, 1, 0, [])) rfl).mpr (And.intro (rn_lnq rfl rfl) (?_))
    refine (rn_step (e := (.aload_n 1, 81, 1, 0, 0, 0, 0, [])) rfl).mpr ?_
    refine (rn_step (e := (.bipush 8, 83, 0, 0, 0, 0, 0, [])) rfl).mpr ?_
    refine (rn_step (e := (.invokevirtual 13, 86, 106, 2, 276, 0, 10, [0])) rfl).mpr (And.intro ((rn_J8 J3)) ((iq_count8 J3  (fun M4 J4 => ?_))))
    refine (rn_step (e := (.istore 8, 88, 8, 0, 0, 1, 0, [])) rfl).mpr (And.intro (rn_lnq rfl rfl) (?_))
    refine (rn_step (e := (.iload_n 3, 89, 3, 0, 0, 0, 0, [])) rfl).mpr ?_
    refine (rn_step (e := (.iconst 4, 90, 0, 0, 0, 0, 0, [])) rfl).mpr ?_
    refine (rn_step (e := (.if_icmp .ge 7, 93, 97, 0, 0, 0, 0, [])) rfl).mpr (And.intro (fun c2 => ?_) (fun c2 => ?_))
    ·
      refine (rn_step (e := (.iconst 0, 94, 0, 0, 0, 0, 0, [])) rfl).mpr ?_
      refine (rn_step (e := (.goto 41, 97, 135, 0, 0, 0, 0, [])) rfl).mpr ?_
      refine (rn_step (e := (.istore 9, 137, 9, 0, 0, 1, 0, [])) rfl).mpr (And.intro (rn_lnq rfl rfl) (?_))
      refine (rn_step (e := (.aload_n 1, 138, 1, 0, 0, 0, 0, [])) rfl).mpr ?_
      refine (rn_step (e := (.bipush 20, 140, 0, 0, 0, 0, 0, [])) rfl).mpr ?_
      refine (rn_step (e := (.iload 4, 142, 4, 0, 0, 0, 0, [])) rfl).mpr ?_
      refine (rn_step (e := (.iconst 4, 143, 0, 0, 0, 0, 0, [])) rfl).mpr ?_
      refine (rn_step (e := (.ishr, 144, 0, 0, 0, 0, 0, [])) rfl).mpr ?_
      refine (rn_step (e := (.ldc 119, 146, 99999, 0, 751, 0, 0, [])) rfl).mpr ?_
      refine (rn_step (e := (.invokestatic 104, 149, 124, 2, 417, 0, 0, [0])) rfl).mpr (rc_Lw_low ((by decide)) ?_)
      refine (rn_step (e := (.imul, 150, 0, 0, 0, 0, 0, [])) rfl).mpr (rn_cw (hr2 c1 c2).1 (hr2 c1 c2).2.1 ?_)
      refine (rn_step (e := (.iload 9, 152, 9, 0, 0, 0, 0, [])) rfl).mpr ?_
      refine (rn_step (e := (.iadd, 153, 0, 0, 0, 0, 0, [])) rfl).mpr (rn_cw (hr2 c1 c2).2.2.1 (hr2 c1 c2).2.2.2 ?_)
      refine (rn_step (e := (.iload 5, 155, 5, 0, 0, 0, 0, [])) rfl).mpr ?_
      exact (rn_step (e := (.invokestatic 120, 158, 132, 3, 747, 0, 0, [0])) rfl).mpr (k1 c1 c2 M4 J4)
    ·
      refine (rn_step (e := (.iload_n 3, 98, 3, 0, 0, 0, 0, [])) rfl).mpr ?_
      refine (rn_step (e := (.bipush 6, 100, 0, 0, 0, 0, 0, [])) rfl).mpr ?_
      refine (rn_step (e := (.if_icmp .ge 7, 103, 107, 0, 0, 0, 0, [])) rfl).mpr (And.intro (fun c3 => ?_) (fun c3 => ?_))
      ·
        refine (rn_step (e := (.iconst 1, 104, 0, 0, 0, 0, 0, [])) rfl).mpr ?_
        refine (rn_step (e := (.goto 31, 107, 135, 0, 0, 0, 0, [])) rfl).mpr ?_
        refine (rn_step (e := (.istore 9, 137, 9, 0, 0, 1, 0, [])) rfl).mpr (And.intro (rn_lnq rfl rfl) (?_))
        refine (rn_step (e := (.aload_n 1, 138, 1, 0, 0, 0, 0, [])) rfl).mpr ?_
        refine (rn_step (e := (.bipush 20, 140, 0, 0, 0, 0, 0, [])) rfl).mpr ?_
        refine (rn_step (e := (.iload 4, 142, 4, 0, 0, 0, 0, [])) rfl).mpr ?_
        refine (rn_step (e := (.iconst 4, 143, 0, 0, 0, 0, 0, [])) rfl).mpr ?_
        refine (rn_step (e := (.ishr, 144, 0, 0, 0, 0, 0, [])) rfl).mpr ?_
        refine (rn_step (e := (.ldc 119, 146, 99999, 0, 751, 0, 0, [])) rfl).mpr ?_
        refine (rn_step (e := (.invokestatic 104, 149, 124, 2, 417, 0, 0, [0])) rfl).mpr (rc_Lw_low ((by decide)) ?_)
        refine (rn_step (e := (.imul, 150, 0, 0, 0, 0, 0, [])) rfl).mpr (rn_cw (hr3 c1 c2 c3).1 (hr3 c1 c2 c3).2.1 ?_)
        refine (rn_step (e := (.iload 9, 152, 9, 0, 0, 0, 0, [])) rfl).mpr ?_
        refine (rn_step (e := (.iadd, 153, 0, 0, 0, 0, 0, [])) rfl).mpr (rn_cw (hr3 c1 c2 c3).2.2.1 (hr3 c1 c2 c3).2.2.2 ?_)
        refine (rn_step (e := (.iload 5, 155, 5, 0, 0, 0, 0, [])) rfl).mpr ?_
        exact (rn_step (e := (.invokestatic 120, 158, 132, 3, 747, 0, 0, [0])) rfl).mpr (k2 c1 c2 c3 M4 J4)
      ·
        refine (rn_step (e := (.iload_n 3, 108, 3, 0, 0, 0, 0, [])) rfl).mpr ?_
        refine (rn_step (e := (.bipush 34, 110, 0, 0, 0, 0, 0, [])) rfl).mpr ?_
        refine (rn_step (e := (.if_icmp .ge 7, 113, 117, 0, 0, 0, 0, [])) rfl).mpr (And.intro (fun c4 => ?_) (fun c4 => ?_))
        ·
          refine (rn_step (e := (.iconst 2, 114, 0, 0, 0, 0, 0, [])) rfl).mpr ?_
          refine (rn_step (e := (.goto 21, 117, 135, 0, 0, 0, 0, [])) rfl).mpr ?_
          refine (rn_step (e := (.istore 9, 137, 9, 0, 0, 1, 0, [])) rfl).mpr (And.intro (rn_lnq rfl rfl) (?_))
          refine (rn_step (e := (.aload_n 1, 138, 1, 0, 0, 0, 0, [])) rfl).mpr ?_
          refine (rn_step (e := (.bipush 20, 140, 0, 0, 0, 0, 0, [])) rfl).mpr ?_
          refine (rn_step (e := (.iload 4, 142, 4, 0, 0, 0, 0, [])) rfl).mpr ?_
          refine (rn_step (e := (.iconst 4, 143, 0, 0, 0, 0, 0, [])) rfl).mpr ?_
          refine (rn_step (e := (.ishr, 144, 0, 0, 0, 0, 0, [])) rfl).mpr ?_
          refine (rn_step (e := (.ldc 119, 146, 99999, 0, 751, 0, 0, [])) rfl).mpr ?_
          refine (rn_step (e := (.invokestatic 104, 149, 124, 2, 417, 0, 0, [0])) rfl).mpr (rc_Lw_low ((by decide)) ?_)
          refine (rn_step (e := (.imul, 150, 0, 0, 0, 0, 0, [])) rfl).mpr (rn_cw (hr4 c1 c2 c3 c4).1 (hr4 c1 c2 c3 c4).2.1 ?_)
          refine (rn_step (e := (.iload 9, 152, 9, 0, 0, 0, 0, [])) rfl).mpr ?_
          refine (rn_step (e := (.iadd, 153, 0, 0, 0, 0, 0, [])) rfl).mpr (rn_cw (hr4 c1 c2 c3 c4).2.2.1 (hr4 c1 c2 c3 c4).2.2.2 ?_)
          refine (rn_step (e := (.iload 5, 155, 5, 0, 0, 0, 0, [])) rfl).mpr ?_
          exact (rn_step (e := (.invokestatic 120, 158, 132, 3, 747, 0, 0, [0])) rfl).mpr (k3 c1 c2 c3 c4 M4 J4)
        ·
          refine (rn_step (e := (.iload_n 3, 118, 3, 0, 0, 0, 0, [])) rfl).mpr ?_
          refine (rn_step (e := (.bipush 34, 120, 0, 0, 0, 0, 0, [])) rfl).mpr ?_
          refine (rn_step (e := (.if_icmp .ne 8, 123, 128, 0, 0, 0, 0, [])) rfl).mpr (And.intro (fun c5 => ?_) (fun c5 => ?_))
          ·
            refine (rn_step (e := (.bipush 19, 125, 0, 0, 0, 0, 0, [])) rfl).mpr ?_
            refine (rn_step (e := (.goto 10, 128, 135, 0, 0, 0, 0, [])) rfl).mpr ?_
            refine (rn_step (e := (.istore 9, 137, 9, 0, 0, 1, 0, [])) rfl).mpr (And.intro (rn_lnq rfl rfl) (?_))
            refine (rn_step (e := (.aload_n 1, 138, 1, 0, 0, 0, 0, [])) rfl).mpr ?_
            refine (rn_step (e := (.bipush 20, 140, 0, 0, 0, 0, 0, [])) rfl).mpr ?_
            refine (rn_step (e := (.iload 4, 142, 4, 0, 0, 0, 0, [])) rfl).mpr ?_
            refine (rn_step (e := (.iconst 4, 143, 0, 0, 0, 0, 0, [])) rfl).mpr ?_
            refine (rn_step (e := (.ishr, 144, 0, 0, 0, 0, 0, [])) rfl).mpr ?_
            refine (rn_step (e := (.ldc 119, 146, 99999, 0, 751, 0, 0, [])) rfl).mpr ?_
            refine (rn_step (e := (.invokestatic 104, 149, 124, 2, 417, 0, 0, [0])) rfl).mpr (rc_Lw_low ((by decide)) ?_)
            refine (rn_step (e := (.imul, 150, 0, 0, 0, 0, 0, [])) rfl).mpr (rn_cw (hr5 c1 c2 c3 c4 c5).1 (hr5 c1 c2 c3 c4 c5).2.1 ?_)
            refine (rn_step (e := (.iload 9, 152, 9, 0, 0, 0, 0, [])) rfl).mpr ?_
            refine (rn_step (e := (.iadd, 153, 0, 0, 0, 0, 0, [])) rfl).mpr (rn_cw (hr5 c1 c2 c3 c4 c5).2.2.1 (hr5 c1 c2 c3 c4 c5).2.2.2 ?_)
            refine (rn_step (e := (.iload 5, 155, 5, 0, 0, 0, 0, [])) rfl).mpr ?_
            exact (rn_step (e := (.invokestatic 120, 158, 132, 3, 747, 0, 0, [0])) rfl).mpr (k4 c1 c2 c3 c4 c5 M4 J4)
          ·
            refine (rn_step (e := (.iload 4, 130, 4, 0, 0, 0, 0, [])) rfl).mpr ?_
            refine (rn_step (e := (.bipush 20, 132, 0, 0, 0, 0, 0, [])) rfl).mpr ?_
            refine (rn_step (e := (.invokestatic 104, 135, 124, 2, 417, 0, 0, [0])) rfl).mpr (rc_Lw_low ((by decide)) ?_)
            refine (rn_step (e := (.istore 9, 137, 9, 0, 0, 1, 0, [])) rfl).mpr (And.intro (rn_lnq rfl rfl) (?_))
            refine (rn_step (e := (.aload_n 1, 138, 1, 0, 0, 0, 0, [])) rfl).mpr ?_
            refine (rn_step (e := (.bipush 20, 140, 0, 0, 0, 0, 0, [])) rfl).mpr ?_
            refine (rn_step (e := (.iload 4, 142, 4, 0, 0, 0, 0, [])) rfl).mpr ?_
            refine (rn_step (e := (.iconst 4, 143, 0, 0, 0, 0, 0, [])) rfl).mpr ?_
            refine (rn_step (e := (.ishr, 144, 0, 0, 0, 0, 0, [])) rfl).mpr ?_
            refine (rn_step (e := (.ldc 119, 146, 99999, 0, 751, 0, 0, [])) rfl).mpr ?_
            refine (rn_step (e := (.invokestatic 104, 149, 124, 2, 417, 0, 0, [0])) rfl).mpr (rc_Lw_low ((by decide)) ?_)
            refine (rn_step (e := (.imul, 150, 0, 0, 0, 0, 0, [])) rfl).mpr (rn_cw (hr6 c1 c2 c3 c4 c5).1 (hr6 c1 c2 c3 c4 c5).2.1 ?_)
            refine (rn_step (e := (.iload 9, 152, 9, 0, 0, 0, 0, [])) rfl).mpr ?_
            refine (rn_step (e := (.iadd, 153, 0, 0, 0, 0, 0, [])) rfl).mpr (rn_cw (hr6 c1 c2 c3 c4 c5).2.2.1 (hr6 c1 c2 c3 c4 c5).2.2.2 ?_)
            refine (rn_step (e := (.iload 5, 155, 5, 0, 0, 0, 0, [])) rfl).mpr ?_
            exact (rn_step (e := (.invokestatic 120, 158, 132, 3, 747, 0, 0, [0])) rfl).mpr (k5 c1 c2 c3 c4 c5 M4 J4)
  ·
    exact (k6 c1 M J)
set_option maxRecDepth 4000 in
theorem rb_Lw_law_158 {M : rn_M} {Q : rn_Q} {G : Nat × (Nat → Int)} {N : Nat → Int} {n : Int} {K : Nat → Nat → Int} {vl2 : rn_V} {vl3 : rn_V} {vl4 : rn_V} {vl5 : rn_V} {gl6 : Int64} {vl7 : rn_V} {xl8 : Int} {vl9 : rn_V} {vl10 : rn_V} {vl11 : rn_V} {xs0 : Int} (J : rn_Jq G M N n K)  (h1 : rn_ca vl9 = 1) (hr1 : (xs0 < 0) → (xs0 = (-1)) → n = xl8 ∧ (lg_cmp (rn_pr N) gl6).toInt = 0) (hr2 : (xs0 < 0) → (¬ (xs0 = (-1))) → (xs0 = (-2)) → n = xl8 ∧ (lg_cmp (rn_pr N) gl6).toInt = 0) (hr3 : (xs0 < 0) → (¬ (xs0 = (-1))) → (¬ (xs0 = (-2))) → xs0 = (-3) ∧ n = xl8 ∧ (lg_cmp (rn_pr N) gl6).toInt = 0) (hr4 : (¬ (xs0 < 0)) → (xl8 = 5) → n = 5) (hr5 : (¬ (xs0 < 0)) → (¬ (xl8 = 5)) → (-2147483648 : Int) ≤ xl8 + 1 ∧ xl8 + 1 ≤ 2147483647 ∧ n = xl8 + 1) (k1 : (xs0 < 0) → (xs0 = (-1)) → ∀ M', rn_Jq G M' N n K → rn_WP 215 235 [rn_R 0, rn_R 8, rn_I 1, vl3, vl4, vl5, rn_G gl6, vl7, rn_I xl8, vl9, rn_I xs0, vl11] [] M' Q) (k2 : (xs0 < 0) → (¬ (xs0 = (-1))) → (xs0 = (-2)) → ∀ M', rn_Jq G M' N n K → rn_WP 215 235 [rn_R 0, rn_R 8, rn_I 1, vl3, vl4, vl5, rn_G gl6, vl7, rn_I xl8, vl9, rn_I xs0, vl11] [] M' Q) (k3 : (xs0 < 0) → (¬ (xs0 = (-1))) → (¬ (xs0 = (-2))) → ∀ M', rn_Jq G M' N n K → rn_WP 215 235 [rn_R 0, rn_R 8, rn_I 1, vl3, vl4, vl5, rn_G gl6, vl7, rn_I xl8, vl9, rn_I xs0, vl11] [] M' Q) (k4 : (¬ (xs0 < 0)) → (xl8 = 5) → ∀ M', rn_Jq G M' N n K → rn_WP 215 235 [rn_R 0, rn_R 8, rn_I 1, vl3, vl4, vl5, rn_G gl6, vl7, rn_I xl8, vl9, rn_I xs0, vl11] [] M' Q) (k5 : (¬ (xs0 < 0)) → (¬ (xl8 = 5)) → ∀ M', rn_Jq G M' N n K → rn_WP 215 235 [rn_R 0, rn_R 8, rn_I 1, vl3, vl4, vl5, rn_G gl6, vl7, rn_I xl8, vl9, rn_I xs0, vl11] [] M' Q) : rn_WP 215 158 [rn_R 0, rn_R 8, vl2, vl3, vl4, vl5, rn_G gl6, vl7, rn_I xl8, vl9, vl10, vl11] [rn_I xs0] M Q := by
  refine (rn_step (e := (.istore 10, 160, 10, 0, 0, 1, 0, [])) rfl).mpr (And.intro (rn_lnq rfl h1) (?_))
  refine (rn_step (e := (.iload 10, 162, 10, 0, 0, 0, 0, [])) rfl).mpr ?_
  refine (rn_step (e := (.ifCond .lt 26, 165, 188, 0, 0, 0, 0, [])) rfl).mpr (And.intro (fun c1 => ?_) (fun c1 => ?_))
  ·
    refine (rn_step (e := (.iload 10, 190, 10, 0, 0, 0, 0, [])) rfl).mpr ?_
    refine (rn_step (e := (.iconst (-1), 191, 0, 0, 0, 0, 0, [])) rfl).mpr ?_
    refine (rn_step (e := (.if_icmp .eq 17, 194, 208, 0, 0, 0, 0, [])) rfl).mpr (And.intro (fun c2 => ?_) (fun c2 => ?_))
    ·
      refine (rn_step (e := (.aload_n 1, 209, 1, 0, 0, 0, 0, [])) rfl).mpr ?_
      refine (rn_step (e := (.bipush 8, 211, 0, 0, 0, 0, 0, [])) rfl).mpr ?_
      refine (rn_step (e := (.invokevirtual 13, 214, 106, 2, 276, 0, 10, [0])) rfl).mpr (And.intro ((rn_J8 J)) ((iq_count8 J  (fun M1 J1 => ?_))))
      refine (rn_step (e := (.iload 8, 216, 8, 0, 0, 0, 0, [])) rfl).mpr ?_
      refine (rn_step (e := (.if_icmp .ne 17, 219, 233, 0, 0, 0, 0, [])) rfl).mpr (And.intro (fun q => ?_) (fun q => absurd (hr1 c1 c2).1 q))
      refine (rn_step (e := (.aload_n 1, 220, 1, 0, 0, 0, 0, [])) rfl).mpr ?_
      refine (rn_step (e := (.invokestatic 35, 223, 126, 1, 421, 0, 0, [0])) rfl).mpr (iq_print J1  (fun M2 J2 => ?_))
      refine (rn_step (e := (.lload 6, 225, 6, 0, 0, 0, 0, [])) rfl).mpr ?_
      refine (rn_step (e := (.lcmp, 226, 0, 0, 0, 0, 0, [])) rfl).mpr ?_
      refine (rn_step (e := (.ifCond .ne 7, 229, 233, 0, 0, 0, 0, [])) rfl).mpr (And.intro (fun q => ?_) (fun q => absurd (hr1 c1 c2).2 q))
      refine (rn_step (e := (.iconst 1, 230, 0, 0, 0, 0, 0, [])) rfl).mpr ?_
      refine (rn_step (e := (.goto 4, 233, 234, 0, 0, 0, 0, [])) rfl).mpr ?_
      refine (rn_step (e := (.istore_n 2, 235, 2, 0, 0, 1, 0, [])) rfl).mpr (And.intro (rn_lnq rfl rfl) (?_))
      exact (k1 c1 c2 M2 J2)
    ·
      refine (rn_step (e := (.iload 10, 196, 10, 0, 0, 0, 0, [])) rfl).mpr ?_
      refine (rn_step (e := (.bipush (-2), 198, 0, 0, 0, 0, 0, [])) rfl).mpr ?_
      refine (rn_step (e := (.if_icmp .eq 10, 201, 208, 0, 0, 0, 0, [])) rfl).mpr (And.intro (fun c3 => ?_) (fun c3 => ?_))
      ·
        refine (rn_step (e := (.aload_n 1, 209, 1, 0, 0, 0, 0, [])) rfl).mpr ?_
        refine (rn_step (e := (.bipush 8, 211, 0, 0, 0, 0, 0, [])) rfl).mpr ?_
        refine (rn_step (e := (.invokevirtual 13, 214, 106, 2, 276, 0, 10, [0])) rfl).mpr (And.intro ((rn_J8 J)) ((iq_count8 J  (fun M3 J3 => ?_))))
        refine (rn_step (e := (.iload 8, 216, 8, 0, 0, 0, 0, [])) rfl).mpr ?_
        refine (rn_step (e := (.if_icmp .ne 17, 219, 233, 0, 0, 0, 0, [])) rfl).mpr (And.intro (fun q => ?_) (fun q => absurd (hr2 c1 c2 c3).1 q))
        refine (rn_step (e := (.aload_n 1, 220, 1, 0, 0, 0, 0, [])) rfl).mpr ?_
        refine (rn_step (e := (.invokestatic 35, 223, 126, 1, 421, 0, 0, [0])) rfl).mpr (iq_print J3  (fun M4 J4 => ?_))
        refine (rn_step (e := (.lload 6, 225, 6, 0, 0, 0, 0, [])) rfl).mpr ?_
        refine (rn_step (e := (.lcmp, 226, 0, 0, 0, 0, 0, [])) rfl).mpr ?_
        refine (rn_step (e := (.ifCond .ne 7, 229, 233, 0, 0, 0, 0, [])) rfl).mpr (And.intro (fun q => ?_) (fun q => absurd (hr2 c1 c2 c3).2 q))
        refine (rn_step (e := (.iconst 1, 230, 0, 0, 0, 0, 0, [])) rfl).mpr ?_
        refine (rn_step (e := (.goto 4, 233, 234, 0, 0, 0, 0, [])) rfl).mpr ?_
        refine (rn_step (e := (.istore_n 2, 235, 2, 0, 0, 1, 0, [])) rfl).mpr (And.intro (rn_lnq rfl rfl) (?_))
        exact (k2 c1 c2 c3 M4 J4)
      ·
        refine (rn_step (e := (.iload 10, 203, 10, 0, 0, 0, 0, [])) rfl).mpr ?_
        refine (rn_step (e := (.bipush (-3), 205, 0, 0, 0, 0, 0, [])) rfl).mpr ?_
        refine (rn_step (e := (.if_icmp .ne 28, 208, 233, 0, 0, 0, 0, [])) rfl).mpr (And.intro (fun q => ?_) (fun q => absurd (hr3 c1 c2 c3).1 q))
        refine (rn_step (e := (.aload_n 1, 209, 1, 0, 0, 0, 0, [])) rfl).mpr ?_
        refine (rn_step (e := (.bipush 8, 211, 0, 0, 0, 0, 0, [])) rfl).mpr ?_
        refine (rn_step (e := (.invokevirtual 13, 214, 106, 2, 276, 0, 10, [0])) rfl).mpr (And.intro ((rn_J8 J)) ((iq_count8 J  (fun M5 J5 => ?_))))
        refine (rn_step (e := (.iload 8, 216, 8, 0, 0, 0, 0, [])) rfl).mpr ?_
        refine (rn_step (e := (.if_icmp .ne 17, 219, 233, 0, 0, 0, 0, [])) rfl).mpr (And.intro (fun q => ?_) (fun q => absurd (hr3 c1 c2 c3).2.1 q))
        refine (rn_step (e := (.aload_n 1, 220, 1, 0, 0, 0, 0, [])) rfl).mpr ?_
        refine (rn_step (e := (.invokestatic 35, 223, 126, 1, 421, 0, 0, [0])) rfl).mpr (iq_print J5  (fun M6 J6 => ?_))
        refine (rn_step (e := (.lload 6, 225, 6, 0, 0, 0, 0, [])) rfl).mpr ?_
        refine (rn_step (e := (.lcmp, 226, 0, 0, 0, 0, 0, [])) rfl).mpr ?_
        refine (rn_step (e := (.ifCond .ne 7, 229, 233, 0, 0, 0, 0, [])) rfl).mpr (And.intro (fun q => ?_) (fun q => absurd (hr3 c1 c2 c3).2.2 q))
        refine (rn_step (e := (.iconst 1, 230, 0, 0, 0, 0, 0, [])) rfl).mpr ?_
        refine (rn_step (e := (.goto 4, 233, 234, 0, 0, 0, 0, [])) rfl).mpr ?_
        refine (rn_step (e := (.istore_n 2, 235, 2, 0, 0, 1, 0, [])) rfl).mpr (And.intro (rn_lnq rfl rfl) (?_))
        exact (k3 c1 c2 c3 M6 J6)
  ·
    refine (rn_step (e := (.aload_n 1, 166, 1, 0, 0, 0, 0, [])) rfl).mpr ?_
    refine (rn_step (e := (.bipush 8, 168, 0, 0, 0, 0, 0, [])) rfl).mpr ?_
    refine (rn_step (e := (.invokevirtual 13, 171, 106, 2, 276, 0, 10, [0])) rfl).mpr (And.intro ((rn_J8 J)) ((iq_count8 J  (fun M7 J7 => ?_))))
    refine (rn_step (e := (.iload 8, 173, 8, 0, 0, 0, 0, [])) rfl).mpr ?_
    refine (rn_step (e := (.iconst 5, 174, 0, 0, 0, 0, 0, [])) rfl).mpr ?_
    refine (rn_step (e := (.if_icmp .ne 7, 177, 181, 0, 0, 0, 0, [])) rfl).mpr (And.intro (fun c2 => ?_) (fun c2 => ?_))
    ·
      refine (rn_step (e := (.iconst 5, 178, 0, 0, 0, 0, 0, [])) rfl).mpr ?_
      refine (rn_step (e := (.goto 7, 181, 185, 0, 0, 0, 0, [])) rfl).mpr ?_
      refine (rn_step (e := (.if_icmp .eq 44, 188, 229, 0, 0, 0, 0, [])) rfl).mpr (And.intro (fun q => ?_) (fun q => absurd (hr4 c1 c2) q))
      refine (rn_step (e := (.iconst 1, 230, 0, 0, 0, 0, 0, [])) rfl).mpr ?_
      refine (rn_step (e := (.goto 4, 233, 234, 0, 0, 0, 0, [])) rfl).mpr ?_
      refine (rn_step (e := (.istore_n 2, 235, 2, 0, 0, 1, 0, [])) rfl).mpr (And.intro (rn_lnq rfl rfl) (?_))
      exact (k4 c1 c2 M7 J7)
    ·
      refine (rn_step (e := (.iload 8, 183, 8, 0, 0, 0, 0, [])) rfl).mpr ?_
      refine (rn_step (e := (.iconst 1, 184, 0, 0, 0, 0, 0, [])) rfl).mpr ?_
      refine (rn_step (e := (.iadd, 185, 0, 0, 0, 0, 0, [])) rfl).mpr (rn_cw (hr5 c1 c2).1 (hr5 c1 c2).2.1 ?_)
      refine (rn_step (e := (.if_icmp .eq 44, 188, 229, 0, 0, 0, 0, [])) rfl).mpr (And.intro (fun q => ?_) (fun q => absurd (hr5 c1 c2).2.2 q))
      refine (rn_step (e := (.iconst 1, 230, 0, 0, 0, 0, 0, [])) rfl).mpr ?_
      refine (rn_step (e := (.goto 4, 233, 234, 0, 0, 0, 0, [])) rfl).mpr ?_
      refine (rn_step (e := (.istore_n 2, 235, 2, 0, 0, 1, 0, [])) rfl).mpr (And.intro (rn_lnq rfl rfl) (?_))
      exact (k5 c1 c2 M7 J7)
set_option maxRecDepth 4000 in
theorem rb_Lw_law_235 {M : rn_M} {Q : rn_Q} {G : Nat × (Nat → Int)} {N : Nat → Int} {n : Int} {K : Nat → Nat → Int} {vl3 : rn_V} {xl4 : Int} {vl5 : rn_V} {vl6 : rn_V} {vl7 : rn_V} {vl8 : rn_V} {vl9 : rn_V} {xl10 : Int} {vl11 : rn_V} (J : rn_Jq G M N n K)   (k1 : (xl10 < 0) → ∀ M', rn_Jq G M' N n K → rn_WP 215 289 [rn_R 0, rn_R 8, rn_I 1, vl3, rn_I xl4, vl5, vl6, vl7, vl8, vl9, rn_I xl10, vl11] [] M' Q) (k2 : (¬ (xl10 < 0)) → (rn_and (rn_shr xl4 25) 3 = 0) → ∀ M', rn_Jq G M' N n K → rn_ME 105 [rn_R 8] M' (fun r M1 => rn_WP 215 258 [rn_R 0, rn_R 8, rn_I 1, vl3, rn_I xl4, vl5, vl6, vl7, vl8, vl9, rn_I xl10, vl11] (r.toList ++ []) M1 Q)) (k3 : (¬ (xl10 < 0)) → (¬ (rn_and (rn_shr xl4 25) 3 = 0)) → ∀ M', rn_Jq G M' N n K → rn_WP 215 289 [rn_R 0, rn_R 8, rn_I 1, vl3, rn_I xl4, vl5, vl6, vl7, vl8, vl9, rn_I xl10, vl11] [] M' Q) : rn_WP 215 235 [rn_R 0, rn_R 8, rn_I 1, vl3, rn_I xl4, vl5, vl6, vl7, vl8, vl9, rn_I xl10, vl11] [] M Q := by
  refine (rn_step (e := (.iload_n 2, 236, 2, 0, 0, 0, 0, [])) rfl).mpr ?_
  refine (rn_step (e := (.ifCond .eq 53, 239, 289, 0, 0, 0, 0, [])) rfl).mpr (And.intro (fun q => absurd q (by decide)) (fun q => ?_))
  refine (rn_step (e := (.iload 10, 241, 10, 0, 0, 0, 0, [])) rfl).mpr ?_
  refine (rn_step (e := (.ifCond .lt 48, 244, 289, 0, 0, 0, 0, [])) rfl).mpr (And.intro (fun c1 => ?_) (fun c1 => ?_))
  ·
    exact (k1 c1 M J)
  ·
    refine (rn_step (e := (.iload 4, 246, 4, 0, 0, 0, 0, [])) rfl).mpr ?_
    refine (rn_step (e := (.bipush 25, 248, 0, 0, 0, 0, 0, [])) rfl).mpr ?_
    refine (rn_step (e := (.ishr, 249, 0, 0, 0, 0, 0, [])) rfl).mpr ?_
    refine (rn_step (e := (.iconst 3, 250, 0, 0, 0, 0, 0, [])) rfl).mpr ?_
    refine (rn_step (e := (.iand, 251, 0, 0, 0, 0, 0, [])) rfl).mpr ?_
    refine (rn_step (e := (.ifCond .ne 38, 254, 289, 0, 0, 0, 0, [])) rfl).mpr (And.intro (fun c2 => ?_) (fun c2 => ?_))
    ·
      refine (rn_step (e := (.aload_n 1, 255, 1, 0, 0, 0, 0, [])) rfl).mpr ?_
      exact (rn_step (e := (.invokevirtual 97, 258, 105, 1, 265, 0, 10, [0])) rfl).mpr (And.intro ((rn_J8 J)) ((k2 c1 c2 M J)))
    ·
      exact (k3 c1 c2 M J)
set_option maxRecDepth 4000 in
theorem rb_Lw_law_258 {M : rn_M} {Q : rn_Q} {G : Nat × (Nat → Int)} {N : Nat → Int} {n : Int} {K : Nat → Nat → Int} {vl2 : rn_V} {vl3 : rn_V} {vl4 : rn_V} {vl5 : rn_V} {gl6 : Int64} {vl7 : rn_V} {xl8 : Int} {vl9 : rn_V} {vl10 : rn_V} {vl11 : rn_V} {xs0 : Int} (J : rn_Jq G M N n K)   (hr1 : (xl8 = 5) → xs0 = 4 ∧ (lg_cmp (rn_pr N) gl6).toInt = 0) (hr2 : (¬ (xl8 = 5)) → xs0 = xl8 ∧ (lg_cmp (rn_pr N) gl6).toInt = 0) (k1 : (xl8 = 5) → ∀ M', rn_Jq G M' N n K → rn_WP 215 289 [rn_R 0, rn_R 8, rn_I 1, vl3, vl4, vl5, rn_G gl6, vl7, rn_I xl8, vl9, vl10, vl11] [] M' Q) (k2 : (¬ (xl8 = 5)) → ∀ M', rn_Jq G M' N n K → rn_WP 215 289 [rn_R 0, rn_R 8, rn_I 1, vl3, vl4, vl5, rn_G gl6, vl7, rn_I xl8, vl9, vl10, vl11] [] M' Q) : rn_WP 215 258 [rn_R 0, rn_R 8, vl2, vl3, vl4, vl5, rn_G gl6, vl7, rn_I xl8, vl9, vl10, vl11] [rn_I xs0] M Q := by
  refine (rn_step (e := (.iload 8, 260, 8, 0, 0, 0, 0, [])) rfl).mpr ?_
  refine (rn_step (e := (.iconst 5, 261, 0, 0, 0, 0, 0, [])) rfl).mpr ?_
  refine (rn_step (e := (.if_icmp .ne 7, 264, 268, 0, 0, 0, 0, [])) rfl).mpr (And.intro (fun c1 => ?_) (fun c1 => ?_))
  ·
    refine (rn_step (e := (.iconst 4, 265, 0, 0, 0, 0, 0, [])) rfl).mpr ?_
    refine (rn_step (e := (.goto 5, 268, 270, 0, 0, 0, 0, [])) rfl).mpr ?_
    refine (rn_step (e := (.if_icmp .ne 17, 273, 287, 0, 0, 0, 0, [])) rfl).mpr (And.intro (fun q => ?_) (fun q => absurd (hr1 c1).1 q))
    refine (rn_step (e := (.aload_n 1, 274, 1, 0, 0, 0, 0, [])) rfl).mpr ?_
    refine (rn_step (e := (.invokestatic 35, 277, 126, 1, 421, 0, 0, [0])) rfl).mpr (iq_print J  (fun M1 J1 => ?_))
    refine (rn_step (e := (.lload 6, 279, 6, 0, 0, 0, 0, [])) rfl).mpr ?_
    refine (rn_step (e := (.lcmp, 280, 0, 0, 0, 0, 0, [])) rfl).mpr ?_
    refine (rn_step (e := (.ifCond .ne 7, 283, 287, 0, 0, 0, 0, [])) rfl).mpr (And.intro (fun q => ?_) (fun q => absurd (hr1 c1).2 q))
    refine (rn_step (e := (.iconst 1, 284, 0, 0, 0, 0, 0, [])) rfl).mpr ?_
    refine (rn_step (e := (.goto 4, 287, 288, 0, 0, 0, 0, [])) rfl).mpr ?_
    refine (rn_step (e := (.istore_n 2, 289, 2, 0, 0, 1, 0, [])) rfl).mpr (And.intro (rn_lnq rfl rfl) (?_))
    exact (k1 c1 M1 J1)
  ·
    refine (rn_step (e := (.iload 8, 270, 8, 0, 0, 0, 0, [])) rfl).mpr ?_
    refine (rn_step (e := (.if_icmp .ne 17, 273, 287, 0, 0, 0, 0, [])) rfl).mpr (And.intro (fun q => ?_) (fun q => absurd (hr2 c1).1 q))
    refine (rn_step (e := (.aload_n 1, 274, 1, 0, 0, 0, 0, [])) rfl).mpr ?_
    refine (rn_step (e := (.invokestatic 35, 277, 126, 1, 421, 0, 0, [0])) rfl).mpr (iq_print J  (fun M2 J2 => ?_))
    refine (rn_step (e := (.lload 6, 279, 6, 0, 0, 0, 0, [])) rfl).mpr ?_
    refine (rn_step (e := (.lcmp, 280, 0, 0, 0, 0, 0, [])) rfl).mpr ?_
    refine (rn_step (e := (.ifCond .ne 7, 283, 287, 0, 0, 0, 0, [])) rfl).mpr (And.intro (fun q => ?_) (fun q => absurd (hr2 c1).2 q))
    refine (rn_step (e := (.iconst 1, 284, 0, 0, 0, 0, 0, [])) rfl).mpr ?_
    refine (rn_step (e := (.goto 4, 287, 288, 0, 0, 0, 0, [])) rfl).mpr ?_
    refine (rn_step (e := (.istore_n 2, 289, 2, 0, 0, 1, 0, [])) rfl).mpr (And.intro (rn_lnq rfl rfl) (?_))
    exact (k2 c1 M2 J2)
set_option maxRecDepth 4000 in
theorem rb_Lw_law_289 {M : rn_M} {Q : rn_Q} {G : Nat × (Nat → Int)} {N : Nat → Int} {n : Int} {K : Nat → Nat → Int} {xl3 : Int} {vl4 : rn_V} {vl5 : rn_V} {vl6 : rn_V} {vl7 : rn_V} {vl8 : rn_V} {vl9 : rn_V} {vl10 : rn_V} {vl11 : rn_V} (J : rn_Jq G M N n K)  (h1 : rn_ca vl10 = 1) (hr1 : (0 : Int) ≤ xl3) (k1 : (xl3 % 2 = 1) → ∀ M', rn_Jq G M' N n K → rn_WP 215 314 [rn_R 0, rn_R 8, rn_I 1, rn_I xl3, vl4, vl5, vl6, vl7, vl8, vl9, vl10, rn_I (N 0)] [] M' Q) (k2 : (¬ (xl3 % 2 = 1)) → ∀ M', rn_Jq G M' N n K → rn_WP 215 314 [rn_R 0, rn_R 8, rn_I 1, rn_I xl3, vl4, vl5, vl6, vl7, vl8, vl9, vl10, rn_I (N 0)] [] M' Q) : rn_WP 215 289 [rn_R 0, rn_R 8, rn_I 1, rn_I xl3, vl4, vl5, vl6, vl7, vl8, vl9, vl10, vl11] [] M Q := by
  refine (rn_step (e := (.aload_n 1, 290, 1, 0, 0, 0, 0, [])) rfl).mpr ?_
  refine (rn_step (e := (.iconst 0, 291, 0, 0, 0, 0, 0, [])) rfl).mpr ?_
  refine (rn_step (e := (.invokevirtual 13, 294, 106, 2, 276, 0, 10, [0])) rfl).mpr (And.intro ((rn_J8 J)) ((iq_count0 J  (fun M1 J1 => ?_))))
  refine (rn_step (e := (.istore 11, 296, 11, 0, 0, 1, 0, [])) rfl).mpr (And.intro (rn_lnq rfl h1) (?_))
  refine (rn_step (e := (.iload_n 2, 297, 2, 0, 0, 0, 0, [])) rfl).mpr ?_
  refine (rn_step (e := (.ifCond .eq 108, 300, 405, 0, 0, 0, 0, [])) rfl).mpr (And.intro (fun q => absurd q (by decide)) (fun q => ?_))
  refine (rn_step (e := (.iload_n 3, 301, 3, 0, 0, 0, 0, [])) rfl).mpr ?_
  refine (rn_step (e := (.iconst 2, 302, 0, 0, 0, 0, 0, [])) rfl).mpr ?_
  refine (rn_step (e := (.irem, 303, 0, 0, 0, 0, 0, [])) rfl).mpr (And.intro (hr1) (And.intro ((by decide)) (?_)))
  refine (rn_step (e := (.iconst 1, 304, 0, 0, 0, 0, 0, [])) rfl).mpr ?_
  refine (rn_step (e := (.if_icmp .eq 10, 307, 314, 0, 0, 0, 0, [])) rfl).mpr (And.intro (fun c1 => ?_) (fun c1 => ?_))
  ·
    exact (k1 c1 M1 J1)
  ·
    refine (rn_step (e := (.aload_n 1, 308, 1, 0, 0, 0, 0, [])) rfl).mpr ?_
    refine (rn_step (e := (.invokestatic 112, 311, 130, 1, 732, 0, 0, [0])) rfl).mpr (iq_areLabels J1  (fun M2 J2 => ?_))
    refine (rn_step (e := (.ifCond .eq 94, 314, 405, 0, 0, 0, 0, [])) rfl).mpr (And.intro (fun q => absurd q (by decide)) (fun q => ?_))
    exact (k2 c1 M2 J2)
set_option maxRecDepth 4000 in
theorem rb_Lw_law_314 {M : rn_M} {Q : rn_Q} {G : Nat × (Nat → Int)} {N : Nat → Int} {n : Int} {K : Nat → Nat → Int} {vl2 : rn_V} {xl3 : Int} {vl4 : rn_V} {xl5 : Int} {vl6 : rn_V} {vl7 : rn_V} {vl8 : rn_V} {vl9 : rn_V} {vl10 : rn_V} {xl11 : Int} (J : rn_Jq G M N n K)   (hr1 : (0 : Int) ≤ xl3) (hr2 : (xl3 % 5 = 4) → (¬ (xl11 = 0)) → (0 : Int) ≤ xl5 ∧ (0 : Int) < xl11 ∧ ((0 : Int) ≤ xl5 % xl11 ∧ xl5 % xl11 < N 0)) (k1 : (xl3 % 5 = 4) → (xl11 = 0) → ∀ M', rn_Jq G M' N n K → rn_WP 215 338 [rn_R 0, rn_R 8, vl2, rn_I xl3, vl4, rn_I xl5, vl6, vl7, vl8, vl9, vl10, rn_I xl11] [] M' Q) (k2 : (xl3 % 5 = 4) → (¬ (xl11 = 0)) → ∀ M', rn_Jq G M' N n K → rn_WP 215 338 [rn_R 0, rn_R 8, vl2, rn_I xl3, vl4, rn_I xl5, vl6, vl7, vl8, vl9, vl10, rn_I xl11] [] M' Q) (k3 : (¬ (xl3 % 5 = 4)) → ∀ M', rn_Jq G M' N n K → rn_WP 215 338 [rn_R 0, rn_R 8, vl2, rn_I xl3, vl4, rn_I xl5, vl6, vl7, vl8, vl9, vl10, rn_I xl11] [] M' Q) : rn_WP 215 314 [rn_R 0, rn_R 8, vl2, rn_I xl3, vl4, rn_I xl5, vl6, vl7, vl8, vl9, vl10, rn_I xl11] [] M Q := by
  refine (rn_step (e := (.iload_n 3, 315, 3, 0, 0, 0, 0, [])) rfl).mpr ?_
  refine (rn_step (e := (.iconst 5, 316, 0, 0, 0, 0, 0, [])) rfl).mpr ?_
  refine (rn_step (e := (.irem, 317, 0, 0, 0, 0, 0, [])) rfl).mpr (And.intro (hr1) (And.intro ((by decide)) (?_)))
  refine (rn_step (e := (.iconst 4, 318, 0, 0, 0, 0, 0, [])) rfl).mpr ?_
  refine (rn_step (e := (.if_icmp .ne 20, 321, 338, 0, 0, 0, 0, [])) rfl).mpr (And.intro (fun c1 => ?_) (fun c1 => ?_))
  ·
    refine (rn_step (e := (.iload 11, 323, 11, 0, 0, 0, 0, [])) rfl).mpr ?_
    refine (rn_step (e := (.ifCond .eq 15, 326, 338, 0, 0, 0, 0, [])) rfl).mpr (And.intro (fun c2 => ?_) (fun c2 => ?_))
    ·
      exact (k1 c1 c2 M J)
    ·
      refine (rn_step (e := (.aload_n 1, 327, 1, 0, 0, 0, 0, [])) rfl).mpr ?_
      refine (rn_step (e := (.iload 5, 329, 5, 0, 0, 0, 0, [])) rfl).mpr ?_
      refine (rn_step (e := (.iload 11, 331, 11, 0, 0, 0, 0, [])) rfl).mpr ?_
      refine (rn_step (e := (.irem, 332, 0, 0, 0, 0, 0, [])) rfl).mpr (And.intro ((hr2 c1 c2).1) (And.intro ((hr2 c1 c2).2.1) (?_)))
      refine (rn_step (e := (.invokestatic 124, 335, 128, 2, 723, 0, 0, [0])) rfl).mpr (iq_areCells J ((hr2 c1 c2).2.2) (fun M1 J1 => ?_))
      refine (rn_step (e := (.ifCond .eq 70, 338, 405, 0, 0, 0, 0, [])) rfl).mpr (And.intro (fun q => absurd q (by decide)) (fun q => ?_))
      exact (k2 c1 c2 M1 J1)
  ·
    exact (k3 c1 M J)
set_option maxRecDepth 4000 in
theorem rb_Lw_law_338 {M : rn_M} {Q : rn_Q} {G : Nat × (Nat → Int)} {N : Nat → Int} {n : Int} {K : Nat → Nat → Int} {vl2 : rn_V} {xl3 : Int} {vl4 : rn_V} {xl5 : Int} {vl6 : rn_V} {vl7 : rn_V} {vl8 : rn_V} {vl9 : rn_V} {vl10 : rn_V} {xl11 : Int} (J : rn_Jq G M N n K)   (hr1 : (0 : Int) ≤ xl3) (hr2 : (xl3 % 9 = 8) → (¬ (xl11 = 0)) → (0 : Int) ≤ xl5 ∧ (0 : Int) < xl11) (k1 : (xl3 % 9 = 8) → (xl11 = 0) → ∀ M', rn_Jq G M' N n K → rn_WP 215 364 [rn_R 0, rn_R 8, vl2, rn_I xl3, vl4, rn_I xl5, vl6, vl7, vl8, vl9, vl10, rn_I xl11] [] M' Q) (k2 : (xl3 % 9 = 8) → (¬ (xl11 = 0)) → ∀ M', rn_Jq G M' N n K → rn_ME 129 [rn_R 8, rn_I (xl5 % xl11)] M' (fun r M1 => rn_WP 215 361 [rn_R 0, rn_R 8, vl2, rn_I xl3, vl4, rn_I xl5, vl6, vl7, vl8, vl9, vl10, rn_I xl11] (r.toList ++ []) M1 Q)) (k3 : (¬ (xl3 % 9 = 8)) → ∀ M', rn_Jq G M' N n K → rn_WP 215 364 [rn_R 0, rn_R 8, vl2, rn_I xl3, vl4, rn_I xl5, vl6, vl7, vl8, vl9, vl10, rn_I xl11] [] M' Q) : rn_WP 215 338 [rn_R 0, rn_R 8, vl2, rn_I xl3, vl4, rn_I xl5, vl6, vl7, vl8, vl9, vl10, rn_I xl11] [] M Q := by
  refine (rn_step (e := (.iload_n 3, 339, 3, 0, 0, 0, 0, [])) rfl).mpr ?_
  refine (rn_step (e := (.bipush 9, 341, 0, 0, 0, 0, 0, [])) rfl).mpr ?_
  refine (rn_step (e := (.irem, 342, 0, 0, 0, 0, 0, [])) rfl).mpr (And.intro (hr1) (And.intro ((by decide)) (?_)))
  refine (rn_step (e := (.bipush 8, 344, 0, 0, 0, 0, 0, [])) rfl).mpr ?_
  refine (rn_step (e := (.if_icmp .ne 20, 347, 364, 0, 0, 0, 0, [])) rfl).mpr (And.intro (fun c1 => ?_) (fun c1 => ?_))
  ·
    refine (rn_step (e := (.iload 11, 349, 11, 0, 0, 0, 0, [])) rfl).mpr ?_
    refine (rn_step (e := (.ifCond .eq 15, 352, 364, 0, 0, 0, 0, [])) rfl).mpr (And.intro (fun c2 => ?_) (fun c2 => ?_))
    ·
      exact (k1 c1 c2 M J)
    ·
      refine (rn_step (e := (.aload_n 1, 353, 1, 0, 0, 0, 0, [])) rfl).mpr ?_
      refine (rn_step (e := (.iload 5, 355, 5, 0, 0, 0, 0, [])) rfl).mpr ?_
      refine (rn_step (e := (.iload 11, 357, 11, 0, 0, 0, 0, [])) rfl).mpr ?_
      refine (rn_step (e := (.irem, 358, 0, 0, 0, 0, 0, [])) rfl).mpr (And.intro ((hr2 c1 c2).1) (And.intro ((hr2 c1 c2).2) (?_)))
      exact (rn_step (e := (.invokestatic 128, 361, 129, 2, 726, 0, 0, [0])) rfl).mpr (k2 c1 c2 M J)
  ·
    exact (k3 c1 M J)
set_option maxRecDepth 4000 in
theorem rb_Lw_law_361 {M : rn_M} {Q : rn_Q} {G : Nat × (Nat → Int)} {N : Nat → Int} {n : Int} {K : Nat → Nat → Int} {vl2 : rn_V} {vl3 : rn_V} {vl4 : rn_V} {vl5 : rn_V} {vl6 : rn_V} {vl7 : rn_V} {vl8 : rn_V} {vl9 : rn_V} {vl10 : rn_V} {vl11 : rn_V} {xs0 : Int} (J : rn_Jq G M N n K)   (hr1 : ¬ (xs0 = 0)) (k1 : ∀ M', rn_Jq G M' N n K → rn_WP 215 364 [rn_R 0, rn_R 8, vl2, vl3, vl4, vl5, vl6, vl7, vl8, vl9, vl10, vl11] [] M' Q) : rn_WP 215 361 [rn_R 0, rn_R 8, vl2, vl3, vl4, vl5, vl6, vl7, vl8, vl9, vl10, vl11] [rn_I xs0] M Q := by
  refine (rn_step (e := (.ifCond .eq 44, 364, 405, 0, 0, 0, 0, [])) rfl).mpr (And.intro (fun q => absurd q hr1) (fun q => ?_))
  exact (k1 M J)
set_option maxRecDepth 4000 in
theorem rb_Lw_law_364 {M : rn_M} {Q : rn_Q} {G : Nat × (Nat → Int)} {N : Nat → Int} {n : Int} {K : Nat → Nat → Int} {vl2 : rn_V} {xl3 : Int} {vl4 : rn_V} {xl5 : Int} {vl6 : rn_V} {vl7 : rn_V} {vl8 : rn_V} {vl9 : rn_V} {vl10 : rn_V} {vl11 : rn_V} (J : rn_Jq G M N n K)   (hr1 : (0 : Int) ≤ xl3) (hr2 : (xl3 % 8 = 7) → (0 : Int) ≤ xl5 ∧ (-2147483648 : Int) ≤ 1 + (xl5 % 5) ∧ 1 + (xl5 % 5) ≤ 2147483647) (k1 : (xl3 % 8 = 7) → ∀ M', rn_Jq G M' N n K → rn_ME 131 [rn_R 8, rn_I (1 + (xl5 % 5))] M' (fun r M1 => rn_WP 215 383 [rn_R 0, rn_R 8, vl2, rn_I xl3, vl4, rn_I xl5, vl6, vl7, vl8, vl9, vl10, vl11] (r.toList ++ []) M1 Q)) (k2 : (¬ (xl3 % 8 = 7)) → ∀ M', rn_Jq G M' N n K → rn_WP 215 386 [rn_R 0, rn_R 8, vl2, rn_I xl3, vl4, rn_I xl5, vl6, vl7, vl8, vl9, vl10, vl11] [] M' Q) : rn_WP 215 364 [rn_R 0, rn_R 8, vl2, rn_I xl3, vl4, rn_I xl5, vl6, vl7, vl8, vl9, vl10, vl11] [] M Q := by
  refine (rn_step (e := (.iload_n 3, 365, 3, 0, 0, 0, 0, [])) rfl).mpr ?_
  refine (rn_step (e := (.bipush 8, 367, 0, 0, 0, 0, 0, [])) rfl).mpr ?_
  refine (rn_step (e := (.irem, 368, 0, 0, 0, 0, 0, [])) rfl).mpr (And.intro (hr1) (And.intro ((by decide)) (?_)))
  refine (rn_step (e := (.bipush 7, 370, 0, 0, 0, 0, 0, [])) rfl).mpr ?_
  refine (rn_step (e := (.if_icmp .ne 16, 373, 386, 0, 0, 0, 0, [])) rfl).mpr (And.intro (fun c1 => ?_) (fun c1 => ?_))
  ·
    refine (rn_step (e := (.aload_n 1, 374, 1, 0, 0, 0, 0, [])) rfl).mpr ?_
    refine (rn_step (e := (.iconst 1, 375, 0, 0, 0, 0, 0, [])) rfl).mpr ?_
    refine (rn_step (e := (.iload 5, 377, 5, 0, 0, 0, 0, [])) rfl).mpr ?_
    refine (rn_step (e := (.iconst 5, 378, 0, 0, 0, 0, 0, [])) rfl).mpr ?_
    refine (rn_step (e := (.irem, 379, 0, 0, 0, 0, 0, [])) rfl).mpr (And.intro ((hr2 c1).1) (And.intro ((by decide)) (?_)))
    refine (rn_step (e := (.iadd, 380, 0, 0, 0, 0, 0, [])) rfl).mpr (rn_cw (hr2 c1).2.1 (hr2 c1).2.2 ?_)
    exact (rn_step (e := (.invokestatic 131, 383, 131, 2, 735, 0, 0, [0])) rfl).mpr (k1 c1 M J)
  ·
    exact (k2 c1 M J)
set_option maxRecDepth 4000 in
theorem rb_Lw_law_383 {M : rn_M} {Q : rn_Q} {G : Nat × (Nat → Int)} {N : Nat → Int} {n : Int} {K : Nat → Nat → Int} {vl2 : rn_V} {vl3 : rn_V} {vl4 : rn_V} {vl5 : rn_V} {vl6 : rn_V} {vl7 : rn_V} {vl8 : rn_V} {vl9 : rn_V} {vl10 : rn_V} {vl11 : rn_V} {xs0 : Int} (J : rn_Jq G M N n K)   (hr1 : ¬ (xs0 = 0)) (k1 : ∀ M', rn_Jq G M' N n K → rn_WP 215 386 [rn_R 0, rn_R 8, vl2, vl3, vl4, vl5, vl6, vl7, vl8, vl9, vl10, vl11] [] M' Q) : rn_WP 215 383 [rn_R 0, rn_R 8, vl2, vl3, vl4, vl5, vl6, vl7, vl8, vl9, vl10, vl11] [rn_I xs0] M Q := by
  refine (rn_step (e := (.ifCond .eq 22, 386, 405, 0, 0, 0, 0, [])) rfl).mpr (And.intro (fun q => absurd q hr1) (fun q => ?_))
  exact (k1 M J)
set_option maxRecDepth 4000 in
theorem rb_Lw_law_386 {M : rn_M} {Q : rn_Q} {G : Nat × (Nat → Int)} {N : Nat → Int} {n : Int} {K : Nat → Nat → Int} {vl2 : rn_V} {xl3 : Int} {vl4 : rn_V} {vl5 : rn_V} {vl6 : rn_V} {vl7 : rn_V} {vl8 : rn_V} {vl9 : rn_V} {vl10 : rn_V} {vl11 : rn_V} (J : rn_Jq G M N n K)   (hr1 : (0 : Int) ≤ xl3) (hr2 : (xl3 % 11 = 5) → (-2147483648 : Int) ≤ xl3 + 1 ∧ xl3 + 1 ≤ 2147483647) (hr3 : (¬ (xl3 % 11 = 5)) → (-2147483648 : Int) ≤ xl3 + 1 ∧ xl3 + 1 ≤ 2147483647) (k1 : (xl3 % 11 = 5) → ∀ M', rn_Jq G M' N n K → rn_WP 215 39 [rn_R 0, rn_R 8, rn_I 1, rn_I (xl3 + 1), vl4, vl5, vl6, vl7, vl8, vl9, vl10, vl11] [] M' Q) (k2 : (¬ (xl3 % 11 = 5)) → ∀ M', rn_Jq G M' N n K → rn_WP 215 39 [rn_R 0, rn_R 8, rn_I 1, rn_I (xl3 + 1), vl4, vl5, vl6, vl7, vl8, vl9, vl10, vl11] [] M' Q) : rn_WP 215 386 [rn_R 0, rn_R 8, vl2, rn_I xl3, vl4, vl5, vl6, vl7, vl8, vl9, vl10, vl11] [] M Q := by
  refine (rn_step (e := (.iload_n 3, 387, 3, 0, 0, 0, 0, [])) rfl).mpr ?_
  refine (rn_step (e := (.bipush 11, 389, 0, 0, 0, 0, 0, [])) rfl).mpr ?_
  refine (rn_step (e := (.irem, 390, 0, 0, 0, 0, 0, [])) rfl).mpr (And.intro (hr1) (And.intro ((by decide)) (?_)))
  refine (rn_step (e := (.iconst 5, 391, 0, 0, 0, 0, 0, [])) rfl).mpr ?_
  refine (rn_step (e := (.if_icmp .ne 10, 394, 401, 0, 0, 0, 0, [])) rfl).mpr (And.intro (fun c1 => ?_) (fun c1 => ?_))
  ·
    refine (rn_step (e := (.aload_n 1, 395, 1, 0, 0, 0, 0, [])) rfl).mpr ?_
    refine (rn_step (e := (.invokestatic 108, 398, 127, 1, 497, 0, 0, [0])) rfl).mpr (iq_refused J  (fun M1 J1 => ?_))
    refine (rn_step (e := (.ifCond .eq 7, 401, 405, 0, 0, 0, 0, [])) rfl).mpr (And.intro (fun q => absurd q (by decide)) (fun q => ?_))
    refine (rn_step (e := (.iconst 1, 402, 0, 0, 0, 0, 0, [])) rfl).mpr ?_
    refine (rn_step (e := (.goto 4, 405, 406, 0, 0, 0, 0, [])) rfl).mpr ?_
    refine (rn_step (e := (.istore_n 2, 407, 2, 0, 0, 1, 0, [])) rfl).mpr (And.intro (rn_lnq rfl rfl) (?_))
    refine (rn_step (e := (.iinc 3 1, 410, 3, 0, 0, 0, 0, [])) rfl).mpr (rn_ci (hr2 c1).1 (hr2 c1).2 ?_)
    refine (rn_step (e := (.goto (-371), 413, 39, 0, 0, 0, 0, [])) rfl).mpr ?_
    exact (k1 c1 M1 J1)
  ·
    refine (rn_step (e := (.iconst 1, 402, 0, 0, 0, 0, 0, [])) rfl).mpr ?_
    refine (rn_step (e := (.goto 4, 405, 406, 0, 0, 0, 0, [])) rfl).mpr ?_
    refine (rn_step (e := (.istore_n 2, 407, 2, 0, 0, 1, 0, [])) rfl).mpr (And.intro (rn_lnq rfl rfl) (?_))
    refine (rn_step (e := (.iinc 3 1, 410, 3, 0, 0, 0, 0, [])) rfl).mpr (rn_ci (hr3 c1).1 (hr3 c1).2 ?_)
    refine (rn_step (e := (.goto (-371), 413, 39, 0, 0, 0, 0, [])) rfl).mpr ?_
    exact (k2 c1 M J)
set_option maxRecDepth 4000 in
theorem rb_Lw_law_413 {M : rn_M} {Q : rn_Q} {G : Nat × (Nat → Int)} {N : Nat → Int} {n : Int} {K : Nat → Nat → Int} {vl3 : rn_V} {vl4 : rn_V} {vl5 : rn_V} {vl6 : rn_V} {vl7 : rn_V} {vl8 : rn_V} {vl9 : rn_V} {vl10 : rn_V} {vl11 : rn_V} (J : rn_Jq G M N n K)   (k1 : ∀ M', rn_Jq G M' N n K → Q (some (rn_I 1)) M') : rn_WP 215 413 [rn_R 0, rn_R 8, rn_I 1, vl3, vl4, vl5, vl6, vl7, vl8, vl9, vl10, vl11] [] M Q := by
  refine (rn_step (e := (.iload_n 2, 414, 2, 0, 0, 0, 0, [])) rfl).mpr ?_
  refine (rn_step (e := (.ifCond .eq 21, 417, 435, 0, 0, 0, 0, [])) rfl).mpr (And.intro (fun q => absurd q (by decide)) (fun q => ?_))
  refine (rn_step (e := (.aload_n 1, 418, 1, 0, 0, 0, 0, [])) rfl).mpr ?_
  refine (rn_step (e := (.invokestatic 112, 421, 130, 1, 732, 0, 0, [0])) rfl).mpr (iq_areLabels J  (fun M1 J1 => ?_))
  refine (rn_step (e := (.ifCond .eq 14, 424, 435, 0, 0, 0, 0, [])) rfl).mpr (And.intro (fun q => absurd q (by decide)) (fun q => ?_))
  refine (rn_step (e := (.aload_n 1, 425, 1, 0, 0, 0, 0, [])) rfl).mpr ?_
  refine (rn_step (e := (.invokestatic 108, 428, 127, 1, 497, 0, 0, [0])) rfl).mpr (iq_refused J1  (fun M2 J2 => ?_))
  refine (rn_step (e := (.ifCond .eq 7, 431, 435, 0, 0, 0, 0, [])) rfl).mpr (And.intro (fun q => absurd q (by decide)) (fun q => ?_))
  refine (rn_step (e := (.iconst 1, 432, 0, 0, 0, 0, 0, [])) rfl).mpr ?_
  refine (rn_step (e := (.goto 4, 435, 436, 0, 0, 0, 0, [])) rfl).mpr ?_
  exact (rn_step (e := (.ireturn, 437, 0, 0, 0, 1, 0, [])) rfl).mpr (And.intro ((Or.inr rfl)) ((k1 M2 J2)))
