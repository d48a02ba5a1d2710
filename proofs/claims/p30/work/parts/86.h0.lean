theorem re_Lw_acts {M : rn_M} {Q : rn_Q} {v0 v1 v2 : rn_V} (h : rn_WP 132 0 [v0, v1, v2, rn_J, rn_J] [] M Q) : rn_ME 132 [v0, v1, v2] M Q := h
set_option maxRecDepth 4000 in
theorem rb_Lw_acts_0 {M : rn_M} {Q : rn_Q} {G : Nat × (Nat → Int)} {N : Nat → Int} {n : Int} {K : Nat → Nat → Int} {vl1 : rn_V} {xl2 : Int} {vl3 : rn_V} {vl4 : rn_V} (J : rn_Jq G M N n K)   (hr1 : (¬ (N 0 = 0)) → (0 : Int) ≤ xl2 ∧ (0 : Int) < N 0) (k1 : (N 0 = 0) → ∀ M', rn_Jq G M' N n K → rn_WP 132 17 [rn_R 8, vl1, rn_I xl2, rn_I (N 0), vl4] [rn_I 0] M' Q) (k2 : (¬ (N 0 = 0)) → ∀ M', rn_Jq G M' N n K → rn_WP 132 17 [rn_R 8, vl1, rn_I xl2, rn_I (N 0), vl4] [rn_I (xl2 % (N 0))] M' Q) : rn_WP 132 0 [rn_R 8, vl1, rn_I xl2, vl3, vl4] [] M Q := by
  refine (rn_step (e := (.aload_n 0, 1, 0, 0, 0, 0, 0, [])) rfl).mpr ?_
  refine (rn_step (e := (.iconst 0, 2, 0, 0, 0, 0, 0, [])) rfl).mpr ?_
  refine (rn_step (e := (.invokevirtual 13, 5, 106, 2, 276, 0, 10, [0])) rfl).mpr (And.intro ((rn_J8 J)) ((iq_count0 J  (fun M1 J1 => ?_))))
  refine (rn_step (e := (.istore_n 3, 6, 3, 0, 0, 1, 0, [])) rfl).mpr (And.intro (rn_lnq rfl rfl) (?_))
  refine (rn_step (e := (.iload_n 3, 7, 3, 0, 0, 0, 0, [])) rfl).mpr ?_
  refine (rn_step (e := (.ifCond .ne 7, 10, 14, 0, 0, 0, 0, [])) rfl).mpr (And.intro (fun c1 => ?_) (fun c1 => ?_))
  ·
    refine (rn_step (e := (.iconst 0, 11, 0, 0, 0, 0, 0, [])) rfl).mpr ?_
    refine (rn_step (e := (.goto 6, 14, 17, 0, 0, 0, 0, [])) rfl).mpr ?_
    exact (k1 c1 M1 J1)
  ·
    refine (rn_step (e := (.iload_n 2, 15, 2, 0, 0, 0, 0, [])) rfl).mpr ?_
    refine (rn_step (e := (.iload_n 3, 16, 3, 0, 0, 0, 0, [])) rfl).mpr ?_
    refine (rn_step (e := (.irem, 17, 0, 0, 0, 0, 0, [])) rfl).mpr (And.intro ((hr1 c1).1) (And.intro ((hr1 c1).2) (?_)))
    exact (k2 c1 M1 J1)
set_option maxRecDepth 4000 in
theorem rb_Lw_acts_17 {M : rn_M} {Q : rn_Q} {G : Nat × (Nat → Int)} {N : Nat → Int} {n : Int} {K : Nat → Nat → Int} {xl1 : Int} {xl2 : Int} {vl3 : rn_V} {vl4 : rn_V} {xs0 : Int} (J : rn_Jq G M N n K)  (h1 : rn_ca vl3 = 1) (hr1 : (rn_and xl1 2147483647 % 20 < 0 ∨ 16 < rn_and xl1 2147483647 % 20) → (0 : Int) ≤ xl2 ∧ (-2147483648 : Int) ≤ 1 + (xl2 % 5) ∧ 1 + (xl2 % 5) ≤ 2147483647) (hr2 : (rn_and xl1 2147483647 % 20 = 0) → (0 : Int) ≤ xl2 ∧ (-2147483648 : Int) ≤ 1 + (xl2 % 6) ∧ 1 + (xl2 % 6) ≤ 2147483647 ∧ (0 : Int) ≤ xl2 / 6 ∧ (-2147483648 : Int) ≤ 4 + ((xl2 / 6) % 14) ∧ 4 + ((xl2 / 6) % 14) ≤ 2147483647 ∧ (0 : Int) ≤ xl2 / 84 ∧ (0 : Int) ≤ xl2 / 1176 ∧ (-2147483648 : Int) ≤ 1 + ((xl2 / 1176) % 9) ∧ 1 + ((xl2 / 1176) % 9) ≤ 2147483647) (hr3 : (rn_and xl1 2147483647 % 20 = 1) → (0 : Int) ≤ xl2 ∧ (0 : Int) ≤ xl2 / 30 ∧ (-2147483648 : Int) ≤ 1 + (xl2 % 12) ∧ 1 + (xl2 % 12) ≤ 2147483647 ∧ (-2147483648 : Int) ≤ 1 + (xl2 % 3) ∧ 1 + (xl2 % 3) ≤ 2147483647 ∧ (0 : Int) ≤ xl2 / 600 ∧ (-2147483648 : Int) ≤ 1 + ((xl2 / 600) % 9) ∧ 1 + ((xl2 / 600) % 9) ≤ 2147483647) (hr4 : (rn_and xl1 2147483647 % 20 = 2) → (0 : Int) ≤ xl2 ∧ (0 : Int) ≤ xl2 / 6) (hr5 : (rn_and xl1 2147483647 % 20 = 2) → ((xl2 / 6) % 3 = 0) → (0 : Int) ≤ xl2 ∧ (0 : Int) ≤ xl2 / 18) (hr6 : (rn_and xl1 2147483647 % 20 = 2) → (¬ ((xl2 / 6) % 3 = 0)) → (0 : Int) ≤ xl2 ∧ (0 : Int) ≤ xl2 / 18) (hr7 : (rn_and xl1 2147483647 % 20 = 3) → (0 : Int) ≤ xl2 ∧ (0 : Int) ≤ xl2 / 6) (hr8 : (rn_and xl1 2147483647 % 20 = 3) → ((xl2 / 6) % 3 = 0) → (0 : Int) ≤ xl2 ∧ (0 : Int) ≤ xl2 / 18) (hr9 : (rn_and xl1 2147483647 % 20 = 3) → (¬ ((xl2 / 6) % 3 = 0)) → (0 : Int) ≤ xl2 ∧ (0 : Int) ≤ xl2 / 18) (hr10 : (rn_and xl1 2147483647 % 20 = 4) → (0 : Int) ≤ xl2 ∧ (0 : Int) ≤ xl2 / 6) (hr11 : (rn_and xl1 2147483647 % 20 = 4) → ((xl2 / 6) % 3 = 0) → (0 : Int) ≤ xl2 ∧ (0 : Int) ≤ xl2 / 18) (hr12 : (rn_and xl1 2147483647 % 20 = 4) → (¬ ((xl2 / 6) % 3 = 0)) → (0 : Int) ≤ xl2 ∧ (0 : Int) ≤ xl2 / 18) (hr13 : (rn_and xl1 2147483647 % 20 = 5) → (0 : Int) ≤ xl2 ∧ (0 : Int) ≤ xl2 / 6) (hr14 : (rn_and xl1 2147483647 % 20 = 5) → ((xl2 / 6) % 3 = 0) → (0 : Int) ≤ xl2 ∧ (0 : Int) ≤ xl2 / 18) (hr15 : (rn_and xl1 2147483647 % 20 = 5) → (¬ ((xl2 / 6) % 3 = 0)) → (0 : Int) ≤ xl2 ∧ (0 : Int) ≤ xl2 / 18) (hr16 : (rn_and xl1 2147483647 % 20 = 6) → (0 : Int) ≤ xl2 ∧ (0 : Int) ≤ xl2 / 6) (hr17 : (rn_and xl1 2147483647 % 20 = 6) → ((xl2 / 6) % 3 = 0) → (0 : Int) ≤ xl2 ∧ (0 : Int) ≤ xl2 / 18) (hr18 : (rn_and xl1 2147483647 % 20 = 6) → (¬ ((xl2 / 6) % 3 = 0)) → (0 : Int) ≤ xl2 ∧ (0 : Int) ≤ xl2 / 18) (hr19 : (rn_and xl1 2147483647 % 20 = 7) → (0 : Int) ≤ xl2 ∧ (0 : Int) ≤ xl2 / 6) (hr20 : (rn_and xl1 2147483647 % 20 = 7) → ((xl2 / 6) % 3 = 0) → (0 : Int) ≤ xl2 ∧ (0 : Int) ≤ xl2 / 18) (hr21 : (rn_and xl1 2147483647 % 20 = 7) → (¬ ((xl2 / 6) % 3 = 0)) → (0 : Int) ≤ xl2 ∧ (0 : Int) ≤ xl2 / 18) (hr22 : (rn_and xl1 2147483647 % 20 = 8) → (0 : Int) ≤ xl2 ∧ (0 : Int) ≤ xl2 / 6 ∧ (-2147483648 : Int) ≤ 1 + ((xl2 / 6) % 9) ∧ 1 + ((xl2 / 6) % 9) ≤ 2147483647) (hr23 : (rn_and xl1 2147483647 % 20 = 9) → (0 : Int) ≤ xl2) (hr24 : (rn_and xl1 2147483647 % 20 = 9) → (xl2 % 2 = 0) → (0 : Int) ≤ xl2 ∧ (0 : Int) ≤ xl2 / 6) (hr25 : (rn_and xl1 2147483647 % 20 = 9) → (¬ (xl2 % 2 = 0)) → (0 : Int) ≤ xl2 ∧ (0 : Int) ≤ xl2 / 6) (hr26 : (rn_and xl1 2147483647 % 20 = 10) → (N 1 = 0) → (0 : Int) ≤ xl2 ∧ (0 : Int) ≤ xl2 / 10 ∧ (-2147483648 : Int) ≤ 1 + ((xl2 / 10) % 9) ∧ 1 + ((xl2 / 10) % 9) ≤ 2147483647) (hr27 : (rn_and xl1 2147483647 % 20 = 10) → (¬ (N 1 = 0)) → (0 : Int) ≤ xl2 ∧ (0 : Int) < N 1 ∧ (0 : Int) ≤ xl2 / 10 ∧ (-2147483648 : Int) ≤ 1 + ((xl2 / 10) % 9) ∧ 1 + ((xl2 / 10) % 9) ≤ 2147483647) (hr28 : (rn_and xl1 2147483647 % 20 = 11) → (0 : Int) ≤ xl2 ∧ (0 : Int) ≤ xl2 / 6) (hr29 : (rn_and xl1 2147483647 % 20 = 12) → (0 : Int) ≤ xl2 ∧ (0 : Int) ≤ xl2 / 6) (hr30 : (rn_and xl1 2147483647 % 20 = 13) → (0 : Int) ≤ xl2 ∧ (0 : Int) ≤ xl2 / 6) (hr31 : (rn_and xl1 2147483647 % 20 = 14) → (0 : Int) ≤ xl2 ∧ (0 : Int) ≤ xl2 / 6) (hr32 : (rn_and xl1 2147483647 % 20 = 15) → (¬ (N 2 = 0)) → (0 : Int) ≤ xl2 ∧ (0 : Int) < N 2) (k1 : (rn_and xl1 2147483647 % 20 < 0 ∨ 16 < rn_and xl1 2147483647 % 20) → ∀ M', rn_Jq G M' N n K → rn_ME 103 [rn_R 8, rn_I (1 + (xl2 % 5))] M' (fun r M1 => rn_WP 132 351 [rn_R 8, rn_I xl1, rn_I xl2, vl3, rn_I xs0] (r.toList ++ []) M1 Q)) (k2 : (rn_and xl1 2147483647 % 20 = 0) → ∀ M', rn_Jq G M' N n K → rn_ME 94 [rn_R 8, rn_I (1 + (xl2 % 6)), rn_I (4 + ((xl2 / 6) % 14)), rn_I ((xl2 / 84) % 14), rn_I (1 + ((xl2 / 1176) % 9)), rn_I (xl2 % 3)] M' (fun r M1 => rn_WP 132 147 [rn_R 8, rn_I xl1, rn_I xl2, vl3, rn_I xs0] (r.toList ++ []) M1 Q)) (k3 : (rn_and xl1 2147483647 % 20 = 1) → ∀ M', rn_Jq G M' N n K → rn_ME 95 [rn_R 8, rn_I (xl2 % 30), rn_I ((xl2 / 30) % 20), rn_I (1 + (xl2 % 12)), rn_I (1 + (xl2 % 3)), rn_I (1 + ((xl2 / 600) % 9))] M' (fun r M1 => rn_WP 132 184 [rn_R 8, rn_I xl1, rn_I xl2, vl3, rn_I xs0] (r.toList ++ []) M1 Q)) (k4 : (rn_and xl1 2147483647 % 20 = 2) → ((xl2 / 6) % 3 = 0) → ∀ M', rn_Jq G M' N n K → rn_ME 96 [rn_R 8, rn_I xs0, rn_I ((xl2 / 18) % 8)] M' (fun r M1 => rn_WP 132 216 [rn_R 8, rn_I xl1, rn_I xl2, vl3, rn_I xs0] (r.toList ++ []) M1 Q)) (k5 : (rn_and xl1 2147483647 % 20 = 2) → (¬ ((xl2 / 6) % 3 = 0)) → ∀ M', rn_Jq G M' N n K → rn_ME 96 [rn_R 8, rn_I xs0, rn_I ((xl2 / 18) % 3)] M' (fun r M1 => rn_WP 132 216 [rn_R 8, rn_I xl1, rn_I xl2, vl3, rn_I xs0] (r.toList ++ []) M1 Q)) (k6 : (rn_and xl1 2147483647 % 20 = 3) → ((xl2 / 6) % 3 = 0) → ∀ M', rn_Jq G M' N n K → rn_ME 96 [rn_R 8, rn_I xs0, rn_I ((xl2 / 18) % 8)] M' (fun r M1 => rn_WP 132 216 [rn_R 8, rn_I xl1, rn_I xl2, vl3, rn_I xs0] (r.toList ++ []) M1 Q)) (k7 : (rn_and xl1 2147483647 % 20 = 3) → (¬ ((xl2 / 6) % 3 = 0)) → ∀ M', rn_Jq G M' N n K → rn_ME 96 [rn_R 8, rn_I xs0, rn_I ((xl2 / 18) % 3)] M' (fun r M1 => rn_WP 132 216 [rn_R 8, rn_I xl1, rn_I xl2, vl3, rn_I xs0] (r.toList ++ []) M1 Q)) (k8 : (rn_and xl1 2147483647 % 20 = 4) → ((xl2 / 6) % 3 = 0) → ∀ M', rn_Jq G M' N n K → rn_ME 96 [rn_R 8, rn_I xs0, rn_I ((xl2 / 18) % 8)] M' (fun r M1 => rn_WP 132 216 [rn_R 8, rn_I xl1, rn_I xl2, vl3, rn_I xs0] (r.toList ++ []) M1 Q)) (k9 : (rn_and xl1 2147483647 % 20 = 4) → (¬ ((xl2 / 6) % 3 = 0)) → ∀ M', rn_Jq G M' N n K → rn_ME 96 [rn_R 8, rn_I xs0, rn_I ((xl2 / 18) % 3)] M' (fun r M1 => rn_WP 132 216 [rn_R 8, rn_I xl1, rn_I xl2, vl3, rn_I xs0] (r.toList ++ []) M1 Q)) (k10 : (rn_and xl1 2147483647 % 20 = 5) → ((xl2 / 6) % 3 = 0) → ∀ M', rn_Jq G M' N n K → rn_ME 96 [rn_R 8, rn_I xs0, rn_I ((xl2 / 18) % 8)] M' (fun r M1 => rn_WP 132 216 [rn_R 8, rn_I xl1, rn_I xl2, vl3, rn_I xs0] (r.toList ++ []) M1 Q)) (k11 : (rn_and xl1 2147483647 % 20 = 5) → (¬ ((xl2 / 6) % 3 = 0)) → ∀ M', rn_Jq G M' N n K → rn_ME 96 [rn_R 8, rn_I xs0, rn_I ((xl2 / 18) % 3)] M' (fun r M1 => rn_WP 132 216 [rn_R 8, rn_I xl1, rn_I xl2, vl3, rn_I xs0] (r.toList ++ []) M1 Q)) (k12 : (rn_and xl1 2147483647 % 20 = 6) → ((xl2 / 6) % 3 = 0) → ∀ M', rn_Jq G M' N n K → rn_ME 96 [rn_R 8, rn_I xs0, rn_I ((xl2 / 18) % 8)] M' (fun r M1 => rn_WP 132 216 [rn_R 8, rn_I xl1, rn_I xl2, vl3, rn_I xs0] (r.toList ++ []) M1 Q)) (k13 : (rn_and xl1 2147483647 % 20 = 6) → (¬ ((xl2 / 6) % 3 = 0)) → ∀ M', rn_Jq G M' N n K → rn_ME 96 [rn_R 8, rn_I xs0, rn_I ((xl2 / 18) % 3)] M' (fun r M1 => rn_WP 132 216 [rn_R 8, rn_I xl1, rn_I xl2, vl3, rn_I xs0] (r.toList ++ []) M1 Q)) (k14 : (rn_and xl1 2147483647 % 20 = 7) → ((xl2 / 6) % 3 = 0) → ∀ M', rn_Jq G M' N n K → rn_ME 96 [rn_R 8, rn_I xs0, rn_I ((xl2 / 18) % 8)] M' (fun r M1 => rn_WP 132 216 [rn_R 8, rn_I xl1, rn_I xl2, vl3, rn_I xs0] (r.toList ++ []) M1 Q)) (k15 : (rn_and xl1 2147483647 % 20 = 7) → (¬ ((xl2 / 6) % 3 = 0)) → ∀ M', rn_Jq G M' N n K → rn_ME 96 [rn_R 8, rn_I xs0, rn_I ((xl2 / 18) % 3)] M' (fun r M1 => rn_WP 132 216 [rn_R 8, rn_I xl1, rn_I xl2, vl3, rn_I xs0] (r.toList ++ []) M1 Q)) (k16 : (rn_and xl1 2147483647 % 20 = 8) → ∀ M', rn_Jq G M' N n K → rn_ME 97 [rn_R 8, rn_I xs0, rn_I (1 + ((xl2 / 6) % 9))] M' (fun r M1 => rn_WP 132 232 [rn_R 8, rn_I xl1, rn_I xl2, vl3, rn_I xs0] (r.toList ++ []) M1 Q)) (k17 : (rn_and xl1 2147483647 % 20 = 9) → (xl2 % 2 = 0) → ∀ M', rn_Jq G M' N n K → rn_ME 98 [rn_R 8, rn_I xs0, rn_I ((xl2 / 6) % 3)] M' (fun r M1 => rn_WP 132 251 [rn_R 8, rn_I xl1, rn_I xl2, vl3, rn_I xs0] (r.toList ++ []) M1 Q)) (k18 : (rn_and xl1 2147483647 % 20 = 9) → (¬ (xl2 % 2 = 0)) → ∀ M', rn_Jq G M' N n K → rn_ME 100 [rn_R 8, rn_I ((xl2 / 6) % 14)] M' (fun r M1 => rn_WP 132 265 [rn_R 8, rn_I xl1, rn_I xl2, vl3, rn_I xs0] (r.toList ++ []) M1 Q)) (k19 : (rn_and xl1 2147483647 % 20 = 10) → (N 1 = 0) → ∀ M', rn_Jq G M' N n K → rn_ME 99 [rn_R 8, rn_I 0, rn_I (1 + ((xl2 / 10) % 9))] M' (fun r M1 => rn_WP 132 298 [rn_R 8, rn_I xl1, rn_I xl2, vl3, rn_I xs0] (r.toList ++ []) M1 Q)) (k20 : (rn_and xl1 2147483647 % 20 = 10) → (¬ (N 1 = 0)) → ∀ M', rn_Jq G M' N n K → rn_ME 99 [rn_R 8, rn_I (xl2 % (N 1)), rn_I (1 + ((xl2 / 10) % 9))] M' (fun r M1 => rn_WP 132 298 [rn_R 8, rn_I xl1, rn_I xl2, vl3, rn_I xs0] (r.toList ++ []) M1 Q)) (k21 : (rn_and xl1 2147483647 % 20 = 11) → ∀ M', rn_Jq G M' N n K → rn_ME 101 [rn_R 8, rn_I xs0, rn_I ((xl2 / 6) % 14)] M' (fun r M1 => rn_WP 132 312 [rn_R 8, rn_I xl1, rn_I xl2, vl3, rn_I xs0] (r.toList ++ []) M1 Q)) (k22 : (rn_and xl1 2147483647 % 20 = 12) → ∀ M', rn_Jq G M' N n K → rn_ME 101 [rn_R 8, rn_I xs0, rn_I ((xl2 / 6) % 14)] M' (fun r M1 => rn_WP 132 312 [rn_R 8, rn_I xl1, rn_I xl2, vl3, rn_I xs0] (r.toList ++ []) M1 Q)) (k23 : (rn_and xl1 2147483647 % 20 = 13) → ∀ M', rn_Jq G M' N n K → rn_ME 101 [rn_R 8, rn_I xs0, rn_I ((xl2 / 6) % 14)] M' (fun r M1 => rn_WP 132 312 [rn_R 8, rn_I xl1, rn_I xl2, vl3, rn_I xs0] (r.toList ++ []) M1 Q)) (k24 : (rn_and xl1 2147483647 % 20 = 14) → ∀ M', rn_Jq G M' N n K → rn_ME 101 [rn_R 8, rn_I xs0, rn_I ((xl2 / 6) % 14)] M' (fun r M1 => rn_WP 132 312 [rn_R 8, rn_I xl1, rn_I xl2, vl3, rn_I xs0] (r.toList ++ []) M1 Q)) (k25 : (rn_and xl1 2147483647 % 20 = 15) → (N 2 = 0) → ∀ M', rn_Jq G M' N n K → rn_ME 102 [rn_R 8, rn_I 0] M' (fun r M1 => rn_WP 132 336 [rn_R 8, rn_I xl1, rn_I xl2, vl3, rn_I xs0] (r.toList ++ []) M1 Q)) (k26 : (rn_and xl1 2147483647 % 20 = 15) → (¬ (N 2 = 0)) → ∀ M', rn_Jq G M' N n K → rn_ME 102 [rn_R 8, rn_I (xl2 % (N 2))] M' (fun r M1 => rn_WP 132 336 [rn_R 8, rn_I xl1, rn_I xl2, vl3, rn_I xs0] (r.toList ++ []) M1 Q)) (k27 : (rn_and xl1 2147483647 % 20 = 16) → ∀ M', rn_Jq G M' N n K → rn_ME 104 [rn_R 8] M' (fun r M1 => rn_WP 132 341 [rn_R 8, rn_I xl1, rn_I xl2, vl3, rn_I xs0] (r.toList ++ []) M1 Q)) : rn_WP 132 17 [rn_R 8, rn_I xl1, rn_I xl2, vl3, vl4] [rn_I xs0] M Q := by
  refine (rn_step (e := (.istore 4, 19, 4, 0, 0, 1, 0, [])) rfl).mpr (And.intro (rn_lnq rfl h1) (?_))
  refine (rn_step (e := (.iload_n 1, 20, 1, 0, 0, 0, 0, [])) rfl).mpr ?_
  refine (rn_step (e := (.bipush 20, 22, 0, 0, 0, 0, 0, [])) rfl).mpr ?_
  refine (rn_step (e := (.invokestatic 104, 25, 124, 2, 417, 0, 0, [0])) rfl).mpr (rc_Lw_low ((by decide)) ?_)
  refine (rn_step (e := (.tableswitch 317 0 16 #[83, 123, 160, 160, 160, 160, 160, 160, 192, 208, 241, 274, 274, 274, 274, 288, 312], 108, 342, 0, 0, 0, 0, [108, 148, 185, 185, 185, 185, 185, 185, 217, 233, 266, 299, 299, 299, 299, 313, 337])) rfl).mpr (And.intro (fun c1 => ?_) (fun q => ?_))
  ·
    refine (rn_step (e := (.aload_n 0, 343, 0, 0, 0, 0, 0, [])) rfl).mpr ?_
    refine (rn_step (e := (.iconst 1, 344, 0, 0, 0, 0, 0, [])) rfl).mpr ?_
    refine (rn_step (e := (.iload_n 2, 345, 2, 0, 0, 0, 0, [])) rfl).mpr ?_
    refine (rn_step (e := (.iconst 5, 346, 0, 0, 0, 0, 0, [])) rfl).mpr ?_
    refine (rn_step (e := (.irem, 347, 0, 0, 0, 0, 0, [])) rfl).mpr (And.intro ((hr1 c1).1) (And.intro ((by decide)) (?_)))
    refine (rn_step (e := (.iadd, 348, 0, 0, 0, 0, 0, [])) rfl).mpr (rn_cw (hr1 c1).2.1 (hr1 c1).2.2 ?_)
    exact (rn_step (e := (.invokevirtual 72, 351, 103, 2, 645, 0, 10, [0])) rfl).mpr (And.intro ((rn_J8 J)) ((k1 c1 M J)))
  ·
    obtain ⟨n, hn⟩ : ∃ n : Nat, rn_and xl1 2147483647 % 20 = (n : Int) := ⟨(rn_and xl1 2147483647 % 20).toNat, by omega⟩
    rw [show (rn_and xl1 2147483647 % 20 - 0).toNat = n by omega]
    match n, hn with
    | 0, c1 =>
      refine (rn_step (e := (.aload_n 0, 109, 0, 0, 0, 0, 0, [])) rfl).mpr ?_
      refine (rn_step (e := (.iconst 1, 110, 0, 0, 0, 0, 0, [])) rfl).mpr ?_
      refine (rn_step (e := (.iload_n 2, 111, 2, 0, 0, 0, 0, [])) rfl).mpr ?_
      refine (rn_step (e := (.bipush 6, 113, 0, 0, 0, 0, 0, [])) rfl).mpr ?_
      refine (rn_step (e := (.irem, 114, 0, 0, 0, 0, 0, [])) rfl).mpr (And.intro ((hr2 c1).1) (And.intro ((by decide)) (?_)))
      refine (rn_step (e := (.iadd, 115, 0, 0, 0, 0, 0, [])) rfl).mpr (rn_cw (hr2 c1).2.1 (hr2 c1).2.2.1 ?_)
      refine (rn_step (e := (.iconst 4, 116, 0, 0, 0, 0, 0, [])) rfl).mpr ?_
      refine (rn_step (e := (.iload_n 2, 117, 2, 0, 0, 0, 0, [])) rfl).mpr ?_
      refine (rn_step (e := (.bipush 6, 119, 0, 0, 0, 0, 0, [])) rfl).mpr ?_
      refine (rn_step (e := (.idiv, 120, 0, 0, 0, 0, 0, [])) rfl).mpr (And.intro ((hr2 c1).1) (And.intro ((by decide)) (?_)))
      refine (rn_step (e := (.bipush 14, 122, 0, 0, 0, 0, 0, [])) rfl).mpr ?_
      refine (rn_step (e := (.irem, 123, 0, 0, 0, 0, 0, [])) rfl).mpr (And.intro ((hr2 c1).2.2.2.1) (And.intro ((by decide)) (?_)))
      refine (rn_step (e := (.iadd, 124, 0, 0, 0, 0, 0, [])) rfl).mpr (rn_cw (hr2 c1).2.2.2.2.1 (hr2 c1).2.2.2.2.2.1 ?_)
      refine (rn_step (e := (.iload_n 2, 125, 2, 0, 0, 0, 0, [])) rfl).mpr ?_
      refine (rn_step (e := (.bipush 84, 127, 0, 0, 0, 0, 0, [])) rfl).mpr ?_
      refine (rn_step (e := (.idiv, 128, 0, 0, 0, 0, 0, [])) rfl).mpr (And.intro ((hr2 c1).1) (And.intro ((by decide)) (?_)))
      refine (rn_step (e := (.bipush 14, 130, 0, 0, 0, 0, 0, [])) rfl).mpr ?_
      refine (rn_step (e := (.irem, 131, 0, 0, 0, 0, 0, [])) rfl).mpr (And.intro ((hr2 c1).2.2.2.2.2.2.1) (And.intro ((by decide)) (?_)))
      refine (rn_step (e := (.iconst 1, 132, 0, 0, 0, 0, 0, [])) rfl).mpr ?_
      refine (rn_step (e := (.iload_n 2, 133, 2, 0, 0, 0, 0, [])) rfl).mpr ?_
      refine (rn_step (e := (.sipush 1176, 136, 0, 0, 0, 0, 0, [])) rfl).mpr ?_
      refine (rn_step (e := (.idiv, 137, 0, 0, 0, 0, 0, [])) rfl).mpr (And.intro ((hr2 c1).1) (And.intro ((by decide)) (?_)))
      refine (rn_step (e := (.bipush 9, 139, 0, 0, 0, 0, 0, [])) rfl).mpr ?_
      refine (rn_step (e := (.irem, 140, 0, 0, 0, 0, 0, [])) rfl).mpr (And.intro ((hr2 c1).2.2.2.2.2.2.2.1) (And.intro ((by decide)) (?_)))
      refine (rn_step (e := (.iadd, 141, 0, 0, 0, 0, 0, [])) rfl).mpr (rn_cw (hr2 c1).2.2.2.2.2.2.2.2.1 (hr2 c1).2.2.2.2.2.2.2.2.2 ?_)
      refine (rn_step (e := (.iload_n 2, 142, 2, 0, 0, 0, 0, [])) rfl).mpr ?_
      refine (rn_step (e := (.iconst 3, 143, 0, 0, 0, 0, 0, [])) rfl).mpr ?_
      refine (rn_step (e := (.irem, 144, 0, 0, 0, 0, 0, [])) rfl).mpr (And.intro ((hr2 c1).1) (And.intro ((by decide)) (?_)))
      exact (rn_step (e := (.invokevirtual 44, 147, 94, 6, 509, 0, 10, [0])) rfl).mpr (And.intro ((rn_J8 J)) ((k2 c1 M J)))
    | 1, c1 =>
      refine (rn_step (e := (.aload_n 0, 149, 0, 0, 0, 0, 0, [])) rfl).mpr ?_
      refine (rn_step (e := (.iload_n 2, 150, 2, 0, 0, 0, 0, [])) rfl).mpr ?_
      refine (rn_step (e := (.bipush 30, 152, 0, 0, 0, 0, 0, [])) rfl).mpr ?_
      refine (rn_step (e := (.irem, 153, 0, 0, 0, 0, 0, [])) rfl).mpr (And.intro ((hr3 c1).1) (And.intro ((by decide)) (?_)))
      refine (rn_step (e := (.iload_n 2, 154, 2, 0, 0, 0, 0, [])) rfl).mpr ?_
      refine (rn_step (e := (.bipush 30, 156, 0, 0, 0, 0, 0, [])) rfl).mpr ?_
      refine (rn_step (e := (.idiv, 157, 0, 0, 0, 0, 0, [])) rfl).mpr (And.intro ((hr3 c1).1) (And.intro ((by decide)) (?_)))
      refine (rn_step (e := (.bipush 20, 159, 0, 0, 0, 0, 0, [])) rfl).mpr ?_
      refine (rn_step (e := (.irem, 160, 0, 0, 0, 0, 0, [])) rfl).mpr (And.intro ((hr3 c1).2.1) (And.intro ((by decide)) (?_)))
      refine (rn_step (e := (.iconst 1, 161, 0, 0, 0, 0, 0, [])) rfl).mpr ?_
      refine (rn_step (e := (.iload_n 2, 162, 2, 0, 0, 0, 0, [])) rfl).mpr ?_
      refine (rn_step (e := (.bipush 12, 164, 0, 0, 0, 0, 0, [])) rfl).mpr ?_
      refine (rn_step (e := (.irem, 165, 0, 0, 0, 0, 0, [])) rfl).mpr (And.intro ((hr3 c1).1) (And.intro ((by decide)) (?_)))
      refine (rn_step (e := (.iadd, 166, 0, 0, 0, 0, 0, [])) rfl).mpr (rn_cw (hr3 c1).2.2.1 (hr3 c1).2.2.2.1 ?_)
      refine (rn_step (e := (.iconst 1, 167, 0, 0, 0, 0, 0, [])) rfl).mpr ?_
      refine (rn_step (e := (.iload_n 2, 168, 2, 0, 0, 0, 0, [])) rfl).mpr ?_
      refine (rn_step (e := (.iconst 3, 169, 0, 0, 0, 0, 0, [])) rfl).mpr ?_
      refine (rn_step (e := (.irem, 170, 0, 0, 0, 0, 0, [])) rfl).mpr (And.intro ((hr3 c1).1) (And.intro ((by decide)) (?_)))
      refine (rn_step (e := (.iadd, 171, 0, 0, 0, 0, 0, [])) rfl).mpr (rn_cw (hr3 c1).2.2.2.2.1 (hr3 c1).2.2.2.2.2.1 ?_)
      refine (rn_step (e := (.iconst 1, 172, 0, 0, 0, 0, 0, [])) rfl).mpr ?_
      refine (rn_step (e := (.iload_n 2, 173, 2, 0, 0, 0, 0, [])) rfl).mpr ?_
      refine (rn_step (e := (.sipush 600, 176, 0, 0, 0, 0, 0, [])) rfl).mpr ?_
      refine (rn_step (e := (.idiv, 177, 0, 0, 0, 0, 0, [])) rfl).mpr (And.intro ((hr3 c1).1) (And.intro ((by decide)) (?_)))
      refine (rn_step (e := (.bipush 9, 179, 0, 0, 0, 0, 0, [])) rfl).mpr ?_
      refine (rn_step (e := (.irem, 180, 0, 0, 0, 0, 0, [])) rfl).mpr (And.intro ((hr3 c1).2.2.2.2.2.2.1) (And.intro ((by decide)) (?_)))
      refine (rn_step (e := (.iadd, 181, 0, 0, 0, 0, 0, [])) rfl).mpr (rn_cw (hr3 c1).2.2.2.2.2.2.2.1 (hr3 c1).2.2.2.2.2.2.2.2 ?_)
      exact (rn_step (e := (.invokevirtual 48, 184, 95, 6, 592, 0, 10, [0])) rfl).mpr (And.intro ((rn_J8 J)) ((k3 c1 M J)))
    | 2, c1 =>
      refine (rn_step (e := (.aload_n 0, 186, 0, 0, 0, 0, 0, [])) rfl).mpr ?_
      refine (rn_step (e := (.iload 4, 188, 4, 0, 0, 0, 0, [])) rfl).mpr ?_
      refine (rn_step (e := (.iload_n 2, 189, 2, 0, 0, 0, 0, [])) rfl).mpr ?_
      refine (rn_step (e := (.bipush 6, 191, 0, 0, 0, 0, 0, [])) rfl).mpr ?_
      refine (rn_step (e := (.idiv, 192, 0, 0, 0, 0, 0, [])) rfl).mpr (And.intro ((hr4 c1).1) (And.intro ((by decide)) (?_)))
      refine (rn_step (e := (.iconst 3, 193, 0, 0, 0, 0, 0, [])) rfl).mpr ?_
      refine (rn_step (e := (.irem, 194, 0, 0, 0, 0, 0, [])) rfl).mpr (And.intro ((hr4 c1).2) (And.intro ((by decide)) (?_)))
      refine (rn_step (e := (.ifCond .ne 13, 197, 207, 0, 0, 0, 0, [])) rfl).mpr (And.intro (fun c2 => ?_) (fun c2 => ?_))
      ·
        refine (rn_step (e := (.iload_n 2, 198, 2, 0, 0, 0, 0, [])) rfl).mpr ?_
        refine (rn_step (e := (.bipush 18, 200, 0, 0, 0, 0, 0, [])) rfl).mpr ?_
        refine (rn_step (e := (.idiv, 201, 0, 0, 0, 0, 0, [])) rfl).mpr (And.intro ((hr5 c1 c2).1) (And.intro ((by decide)) (?_)))
        refine (rn_step (e := (.bipush 8, 203, 0, 0, 0, 0, 0, [])) rfl).mpr ?_
        refine (rn_step (e := (.irem, 204, 0, 0, 0, 0, 0, [])) rfl).mpr (And.intro ((hr5 c1 c2).2) (And.intro ((by decide)) (?_)))
        refine (rn_step (e := (.goto 9, 207, 213, 0, 0, 0, 0, [])) rfl).mpr ?_
        exact (rn_step (e := (.invokevirtual 51, 216, 96, 3, 598, 0, 10, [0])) rfl).mpr (And.intro ((rn_J8 J)) ((k4 c1 c2 M J)))
      ·
        refine (rn_step (e := (.iload_n 2, 208, 2, 0, 0, 0, 0, [])) rfl).mpr ?_
        refine (rn_step (e := (.bipush 18, 210, 0, 0, 0, 0, 0, [])) rfl).mpr ?_
        refine (rn_step (e := (.idiv, 211, 0, 0, 0, 0, 0, [])) rfl).mpr (And.intro ((hr6 c1 c2).1) (And.intro ((by decide)) (?_)))
        refine (rn_step (e := (.iconst 3, 212, 0, 0, 0, 0, 0, [])) rfl).mpr ?_
        refine (rn_step (e := (.irem, 213, 0, 0, 0, 0, 0, [])) rfl).mpr (And.intro ((hr6 c1 c2).2) (And.intro ((by decide)) (?_)))
        exact (rn_step (e := (.invokevirtual 51, 216, 96, 3, 598, 0, 10, [0])) rfl).mpr (And.intro ((rn_J8 J)) ((k5 c1 c2 M J)))
    | 3, c1 =>
      refine (rn_step (e := (.aload_n 0, 186, 0, 0, 0, 0, 0, [])) rfl).mpr ?_
      refine (rn_step (e := (.iload 4, 188, 4, 0, 0, 0, 0, [])) rfl).mpr ?_
      refine (rn_step (e := (.iload_n 2, 189, 2, 0, 0, 0, 0, [])) rfl).mpr ?_
      refine (rn_step (e := (.bipush 6, 191, 0, 0, 0, 0, 0, [])) rfl).mpr ?_
      refine (rn_step (e := (.idiv, 192, 0, 0, 0, 0, 0, [])) rfl).mpr (And.intro ((hr7 c1).1) (And.intro ((by decide)) (?_)))
      refine (rn_step (e := (.iconst 3, 193, 0, 0, 0, 0, 0, [])) rfl).mpr ?_
      refine (rn_step (e := (.irem, 194, 0, 0, 0, 0, 0, [])) rfl).mpr (And.intro ((hr7 c1).2) (And.intro ((by decide)) (?_)))
      refine (rn_step (e := (.ifCond .ne 13, 197, 207, 0, 0, 0, 0, [])) rfl).mpr (And.intro (fun c2 => ?_) (fun c2 => ?_))
      ·
        refine (rn_step (e := (.iload_n 2, 198, 2, 0, 0, 0, 0, [])) rfl).mpr ?_
        refine (rn_step (e := (.bipush 18, 200, 0, 0, 0, 0, 0, [])) rfl).mpr ?_
        refine (rn_step (e := (.idiv, 201, 0, 0, 0, 0, 0, [])) rfl).mpr (And.intro ((hr8 c1 c2).1) (And.intro ((by decide)) (?_)))
        refine (rn_step (e := (.bipush 8, 203, 0, 0, 0, 0, 0, [])) rfl).mpr ?_
        refine (rn_step (e := (.irem, 204, 0, 0, 0, 0, 0, [])) rfl).mpr (And.intro ((hr8 c1 c2).2) (And.intro ((by decide)) (?_)))
        refine (rn_step (e := (.goto 9, 207, 213, 0, 0, 0, 0, [])) rfl).mpr ?_
        exact (rn_step (e := (.invokevirtual 51, 216, 96, 3, 598, 0, 10, [0])) rfl).mpr (And.intro ((rn_J8 J)) ((k6 c1 c2 M J)))
      ·
        refine (rn_step (e := (.iload_n 2, 208, 2, 0, 0, 0, 0, [])) rfl).mpr ?_
        refine (rn_step (e := (.bipush 18, 210, 0, 0, 0, 0, 0, [])) rfl).mpr ?_
        refine (rn_step (e := (.idiv, 211, 0, 0, 0, 0, 0, [])) rfl).mpr (And.intro ((hr9 c1 c2).1) (And.intro ((by decide)) (?_)))
        refine (rn_step (e := (.iconst 3, 212, 0, 0, 0, 0, 0, [])) rfl).mpr ?_
        refine (rn_step (e := (.irem, 213, 0, 0, 0, 0, 0, [])) rfl).mpr (And.intro ((hr9 c1 c2).2) (And.intro ((by decide)) (?_)))
        exact (rn_step (e := (.invokevirtual 51, 216, 96, 3, 598, 0, 10, [0])) rfl).mpr (And.intro ((rn_J8 J)) ((k7 c1 c2 M J)))
    | 4, c1 =>
      refine (rn_step (e := (.aload_n 0, 186, 0, 0, 0, 0, 0, [])) rfl).mpr ?_
      refine (rn_step (e := (.iload 4, 188, 4, 0, 0, 0, 0, [])) rfl).mpr ?_
      refine (rn_step (e := (.iload_n 2, 189, 2, 0, 0, 0, 0, [])) rfl).mpr ?_
      refine (rn_step (e := (.bipush 6, 191, 0, 0, 0, 0, 0, [])) rfl).mpr ?_
      refine (rn_step (e := (.idiv, 192, 0, 0, 0, 0, 0, [])) rfl).mpr (And.intro ((hr10 c1).1) (And.intro ((by decide)) (?_)))
      refine (rn_step (e := (.iconst 3, 193, 0, 0, 0, 0, 0, [])) rfl).mpr ?_
      refine (rn_step (e := (.irem, 194, 0, 0, 0, 0, 0, [])) rfl).mpr (And.intro ((hr10 c1).2) (And.intro ((by decide)) (?_)))
      refine (rn_step (e := (.ifCond .ne 13, 197, 207, 0, 0, 0, 0, [])) rfl).mpr (And.intro (fun c2 => ?_) (fun c2 => ?_))
      ·
        refine (rn_step (e := (.iload_n 2, 198, 2, 0, 0, 0, 0, [])) rfl).mpr ?_
        refine (rn_step (e := (.bipush 18, 200, 0, 0, 0, 0, 0, [])) rfl).mpr ?_
        refine (rn_step (e := (.idiv, 201, 0, 0, 0, 0, 0, [])) rfl).mpr (And.intro ((hr11 c1 c2).1) (And.intro ((by decide)) (?_)))
        refine (rn_step (e := (.bipush 8, 203, 0, 0, 0, 0, 0, [])) rfl).mpr ?_
        refine (rn_step (e := (.irem, 204, 0, 0, 0, 0, 0, [])) rfl).mpr (And.intro ((hr11 c1 c2).2) (And.intro ((by decide)) (?_)))
        refine (rn_step (e := (.goto 9, 207, 213, 0, 0, 0, 0, [])) rfl).mpr ?_
        exact (rn_step (e := (.invokevirtual 51, 216, 96, 3, 598, 0, 10, [0])) rfl).mpr (And.intro ((rn_J8 J)) ((k8 c1 c2 M J)))
      ·
        refine (rn_step (e := (.iload_n 2, 208, 2, 0, 0, 0, 0, [])) rfl).mpr ?_
        refine (rn_step (e := (.bipush 18, 210, 0, 0, 0, 0, 0, [])) rfl).mpr ?_
        refine (rn_step (e := (.idiv, 211, 0, 0, 0, 0, 0, [])) rfl).mpr (And.intro ((hr12 c1 c2).1) (And.intro ((by decide)) (?_)))
        refine (rn_step (e := (.iconst 3, 212, 0, 0, 0, 0, 0, [])) rfl).mpr ?_
        refine (rn_step (e := (.irem, 213, 0, 0, 0, 0, 0, [])) rfl).mpr (And.intro ((hr12 c1 c2).2) (And.intro ((by decide)) (?_)))
        exact (rn_step (e := (.invokevirtual 51, 216, 96, 3, 598, 0, 10, [0])) rfl).mpr (And.intro ((rn_J8 J)) ((k9 c1 c2 M J)))
    | 5, c1 =>
      refine (rn_step (e := (.aload_n 0, 186, 0, 0, 0, 0, 0, [])) rfl).mpr ?_
      refine (rn_step (e := (.iload 4, 188, 4, 0, 0, 0, 0, [])) rfl).mpr ?_
      refine (rn_step (e := (.iload_n 2, 189, 2, 0, 0, 0, 0, [])) rfl).mpr ?_
      refine (rn_step (e := (.bipush 6, 191, 0, 0, 0, 0, 0, [])) rfl).mpr ?_
      refine (rn_step (e := (.idiv, 192, 0, 0, 0, 0, 0, [])) rfl).mpr (And.intro ((hr13 c1).1) (And.intro ((by decide)) (?_)))
      refine (rn_step (e := (.iconst 3, 193, 0, 0, 0, 0, 0, [])) rfl).mpr ?_
      refine (rn_step (e := (.irem, 194, 0, 0, 0, 0, 0, [])) rfl).mpr (And.intro ((hr13 c1).2) (And.intro ((by decide)) (?_)))
      refine (rn_step (e := (.ifCond .ne 13, 197, 207, 0, 0, 0, 0, [])) rfl).mpr (And.intro (fun c2 => ?_) (fun c2 => ?_))
      ·
        refine (rn_step (e := (.iload_n 2, 198, 2, 0, 0, 0, 0, [])) rfl).mpr ?_
        refine (rn_step (e := (.bipush 18, 200, 0, 0, 0, 0, 0, [])) rfl).mpr ?_
        refine (rn_step (e := (.idiv, 201, 0, 0, 0, 0, 0, [])) rfl).mpr (And.intro ((hr14 c1 c2).1) (And.intro ((by decide)) (?_)))
        refine (rn_step (e := (.bipush 8, 203, 0, 0, 0, 0, 0, [])) rfl).mpr ?_
        refine (rn_step (e := (.irem, 204, 0, 0, 0, 0, 0, [])) rfl).mpr (And.intro ((hr14 c1 c2).2) (And.intro ((by decide)) (?_)))
        refine (rn_step (e := (.goto 9, 207, 213, 0, 0, 0, 0, [])) rfl).mpr ?_
        exact (rn_step (e := (.invokevirtual 51, 216, 96, 3, 598, 0, 10, [0])) rfl).mpr (And.intro ((rn_J8 J)) ((k10 c1 c2 M J)))
      ·
        refine (rn_step (e := (.iload_n 2, 208, 2, 0, 0, 0, 0, [])) rfl).mpr ?_
        refine (rn_step (e := (.bipush 18, 210, 0, 0, 0, 0, 0, [])) rfl).mpr ?_
        refine (rn_step (e := (.idiv, 211, 0, 0, 0, 0, 0, [])) rfl).mpr (And.intro ((hr15 c1 c2).1) (And.intro ((by decide)) (?_)))
        refine (rn_step (e := (.iconst 3, 212, 0, 0, 0, 0, 0, [])) rfl).mpr ?_
        refine (rn_step (e := (.irem, 213, 0, 0, 0, 0, 0, [])) rfl).mpr (And.intro ((hr15 c1 c2).2) (And.intro ((by decide)) (?_)))
        exact (rn_step (e := (.invokevirtual 51, 216, 96, 3, 598, 0, 10, [0])) rfl).mpr (And.intro ((rn_J8 J)) ((k11 c1 c2 M J)))
    | 6, c1 =>
      refine (rn_step (e := (.aload_n 0, 186, 0, 0, 0, 0, 0, [])) rfl).mpr ?_
      refine (rn_step (e := (.iload 4, 188, 4, 0, 0, 0, 0, [])) rfl).mpr ?_
      refine (rn_step (e := (.iload_n 2, 189, 2, 0, 0, 0, 0, [])) rfl).mpr ?_
      refine (rn_step (e := (.bipush 6, 191, 0, 0, 0, 0, 0, [])) rfl).mpr ?_
      refine (rn_step (e := (.idiv, 192, 0, 0, 0, 0, 0, [])) rfl).mpr (And.intro ((hr16 c1).1) (And.intro ((by decide)) (?_)))
      refine (rn_step (e := (.iconst 3, 193, 0, 0, 0, 0, 0, [])) rfl).mpr ?_
      refine (rn_step (e := (.irem, 194, 0, 0, 0, 0, 0, [])) rfl).mpr (And.intro ((hr16 c1).2) (And.intro ((by decide)) (?_)))
      refine (rn_step (e := (.ifCond .ne 13, 197, 207, 0, 0, 0, 0, [])) rfl).mpr (And.intro (fun c2 => ?_) (fun c2 => ?_))
      ·
        refine (rn_step (e := (.iload_n 2, 198, 2, 0, 0, 0, 0, [])) rfl).mpr ?_
        refine (rn_step (e := (.bipush 18, 200, 0, 0, 0, 0, 0, [])) rfl).mpr ?_
        refine (rn_step (e := (.idiv, 201, 0, 0, 0, 0, 0, [])) rfl).mpr (And.intro ((hr17 c1 c2).1) (And.intro ((by decide)) (?_)))
        refine (rn_step (e := (.bipush 8, 203, 0, 0, 0, 0, 0, [])) rfl).mpr ?_
        refine (rn_step (e := (.irem, 204, 0, 0, 0, 0, 0, [])) rfl).mpr (And.intro ((hr17 c1 c2).2) (And.intro ((by decide)) (?_)))
        refine (rn_step (e := (.goto 9, 207, 213, 0, 0, 0, 0, [])) rfl).mpr ?_
        exact (rn_step (e := (.invokevirtual 51, 216, 96, 3, 598, 0, 10, [0])) rfl).mpr (And.intro ((rn_J8 J)) ((k12 c1 c2 M J)))
      ·
        refine (rn_step (e := (.iload_n 2, 208, 2, 0, 0, 0, 0, [])) rfl).mpr ?_
        refine (rn_step (e := (.bipush 18, 210, 0, 0, 0, 0, 0, [])) rfl).mpr ?_
        refine (rn_step (e := (.idiv, 211, 0, 0, 0, 0, 0, [])) rfl).mpr (And.intro ((hr18 c1 c2).1) (And.intro ((by decide)) (?_)))
        refine (rn_step (e := (.iconst 3, 212, 0, 0, 0, 0, 0, [])) rfl).mpr ?_
        refine (rn_step (e := (.irem, 213, 0, 0, 0, 0, 0, [])) rfl).mpr (And.intro ((hr18 c1 c2).2) (And.intro ((by decide)) (?_)))
        exact (rn_step (e := (.invokevirtual 51, 216, 96, 3, 598, 0, 10, [0])) rfl).mpr (And.intro ((rn_J8 J)) ((k13 c1 c2 M J)))
    | 7, c1 =>
      refine (rn_step (e := (.aload_n 0, 186, 0, 0, 0, 0, 0, [])) rfl).mpr ?_
      refine (rn_step (e := (.iload 4, 188, 4, 0, 0, 0, 0, [])) rfl).mpr ?_
      refine (rn_step (e := (.iload_n 2, 189, 2, 0, 0, 0, 0, [])) rfl).mpr ?_
      refine (rn_step (e := (.bipush 6, 191, 0, 0, 0, 0, 0, [])) rfl).mpr ?_
      refine (rn_step (e := (.idiv, 192, 0, 0, 0, 0, 0, [])) rfl).mpr (And.intro ((hr19 c1).1) (And.intro ((by decide)) (?_)))
      refine (rn_step (e := (.iconst 3, 193, 0, 0, 0, 0, 0, [])) rfl).mpr ?_
      refine (rn_step (e := (.irem, 194, 0, 0, 0, 0, 0, [])) rfl).mpr (And.intro ((hr19 c1).2) (And.intro ((by decide)) (?_)))
      refine (rn_step (e := (.ifCond .ne 13, 197, 207, 0, 0, 0, 0, [])) rfl).mpr (And.intro (fun c2 => ?_) (fun c2 => ?_))
      ·
        refine (rn_step (e := (.iload_n 2, 198, 2, 0, 0, 0, 0, [])) rfl).mpr ?_
        refine (rn_step (e := (.bipush 18, 200, 0, 0, 0, 0, 0, [])) rfl).mpr ?_
        refine (rn_step (e := (.idiv, 201, 0, 0, 0, 0, 0, [])) rfl).mpr (And.intro ((hr20 c1 c2).1) (And.intro ((by decide)) (?_)))
        refine (rn_step (e := (.bipush 8, 203, 0, 0, 0, 0, 0, [])) rfl).mpr ?_
        refine (rn_step (e := (.irem, 204, 0, 0, 0, 0, 0, [])) rfl).mpr (And.intro ((hr20 c1 c2).2) (And.intro ((by decide)) (?_)))
        refine (rn_step (e := (.goto 9, 207, 213, 0, 0, 0, 0, [])) rfl).mpr ?_
        exact (rn_step (e := (.invokevirtual 51, 216, 96, 3, 598, 0, 10, [0])) rfl).mpr (And.intro ((rn_J8 J)) ((k14 c1 c2 M J)))
      ·
        refine (rn_step (e := (.iload_n 2, 208, 2, 0, 0, 0, 0, [])) rfl).mpr ?_
        refine (rn_step (e := (.bipush 18, 210, 0, 0, 0, 0, 0, [])) rfl).mpr ?_
        refine (rn_step (e := (.idiv, 211, 0, 0, 0, 0, 0, [])) rfl).mpr (And.intro ((hr21 c1 c2).1) (And.intro ((by decide)) (?_)))
        refine (rn_step (e := (.iconst 3, 212, 0, 0, 0, 0, 0, [])) rfl).mpr ?_
        refine (rn_step (e := (.irem, 213, 0, 0, 0, 0, 0, [])) rfl).mpr (And.intro ((hr21 c1 c2).2) (And.intro ((by decide)) (?_)))
        exact (rn_step (e := (.invokevirtual 51, 216, 96, 3, 598, 0, 10, [0])) rfl).mpr (And.intro ((rn_J8 J)) ((k15 c1 c2 M J)))
    | 8, c1 =>
      refine (rn_step (e := (.aload_n 0, 218, 0, 0, 0, 0, 0, [])) rfl).mpr ?_
      refine (rn_step (e := (.iload 4, 220, 4, 0, 0, 0, 0, [])) rfl).mpr ?_
      refine (rn_step (e := (.iconst 1, 221, 0, 0, 0, 0, 0, [])) rfl).mpr ?_
      refine (rn_step (e := (.iload_n 2, 222, 2, 0, 0, 0, 0, [])) rfl).mpr ?_
      refine (rn_step (e := (.bipush 6, 224, 0, 0, 0, 0, 0, [])) rfl).mpr ?_
      refine (rn_step (e := (.idiv, 225, 0, 0, 0, 0, 0, [])) rfl).mpr (And.intro ((hr22 c1).1) (And.intro ((by decide)) (?_)))
      refine (rn_step (e := (.bipush 9, 227, 0, 0, 0, 0, 0, [])) rfl).mpr ?_
      refine (rn_step (e := (.irem, 228, 0, 0, 0, 0, 0, [])) rfl).mpr (And.intro ((hr22 c1).2.1) (And.intro ((by decide)) (?_)))
      refine (rn_step (e := (.iadd, 229, 0, 0, 0, 0, 0, [])) rfl).mpr (rn_cw (hr22 c1).2.2.1 (hr22 c1).2.2.2 ?_)
      exact (rn_step (e := (.invokevirtual 54, 232, 97, 3, 616, 0, 10, [0])) rfl).mpr (And.intro ((rn_J8 J)) ((k16 c1 M J)))
    | 9, c1 =>
      refine (rn_step (e := (.iload_n 2, 234, 2, 0, 0, 0, 0, [])) rfl).mpr ?_
      refine (rn_step (e := (.iconst 2, 235, 0, 0, 0, 0, 0, [])) rfl).mpr ?_
      refine (rn_step (e := (.irem, 236, 0, 0, 0, 0, 0, [])) rfl).mpr (And.intro ((hr23 c1)) (And.intro ((by decide)) (?_)))
      refine (rn_step (e := (.ifCond .ne 18, 239, 254, 0, 0, 0, 0, [])) rfl).mpr (And.intro (fun c2 => ?_) (fun c2 => ?_))
      ·
        refine (rn_step (e := (.aload_n 0, 240, 0, 0, 0, 0, 0, [])) rfl).mpr ?_
        refine (rn_step (e := (.iload 4, 242, 4, 0, 0, 0, 0, [])) rfl).mpr ?_
        refine (rn_step (e := (.iload_n 2, 243, 2, 0, 0, 0, 0, [])) rfl).mpr ?_
        refine (rn_step (e := (.bipush 6, 245, 0, 0, 0, 0, 0, [])) rfl).mpr ?_
        refine (rn_step (e := (.idiv, 246, 0, 0, 0, 0, 0, [])) rfl).mpr (And.intro ((hr24 c1 c2).1) (And.intro ((by decide)) (?_)))
        refine (rn_step (e := (.iconst 3, 247, 0, 0, 0, 0, 0, [])) rfl).mpr ?_
        refine (rn_step (e := (.irem, 248, 0, 0, 0, 0, 0, [])) rfl).mpr (And.intro ((hr24 c1 c2).2) (And.intro ((by decide)) (?_)))
        exact (rn_step (e := (.invokevirtual 57, 251, 98, 3, 620, 0, 10, [0])) rfl).mpr (And.intro ((rn_J8 J)) ((k17 c1 c2 M J)))
      ·
        refine (rn_step (e := (.aload_n 0, 255, 0, 0, 0, 0, 0, [])) rfl).mpr ?_
        refine (rn_step (e := (.iload_n 2, 256, 2, 0, 0, 0, 0, [])) rfl).mpr ?_
        refine (rn_step (e := (.bipush 6, 258, 0, 0, 0, 0, 0, [])) rfl).mpr ?_
        refine (rn_step (e := (.idiv, 259, 0, 0, 0, 0, 0, [])) rfl).mpr (And.intro ((hr25 c1 c2).1) (And.intro ((by decide)) (?_)))
        refine (rn_step (e := (.bipush 14, 261, 0, 0, 0, 0, 0, [])) rfl).mpr ?_
        refine (rn_step (e := (.irem, 262, 0, 0, 0, 0, 0, [])) rfl).mpr (And.intro ((hr25 c1 c2).2) (And.intro ((by decide)) (?_)))
        exact (rn_step (e := (.invokevirtual 63, 265, 100, 2, 628, 0, 10, [0])) rfl).mpr (And.intro ((rn_J8 J)) ((k18 c1 c2 M J)))
    | 10, c1 =>
      refine (rn_step (e := (.aload_n 0, 267, 0, 0, 0, 0, 0, [])) rfl).mpr ?_
      refine (rn_step (e := (.aload_n 0, 268, 0, 0, 0, 0, 0, [])) rfl).mpr ?_
      refine (rn_step (e := (.iconst 1, 269, 0, 0, 0, 0, 0, [])) rfl).mpr ?_
      refine (rn_step (e := (.invokevirtual 13, 272, 106, 2, 276, 0, 10, [0])) rfl).mpr (And.intro ((rn_J8 J)) ((iq_count1 J  (fun M1 J1 => ?_))))
      refine (rn_step (e := (.ifCond .ne 7, 275, 279, 0, 0, 0, 0, [])) rfl).mpr (And.intro (fun c2 => ?_) (fun c2 => ?_))
      ·
        refine (rn_step (e := (.iconst 0, 276, 0, 0, 0, 0, 0, [])) rfl).mpr ?_
        refine (rn_step (e := (.goto 10, 279, 286, 0, 0, 0, 0, [])) rfl).mpr ?_
        refine (rn_step (e := (.iconst 1, 287, 0, 0, 0, 0, 0, [])) rfl).mpr ?_
        refine (rn_step (e := (.iload_n 2, 288, 2, 0, 0, 0, 0, [])) rfl).mpr ?_
        refine (rn_step (e := (.bipush 10, 290, 0, 0, 0, 0, 0, [])) rfl).mpr ?_
        refine (rn_step (e := (.idiv, 291, 0, 0, 0, 0, 0, [])) rfl).mpr (And.intro ((hr26 c1 c2).1) (And.intro ((by decide)) (?_)))
        refine (rn_step (e := (.bipush 9, 293, 0, 0, 0, 0, 0, [])) rfl).mpr ?_
        refine (rn_step (e := (.irem, 294, 0, 0, 0, 0, 0, [])) rfl).mpr (And.intro ((hr26 c1 c2).2.1) (And.intro ((by decide)) (?_)))
        refine (rn_step (e := (.iadd, 295, 0, 0, 0, 0, 0, [])) rfl).mpr (rn_cw (hr26 c1 c2).2.2.1 (hr26 c1 c2).2.2.2 ?_)
        exact (rn_step (e := (.invokevirtual 60, 298, 99, 3, 624, 0, 10, [0])) rfl).mpr (And.intro ((rn_J8 J1)) ((k19 c1 c2 M1 J1)))
      ·
        refine (rn_step (e := (.iload_n 2, 280, 2, 0, 0, 0, 0, [])) rfl).mpr ?_
        refine (rn_step (e := (.aload_n 0, 281, 0, 0, 0, 0, 0, [])) rfl).mpr ?_
        refine (rn_step (e := (.iconst 1, 282, 0, 0, 0, 0, 0, [])) rfl).mpr ?_
        refine (rn_step (e := (.invokevirtual 13, 285, 106, 2, 276, 0, 10, [0])) rfl).mpr (And.intro ((rn_J8 J1)) ((iq_count1 J1  (fun M2 J2 => ?_))))
        refine (rn_step (e := (.irem, 286, 0, 0, 0, 0, 0, [])) rfl).mpr (And.intro ((hr27 c1 c2).1) (And.intro ((hr27 c1 c2).2.1) (?_)))
        refine (rn_step (e := (.iconst 1, 287, 0, 0, 0, 0, 0, [])) rfl).mpr ?_
        refine (rn_step (e := (.iload_n 2, 288, 2, 0, 0, 0, 0, [])) rfl).mpr ?_
        refine (rn_step (e := (.bipush 10, 290, 0, 0, 0, 0, 0, [])) rfl).mpr ?_
        refine (rn_step (e := (.idiv, 291, 0, 0, 0, 0, 0, [])) rfl).mpr (And.intro ((hr27 c1 c2).1) (And.intro ((by decide)) (?_)))
        refine (rn_step (e := (.bipush 9, 293, 0, 0, 0, 0, 0, [])) rfl).mpr ?_
        refine (rn_step (e := (.irem, 294, 0, 0, 0, 0, 0, [])) rfl).mpr (And.intro ((hr27 c1 c2).2.2.1) (And.intro ((by decide)) (?_)))
        refine (rn_step (e := (.iadd, 295, 0, 0, 0, 0, 0, [])) rfl).mpr (rn_cw (hr27 c1 c2).2.2.2.1 (hr27 c1 c2).2.2.2.2 ?_)
        exact (rn_step (e := (.invokevirtual 60, 298, 99, 3, 624, 0, 10, [0])) rfl).mpr (And.intro ((rn_J8 J2)) ((k20 c1 c2 M2 J2)))
    | 11, c1 =>
      refine (rn_step (e := (.aload_n 0, 300, 0, 0, 0, 0, 0, [])) rfl).mpr ?_
      refine (rn_step (e := (.iload 4, 302, 4, 0, 0, 0, 0, [])) rfl).mpr ?_
      refine (rn_step (e := (.iload_n 2, 303, 2, 0, 0, 0, 0, [])) rfl).mpr ?_
      refine (rn_step (e := (.bipush 6, 305, 0, 0, 0, 0, 0, [])) rfl).mpr ?_
      refine (rn_step (e := (.idiv, 306, 0, 0, 0, 0, 0, [])) rfl).mpr (And.intro ((hr28 c1).1) (And.intro ((by decide)) (?_)))
      refine (rn_step (e := (.bipush 14, 308, 0, 0, 0, 0, 0, [])) rfl).mpr ?_
      refine (rn_step (e := (.irem, 309, 0, 0, 0, 0, 0, [])) rfl).mpr (And.intro ((hr28 c1).2) (And.intro ((by decide)) (?_)))
      exact (rn_step (e := (.invokevirtual 66, 312, 101, 3, 632, 0, 10, [0])) rfl).mpr (And.intro ((rn_J8 J)) ((k21 c1 M J)))
    | 12, c1 =>
      refine (rn_step (e := (.aload_n 0, 300, 0, 0, 0, 0, 0, [])) rfl).mpr ?_
      refine (rn_step (e := (.iload 4, 302, 4, 0, 0, 0, 0, [])) rfl).mpr ?_
      refine (rn_step (e := (.iload_n 2, 303, 2, 0, 0, 0, 0, [])) rfl).mpr ?_
      refine (rn_step (e := (.bipush 6, 305, 0, 0, 0, 0, 0, [])) rfl).mpr ?_
      refine (rn_step (e := (.idiv, 306, 0, 0, 0, 0, 0, [])) rfl).mpr (And.intro ((hr29 c1).1) (And.intro ((by decide)) (?_)))
      refine (rn_step (e := (.bipush 14, 308, 0, 0, 0, 0, 0, [])) rfl).mpr ?_
      refine (rn_step (e := (.irem, 309, 0, 0, 0, 0, 0, [])) rfl).mpr (And.intro ((hr29 c1).2) (And.intro ((by decide)) (?_)))
      exact (rn_step (e := (.invokevirtual 66, 312, 101, 3, 632, 0, 10, [0])) rfl).mpr (And.intro ((rn_J8 J)) ((k22 c1 M J)))
    | 13, c1 =>
      refine (rn_step (e := (.aload_n 0, 300, 0, 0, 0, 0, 0, [])) rfl).mpr ?_
      refine (rn_step (e := (.iload 4, 302, 4, 0, 0, 0, 0, [])) rfl).mpr ?_
      refine (rn_step (e := (.iload_n 2, 303, 2, 0, 0, 0, 0, [])) rfl).mpr ?_
      refine (rn_step (e := (.bipush 6, 305, 0, 0, 0, 0, 0, [])) rfl).mpr ?_
      refine (rn_step (e := (.idiv, 306, 0, 0, 0, 0, 0, [])) rfl).mpr (And.intro ((hr30 c1).1) (And.intro ((by decide)) (?_)))
      refine (rn_step (e := (.bipush 14, 308, 0, 0, 0, 0, 0, [])) rfl).mpr ?_
      refine (rn_step (e := (.irem, 309, 0, 0, 0, 0, 0, [])) rfl).mpr (And.intro ((hr30 c1).2) (And.intro ((by decide)) (?_)))
      exact (rn_step (e := (.invokevirtual 66, 312, 101, 3, 632, 0, 10, [0])) rfl).mpr (And.intro ((rn_J8 J)) ((k23 c1 M J)))
    | 14, c1 =>
      refine (rn_step (e := (.aload_n 0, 300, 0, 0, 0, 0, 0, [])) rfl).mpr ?_
      refine (rn_step (e := (.iload 4, 302, 4, 0, 0, 0, 0, [])) rfl).mpr ?_
      refine (rn_step (e := (.iload_n 2, 303, 2, 0, 0, 0, 0, [])) rfl).mpr ?_
      refine (rn_step (e := (.bipush 6, 305, 0, 0, 0, 0, 0, [])) rfl).mpr ?_
      refine (rn_step (e := (.idiv, 306, 0, 0, 0, 0, 0, [])) rfl).mpr (And.intro ((hr31 c1).1) (And.intro ((by decide)) (?_)))
      refine (rn_step (e := (.bipush 14, 308, 0, 0, 0, 0, 0, [])) rfl).mpr ?_
      refine (rn_step (e := (.irem, 309, 0, 0, 0, 0, 0, [])) rfl).mpr (And.intro ((hr31 c1).2) (And.intro ((by decide)) (?_)))
      exact (rn_step (e := (.invokevirtual 66, 312, 101, 3, 632, 0, 10, [0])) rfl).mpr (And.intro ((rn_J8 J)) ((k24 c1 M J)))
    | 15, c1 =>
      refine (rn_step (e := (.aload_n 0, 314, 0, 0, 0, 0, 0, [])) rfl).mpr ?_
      refine (rn_step (e := (.aload_n 0, 315, 0, 0, 0, 0, 0, [])) rfl).mpr ?_
      refine (rn_step (e := (.iconst 2, 316, 0, 0, 0, 0, 0, [])) rfl).mpr ?_
      refine (rn_step (e := (.invokevirtual 13, 319, 106, 2, 276, 0, 10, [0])) rfl).mpr (And.intro ((rn_J8 J)) ((iq_count2 J  (fun M3 J3 => ?_))))
      refine (rn_step (e := (.ifCond .ne 7, 322, 326, 0, 0, 0, 0, [])) rfl).mpr (And.intro (fun c2 => ?_) (fun c2 => ?_))
      ·
        refine (rn_step (e := (.iconst 0, 323, 0, 0, 0, 0, 0, [])) rfl).mpr ?_
        refine (rn_step (e := (.goto 10, 326, 333, 0, 0, 0, 0, [])) rfl).mpr ?_
        exact (rn_step (e := (.invokevirtual 69, 336, 102, 2, 637, 0, 10, [0])) rfl).mpr (And.intro ((rn_J8 J3)) ((k25 c1 c2 M3 J3)))
      ·
        refine (rn_step (e := (.iload_n 2, 327, 2, 0, 0, 0, 0, [])) rfl).mpr ?_
        refine (rn_step (e := (.aload_n 0, 328, 0, 0, 0, 0, 0, [])) rfl).mpr ?_
        refine (rn_step (e := (.iconst 2, 329, 0, 0, 0, 0, 0, [])) rfl).mpr ?_
        refine (rn_step (e := (.invokevirtual 13, 332, 106, 2, 276, 0, 10, [0])) rfl).mpr (And.intro ((rn_J8 J3)) ((iq_count2 J3  (fun M4 J4 => ?_))))
        refine (rn_step (e := (.irem, 333, 0, 0, 0, 0, 0, [])) rfl).mpr (And.intro ((hr32 c1 c2).1) (And.intro ((hr32 c1 c2).2) (?_)))
        exact (rn_step (e := (.invokevirtual 69, 336, 102, 2, 637, 0, 10, [0])) rfl).mpr (And.intro ((rn_J8 J4)) ((k26 c1 c2 M4 J4)))
    | 16, c1 =>
      refine (rn_step (e := (.aload_n 0, 338, 0, 0, 0, 0, 0, [])) rfl).mpr ?_
      exact (rn_step (e := (.invokevirtual 101, 341, 104, 1, 738, 0, 10, [0])) rfl).mpr (And.intro ((rn_J8 J)) ((k27 c1 M J)))
    | n + 17, hn => exact absurd (Or.inr (by omega)) q
set_option maxRecDepth 4000 in
theorem rb_Lw_acts_147 {M : rn_M} {Q : rn_Q} {G : Nat × (Nat → Int)} {N : Nat → Int} {n : Int} {K : Nat → Nat → Int} {vl1 : rn_V} {vl2 : rn_V} {vl3 : rn_V} {vl4 : rn_V} {xs0 : Int} (J : rn_Jq G M N n K)   (k1 : ∀ M', rn_Jq G M' N n K → Q (some (rn_I xs0)) M') : rn_WP 132 147 [rn_R 8, vl1, vl2, vl3, vl4] [rn_I xs0] M Q := by
  exact (rn_step (e := (.ireturn, 148, 0, 0, 0, 0, 0, [])) rfl).mpr (And.intro (trivial) ((k1 M J)))
set_option maxRecDepth 4000 in
theorem rb_Lw_acts_184 {M : rn_M} {Q : rn_Q} {G : Nat × (Nat → Int)} {N : Nat → Int} {n : Int} {K : Nat → Nat → Int} {vl1 : rn_V} {vl2 : rn_V} {vl3 : rn_V} {vl4 : rn_V} {xs0 : Int} (J : rn_Jq G M N n K)   (k1 : ∀ M', rn_Jq G M' N n K → Q (some (rn_I xs0)) M') : rn_WP 132 184 [rn_R 8, vl1, vl2, vl3, vl4] [rn_I xs0] M Q := by
  exact (rn_step (e := (.ireturn, 185, 0, 0, 0, 0, 0, [])) rfl).mpr (And.intro (trivial) ((k1 M J)))
set_option maxRecDepth 4000 in
theorem rb_Lw_acts_216 {M : rn_M} {Q : rn_Q} {G : Nat × (Nat → Int)} {N : Nat → Int} {n : Int} {K : Nat → Nat → Int} {vl1 : rn_V} {vl2 : rn_V} {vl3 : rn_V} {vl4 : rn_V} {xs0 : Int} (J : rn_Jq G M N n K)   (k1 : ∀ M', rn_Jq G M' N n K → Q (some (rn_I xs0)) M') : rn_WP 132 216 [rn_R 8, vl1, vl2, vl3, vl4] [rn_I xs0] M Q := by
  exact (rn_step (e := (.ireturn, 217, 0, 0, 0, 0, 0, [])) rfl).mpr (And.intro (trivial) ((k1 M J)))
set_option maxRecDepth 4000 in
theorem rb_Lw_acts_232 {M : rn_M} {Q : rn_Q} {G : Nat × (Nat → Int)} {N : Nat → Int} {n : Int} {K : Nat → Nat → Int} {vl1 : rn_V} {vl2 : rn_V} {vl3 : rn_V} {vl4 : rn_V} {xs0 : Int} (J : rn_Jq G M N n K)   (k1 : ∀ M', rn_Jq G M' N n K → Q (some (rn_I xs0)) M') : rn_WP 132 232 [rn_R 8, vl1, vl2, vl3, vl4] [rn_I xs0] M Q := by
  exact (rn_step (e := (.ireturn, 233, 0, 0, 0, 0, 0, [])) rfl).mpr (And.intro (trivial) ((k1 M J)))
set_option maxRecDepth 4000 in
theorem rb_Lw_acts_251 {M : rn_M} {Q : rn_Q} {G : Nat × (Nat → Int)} {N : Nat → Int} {n : Int} {K : Nat → Nat → Int} {vl1 : rn_V} {vl2 : rn_V} {vl3 : rn_V} {vl4 : rn_V} {xs0 : Int} (J : rn_Jq G M N n K)   (k1 : ∀ M', rn_Jq G M' N n K → Q (some (rn_I xs0)) M') : rn_WP 132 251 [rn_R 8, vl1, vl2, vl3, vl4] [rn_I xs0] M Q := by
  refine (rn_step (e := (.goto 14, 254, 265, 0, 0, 0, 0, [])) rfl).mpr ?_
  exact (rn_step (e := (.ireturn, 266, 0, 0, 0, 0, 0, [])) rfl).mpr (And.intro (trivial) ((k1 M J)))
set_option maxRecDepth 4000 in
theorem rb_Lw_acts_265 {M : rn_M} {Q : rn_Q} {G : Nat × (Nat → Int)} {N : Nat → Int} {n : Int} {K : Nat → Nat → Int} {vl1 : rn_V} {vl2 : rn_V} {vl3 : rn_V} {vl4 : rn_V} {xs0 : Int} (J : rn_Jq G M N n K)   (k1 : ∀ M', rn_Jq G M' N n K → Q (some (rn_I xs0)) M') : rn_WP 132 265 [rn_R 8, vl1, vl2, vl3, vl4] [rn_I xs0] M Q := by
  exact (rn_step (e := (.ireturn, 266, 0, 0, 0, 0, 0, [])) rfl).mpr (And.intro (trivial) ((k1 M J)))
set_option maxRecDepth 4000 in
theorem rb_Lw_acts_298 {M : rn_M} {Q : rn_Q} {G : Nat × (Nat → Int)} {N : Nat → Int} {n : Int} {K : Nat → Nat → Int} {vl1 : rn_V} {vl2 : rn_V} {vl3 : rn_V} {vl4 : rn_V} {xs0 : Int} (J : rn_Jq G M N n K)   (k1 : ∀ M', rn_Jq G M' N n K → Q (some (rn_I xs0)) M') : rn_WP 132 298 [rn_R 8, vl1, vl2, vl3, vl4] [rn_I xs0] M Q := by
  exact (rn_step (e := (.ireturn, 299, 0, 0, 0, 0, 0, [])) rfl).mpr (And.intro (trivial) ((k1 M J)))
set_option maxRecDepth 4000 in
theorem rb_Lw_acts_312 {M : rn_M} {Q : rn_Q} {G : Nat × (Nat → Int)} {N : Nat → Int} {n : Int} {K : Nat → Nat → Int} {vl1 : rn_V} {vl2 : rn_V} {vl3 : rn_V} {vl4 : rn_V} {xs0 : Int} (J : rn_Jq G M N n K)   (k1 : ∀ M', rn_Jq G M' N n K → Q (some (rn_I xs0)) M') : rn_WP 132 312 [rn_R 8, vl1, vl2, vl3, vl4] [rn_I xs0] M Q := by
  exact (rn_step (e := (.ireturn, 313, 0, 0, 0, 0, 0, [])) rfl).mpr (And.intro (trivial) ((k1 M J)))
set_option maxRecDepth 4000 in
theorem rb_Lw_acts_336 {M : rn_M} {Q : rn_Q} {G : Nat × (Nat → Int)} {N : Nat → Int} {n : Int} {K : Nat → Nat → Int} {vl1 : rn_V} {vl2 : rn_V} {vl3 : rn_V} {vl4 : rn_V} {xs0 : Int} (J : rn_Jq G M N n K)   (k1 : ∀ M', rn_Jq G M' N n K → Q (some (rn_I xs0)) M') : rn_WP 132 336 [rn_R 8, vl1, vl2, vl3, vl4] [rn_I xs0] M Q := by
  exact (rn_step (e := (.ireturn, 337, 0, 0, 0, 0, 0, [])) rfl).mpr (And.intro (trivial) ((k1 M J)))
set_option maxRecDepth 4000 in
theorem rb_Lw_acts_341 {M : rn_M} {Q : rn_Q} {G : Nat × (Nat → Int)} {N : Nat → Int} {n : Int} {K : Nat → Nat → Int} {vl1 : rn_V} {vl2 : rn_V} {vl3 : rn_V} {vl4 : rn_V} {xs0 : Int} (J : rn_Jq G M N n K)   (k1 : ∀ M', rn_Jq G M' N n K → Q (some (rn_I xs0)) M') : rn_WP 132 341 [rn_R 8, vl1, vl2, vl3, vl4] [rn_I xs0] M Q := by
  exact (rn_step (e := (.ireturn, 342, 0, 0, 0, 0, 0, [])) rfl).mpr (And.intro (trivial) ((k1 M J)))
set_option maxRecDepth 4000 in
theorem rb_Lw_acts_351 {M : rn_M} {Q : rn_Q} {G : Nat × (Nat → Int)} {N : Nat → Int} {n : Int} {K : Nat → Nat → Int} {vl1 : rn_V} {vl2 : rn_V} {vl3 : rn_V} {vl4 : rn_V} {xs0 : Int} (J : rn_Jq G M N n K)   (k1 : ∀ M', rn_Jq G M' N n K → Q (some (rn_I xs0)) M') : rn_WP 132 351 [rn_R 8, vl1, vl2, vl3, vl4] [rn_I xs0] M Q := by
  exact (rn_step (e := (.ireturn, 352, 0, 0, 0, 0, 0, [])) rfl).mpr (And.intro (trivial) ((k1 M J)))
