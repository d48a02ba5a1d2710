/-! sums over the labels of a board -/
section SUM
variable {M : rn_M} {Q : rn_Q} {b : Nat} {N : Nat → Int}
theorem rs_markArea (hM : rn_sh M) (p : rn_isB b) (h : rn_Rp M b N) (v : rn_vd N) {q : Nat} {l : Int} (l0 : 0 ≤ l) (l1 : l < N 2) (hq : rn_Lb M b q N l) {S : Nat → Prop} (hS : rn_Sh M S) (k : ∀ M', rn_ch rn_P2 M M' → rn_Sh M' (fun c => S c ∨ rn_ar N (rn_lb N l 0) (rn_lb N l 1) c) → Q none M') : rn_ME 43 [rn_R q, rn_R 464] M Q := by
  have vl := v.2.2.2.2.2.2 l l0 l1
  have go := rn_Lb_go hq
  have pr := rn_isR_i p v vl.1.1 vl.1.2
  have vr := v.2.2.2.2.1 _ vl.1.1 vl.1.2
  have v5 := vr.2.2.2.1
  have v0 := vr.1
  have v2 := vr.2.2.1
  have vl1 := vl.2.1
  have vl2 := vl.2.2
  have pl := rn_bdL hq.1
  refine re_La_markArea (rb_La_markArea_0 hM hq.1 ?_)
  rw [hq.2.2]
  have loop : ∀ (m : Nat) (i : Int) (M1 : rn_M), i + m = rn_lb N l 1 + rn_o N (rn_lb N l 0) 0 → rn_lb N l 1 ≤ i → rn_ch rn_P2 M M1 → rn_Sh M1 (fun c => S c ∨ ∃ k : Int, rn_lb N l 1 ≤ k ∧ k < i ∧ rn_sq (rn_px N (rn_lb N l 0) k.toNat - rn_o N (rn_lb N l 0) 2) (rn_px N (rn_lb N l 0) k.toNat + rn_o N (rn_lb N l 0) 2) (rn_py N (rn_lb N l 0) k.toNat - rn_o N (rn_lb N l 0) 2) (rn_py N (rn_lb N l 0) k.toNat + rn_o N (rn_lb N l 0) 2) c) → rn_WP 43 5 [rn_R q, rn_R 464, rn_I i] [] M1 Q := by
    intro m
    induction m with
    | zero =>
      intro i M1 hi i0 c1 s1
      have hr := (rn_Rp_ch rn_P2_b c1 p v h).2.2.1 _ vl.1.1 vl.1.2
      have g1 : rn_gr M1 q 0 = some (b + 4 + 5 * (rn_lb N l 0).toNat) := (c1.2.1 q 0).trans hq.2.1
      have go : rn_go M1 q 0 = b + 4 + 5 * (rn_lb N l 0).toNat := by unfold rn_go; rw [g1]; rfl
      have g2 : rn_gi M1 q 1 = rn_lb N l 1 := by rw [c1.2.2 q (rn_P2_b q (by omega) (by omega))]; exact hq.2.2
      refine rb_La_markArea_5 (rn_sh_ch c1 hM) hq.1 ?_ ?_ ?_ ?_ <;> (try rw [go, g2, hr.2.2.1])
      · exact ⟨g1, pr, by omega⟩
      · intro c; omega
      · intro c; omega
      · intro _
        rw [show i = rn_lb N l 1 + rn_o N (rn_lb N l 0) 0 by omega] at s1
        exact k M1 c1 s1
    | succ m ih =>
      intro i M1 hi i0 c1 s1
      have hr := (rn_Rp_ch rn_P2_b c1 p v h).2.2.1 _ vl.1.1 vl.1.2
      have g1 : rn_gr M1 q 0 = some (b + 4 + 5 * (rn_lb N l 0).toNat) := (c1.2.1 q 0).trans hq.2.1
      have go : rn_go M1 q 0 = b + 4 + 5 * (rn_lb N l 0).toNat := by unfold rn_go; rw [g1]; rfl
      have g2 : rn_gi M1 q 1 = rn_lb N l 1 := by rw [c1.2.2 q (rn_P2_b q (by omega) (by omega))]; exact hq.2.2
      have exy := hr.2.2.2.2.2.2 i (by omega) (by omega)
      have vxy := vr.2.2.2.2.2.2 i (by omega) (by omega)
      refine rb_La_markArea_5 (rn_sh_ch c1 hM) hq.1 ?_ ?_ ?_ ?_ <;> (try rw [go, g2, hr.2.2.1])
      · exact ⟨g1, pr, by omega⟩
      · intro _; rw [hr.2.2.2.1]; exact ⟨g1, pr, by omega, by omega⟩
      · intro _
        rw [exy.1, exy.2, hr.2.1]
        refine rs_markAround (rn_sh_ch c1 hM) s1 vxy.1 vxy.2 v2 (fun M2 c2 s2 => rb_La_markArea_48 ?_ ?_)
        · omega
        · refine ih (i + 1) M2 (by omega) (by omega) (rn_ch_tr c1 c2) (rn_Sh_congr (fun c _ => ?_) s2)
          constructor
          · rintro ((z | ⟨x, x1, x2, x3⟩) | z)
            · exact Or.inl z
            · exact Or.inr ⟨x, x1, by omega, x3⟩
            · exact Or.inr ⟨i, i0, by omega, z⟩
          · rintro (z | ⟨x, x1, x2, x3⟩)
            · exact Or.inl (Or.inl z)
            · rcases Int.lt_or_le x i with q | q
              · exact Or.inl (Or.inr ⟨x, x1, q, x3⟩)
              · have : x = i := by omega
                subst this
                exact Or.inr x3
      · intro c; omega
  exact loop (rn_o N (rn_lb N l 0) 0).toNat _ M (by omega) (Int.le_refl _) rn_ch_rf (rn_Sh_congr (fun c _ => ⟨Or.inl, fun z => z.elim id (fun ⟨x, x1, x2, _⟩ => by omega)⟩) hS)
theorem rn_Lb_ch {P : Nat → Prop} {M M' : rn_M} (hP : ∀ a, 14 ≤ a → a < 462 → ¬ P a) (c : rn_ch P M M') {q : Nat} {l : Int} (h : rn_Lb M b q N l) : rn_Lb M' b q N l := by
  have := rn_bdL h.1
  exact ⟨h.1, (c.2.1 q 0).trans h.2.1, by rw [c.2.2 q (hP q (by omega) (by omega))]; exact h.2.2⟩
theorem rs_cells (hM : rn_sh M) (p : rn_isB b) (h : rn_Rp M b N) (v : rn_vd N) {q : Nat} {l : Int} (l0 : 0 ≤ l) (l1 : l < N 2) (hq : rn_Lb M b q N l) (k : ∀ M', rn_ch rn_P2 M M' → Q (some (rn_I (rn_card (rn_ar N (rn_lb N l 0) (rn_lb N l 1)) 2400))) M') : rn_ME 44 [rn_R q, rn_R 464] M Q := by
  refine re_La_cells (rb_La_cells_0 hM (rs_clear hM (fun M1 c1 s1 => ?_)))
  refine rb_La_cells_4 (rn_sh_ch c1 hM) hq.1 (rs_markArea (rn_sh_ch c1 hM) p (rn_Rp_ch rn_P2_b c1 p v h) v l0 l1 (rn_Lb_ch rn_P2_b c1 hq) s1 (fun M2 c2 s2 => ?_))
  refine rb_La_cells_9 (rn_sh_ch c2 (rn_sh_ch c1 hM)) ?_
  have := k M2 (rn_ch_tr c1 c2)
  rw [s2.2, rn_card_congr (S' := rn_ar N (rn_lb N l 0) (rn_lb N l 1)) 2400 (fun c _ => ⟨fun z => z.elim False.elim id, Or.inr⟩)]
  exact this
theorem rs_labelsOf (hM : rn_sh M) (p : rn_isB b) (h : rn_Rp M b N) (v : rn_vd N) {r : Int} (r0 : 0 ≤ r) (r1 : r < N 0) (k : Q (some (rn_I (rn_lo N r))) M) : rn_ME 12 [rn_R b, rn_R (b + 4 + 5 * r.toNat)] M Q := by
  have e2 := h.1.2.2.1
  have w2 := v.2.2.1
  have w0 := v.1
  have pr := rn_isR_i p v r0 r1
  have er := h.2.1 r r0 (by omega)
  refine re_Bo_labelsOf (rb_Bo_labelsOf_0 ?_)
  have loop : ∀ (m j : Nat) (w : rn_V), m + j = (N 2).toNat → rn_WP 12 4 [rn_R b, rn_R (b + 4 + 5 * r.toNat), rn_I (rn_card (fun l => rn_lb N l 0 = r) j), rn_I (j : Int), w] [] M Q := by
    intro m
    induction m with
    | zero =>
      intro j w hj
      refine rb_Bo_labelsOf_4 hM p ?_ ?_ <;> rw [e2]
      · intro c; omega
      · intro _; rw [Nat.zero_add] at hj; unfold rn_lo at k; rw [← hj] at k; exact k
    | succ m ih =>
      intro j w hj
      have hc := rn_card_r (fun l => rn_lb N l 0 = r) j
      have e : ((j + 1 : Nat) : Int) = (j : Int) + 1 := by omega
      refine rb_Bo_labelsOf_4 hM p ?_ ?_ <;> rw [e2]
      · intro c
        refine rs_labelAt hM p h v (fun q q0 q1 hq => ?_) (fun c => by omega)
        have vl := v.2.2.2.2.2.2 j q0 q1
        have vl1 := vl.1.2
        have go := rn_Lb_go hq
        have eq := h.2.1 (rn_lb N j 0) vl.1.1 (by omega)
        have := ih (j + 1) (rn_R q) (by omega)
        unfold rn_card at this
        rw [e] at this
        refine rb_Bo_labelsOf_17s hM hq.1 pr ?_ ?_ ?_ ?_ ?_
        · rw [go]; exact ⟨hq.2.1, rn_isR_i p v vl.1.1 vl.1.2⟩
        · omega
        · omega
        · rw [go, eq, er]; intro c; rw [rn_bt c] at this; exact this
        · rw [go, eq, er]; intro c; rw [rn_bf c, Int.add_zero] at this; exact this
      · intro c; omega
  exact loop (N 2).toNat 0 _ (by omega)
theorem rs_labelsOver (hM : rn_sh M) (p : rn_isB b) (h : rn_Rp M b N) (v : rn_vd N) {t : Int} (t0 : 0 ≤ t) (t1 : t < N 1) (k : Q (some (rn_I (rn_card (fun l => rn_mt' N (rn_lb N l 0) (rn_lb N l 1) t) (N 2).toNat))) M) : rn_ME 13 [rn_R b, rn_R (b + 34 + t.toNat)] M Q := by
  have e2 := h.1.2.2.1
  have w2 := v.2.2.1
  have w1 := v.2.1
  refine re_Bo_labelsOver (rb_Bo_labelsOver_0 ?_)
  have loop : ∀ (m j : Nat) (w : rn_V), m + j = (N 2).toNat → rn_WP 13 4 [rn_R b, rn_R (b + 34 + t.toNat), rn_I (rn_card (fun l => rn_mt' N (rn_lb N l 0) (rn_lb N l 1) t) j), rn_I (j : Int), w] [] M Q := by
    intro m
    induction m with
    | zero =>
      intro j w hj
      refine rb_Bo_labelsOver_4 hM p ?_ ?_ <;> rw [e2]
      · intro c; omega
      · intro _; rw [Nat.zero_add] at hj; rw [← hj] at k; exact k
    | succ m ih =>
      intro j w hj
      have hc := rn_card_r (fun l => rn_mt' N (rn_lb N l 0) (rn_lb N l 1) t) j
      have e : ((j + 1 : Nat) : Int) = (j : Int) + 1 := by omega
      refine rb_Bo_labelsOver_4 hM p ?_ ?_ <;> rw [e2]
      · intro c
        refine rs_labelAt hM p h v (fun q q0 q1 hq => ?_) (fun c => by omega)
        have := ih (j + 1) (rn_R q) (by omega)
        unfold rn_card at this
        rw [e] at this
        refine rb_Bo_labelsOver_17s hM hq.1 (rs_lapsOver hM p h v q0 q1 hq (rn_isT_of p (by omega)) (h.2.2.2.1 t t0 t1) (v.2.2.2.2.2.1 t t0 t1) ?_)
        refine rb_Bo_labelsOver_30 ?_ ?_ ?_ ?_
        · omega
        · omega
        · intro c; rw [c, Int.add_zero] at this; exact this
        · intro c; rw [rn_bt (rn_b1 c)] at this; exact this
      · intro c; omega
  exact loop (N 2).toNat 0 _ (by omega)
theorem rs_townsUnder (hM : rn_sh M) (p : rn_isB b) (h : rn_Rp M b N) (v : rn_vd N) {q : Nat} {l : Int} (l0 : 0 ≤ l) (l1 : l < N 2) (hq : rn_Lb M b q N l) (k : Q (some (rn_I (rn_card (fun t => rn_mt' N (rn_lb N l 0) (rn_lb N l 1) t) (N 1).toNat))) M) : rn_ME 14 [rn_R b, rn_R q] M Q := by
  have e2 := h.1.2.1
  have w1 := v.2.1
  refine re_Bo_townsUnder (rb_Bo_townsUnder_0 ?_)
  have loop : ∀ (m j : Nat) (w : rn_V), m + j = (N 1).toNat → rn_WP 14 4 [rn_R b, rn_R q, rn_I (rn_card (fun t => rn_mt' N (rn_lb N l 0) (rn_lb N l 1) t) j), rn_I (j : Int), w] [] M Q := by
    intro m
    induction m with
    | zero =>
      intro j w hj
      refine rb_Bo_townsUnder_4 hM p ?_ ?_ <;> rw [e2]
      · intro c; omega
      · intro _; rw [Nat.zero_add] at hj; rw [← hj] at k; exact k
    | succ m ih =>
      intro j w hj
      have hc := rn_card_r (fun t => rn_mt' N (rn_lb N l 0) (rn_lb N l 1) t) j
      have e : ((j + 1 : Nat) : Int) = (j : Int) + 1 := by omega
      refine rb_Bo_townsUnder_4 hM p ?_ ?_ <;> rw [e2]
      · intro c
        refine rs_townAt hM p h v (fun q0 q1 => ?_) (fun c => by omega)
        have := ih (j + 1) (rn_R (b + 34 + (j : Int).toNat)) (by omega)
        unfold rn_card at this
        rw [e] at this
        refine rb_Bo_townsUnder_17s hM hq.1 (rs_lapsOver hM p h v l0 l1 hq (rn_isT_of p (by omega)) (h.2.2.2.1 j q0 q1) (v.2.2.2.2.2.1 j q0 q1) ?_)
        refine rb_Bo_townsUnder_30 ?_ ?_ ?_ ?_
        · omega
        · omega
        · intro c; rw [c, Int.add_zero] at this; exact this
        · intro c; rw [rn_bt (rn_b1 c)] at this; exact this
      · intro c; omega
  exact loop (N 1).toNat 0 _ (by omega)
theorem rn_cs_r (v : rn_vd N) : ∀ n : Nat, (n : Int) ≤ N 2 → 0 ≤ rn_cs N n ∧ rn_cs N n ≤ 2600 * n
  | 0, _ => ⟨Int.le_refl _, by unfold rn_cs; omega⟩
  | n + 1, h => by
    have vl := v.2.2.2.2.2.2 n (by omega) (by omega)
    have := rn_cost_r (v.2.2.2.2.1 _ vl.1.1 vl.1.2) vl.2.1.1 vl.2.2
    have ih := rn_cs_r v n (by omega)
    unfold rn_cs
    omega
theorem rs_costOfLabels (hM : rn_sh M) (p : rn_isB b) (h : rn_Rp M b N) (v : rn_vd N) (k : Q (some (rn_I (rn_cs N (N 2).toNat))) M) : rn_ME 15 [rn_R b] M Q := by
  have e2 := h.1.2.2.1
  have w2 := v.2.2.1
  refine re_Bo_costOfLabels (rb_Bo_costOfLabels_0 ?_)
  have loop : ∀ (m j : Nat) (w : rn_V), m + j = (N 2).toNat → rn_WP 15 4 [rn_R b, rn_I (rn_cs N j), rn_I (j : Int), w] [] M Q := by
    intro m
    induction m with
    | zero =>
      intro j w hj
      refine rb_Bo_costOfLabels_4 hM p ?_ ?_ <;> rw [e2]
      · intro c; omega
      · intro _; rw [Nat.zero_add] at hj; rw [← hj] at k; exact k
    | succ m ih =>
      intro j w hj
      have hc := rn_cs_r v j (by omega)
      have e : ((j + 1 : Nat) : Int) = (j : Int) + 1 := by omega
      refine rb_Bo_costOfLabels_4 hM p ?_ ?_ <;> rw [e2]
      · intro c
        refine rs_labelAt hM p h v (fun q q0 q1 hq => ?_) (fun c => by omega)
        have vl := v.2.2.2.2.2.2 j q0 q1
        have go := rn_Lb_go hq
        have pr := rn_isR_i p v vl.1.1 vl.1.2
        have vr := v.2.2.2.2.1 _ vl.1.1 vl.1.2
        have cr := rn_cost_r vr vl.2.1.1 vl.2.2
        have := ih (j + 1) (rn_R q) (by omega)
        unfold rn_cs at this
        rw [e] at this
        refine rb_Bo_costOfLabels_17s hM hq.1 ?_ ?_
        · rw [go]; exact ⟨hq.2.1, pr⟩
        · rw [go, hq.2.2]
          refine rs_costOf hM pr (h.2.2.1 _ vl.1.1 vl.1.2) vr vl.2.1.1 vl.2.2 ?_
          exact rb_Bo_costOfLabels_34 (by omega) this
      · intro c; omega
  exact loop (N 2).toNat 0 _ (by omega)
theorem rs_cellsOfLabels (hM : rn_sh M) (p : rn_isB b) (h : rn_Rp M b N) (v : rn_vd N) (k : ∀ M', rn_ch rn_P2 M M' → Q (some (rn_I (rn_card (rn_cv2 N (N 2)) 2400))) M') : rn_ME 16 [rn_R b, rn_R 464] M Q := by
  have w2 := v.2.2.1
  refine re_Bo_cellsOfLabels (rb_Bo_cellsOfLabels_0 hM (rs_clear hM (fun M1 c1 s1 => rb_Bo_cellsOfLabels_4 ?_)))
  have loop : ∀ (m j : Nat) (w : rn_V) (M1 : rn_M), m + j = (N 2).toNat → rn_ch rn_P2 M M1 → rn_Sh M1 (rn_cv2 N j) → rn_WP 16 6 [rn_R b, rn_R 464, rn_I (j : Int), w] [] M1 Q := by
    intro m
    induction m with
    | zero =>
      intro j w M1 hj c1 s1
      have e2 := (rn_Rp_ch rn_P2_b c1 p v h).1.2.2.1
      refine rb_Bo_cellsOfLabels_6 (rn_sh_ch c1 hM) p ?_ ?_ <;> rw [e2]
      · intro c; omega
      · intro _
        rw [s1.2, show (j : Int) = N 2 by omega]
        exact k M1 c1
    | succ m ih =>
      intro j w M1 hj c1 s1
      have h' := rn_Rp_ch rn_P2_b c1 p v h
      have hM1 := rn_sh_ch c1 hM
      have e2 := h'.1.2.2.1
      refine rb_Bo_cellsOfLabels_6 hM1 p ?_ ?_ <;> rw [e2]
      · intro c
        refine rs_labelAt hM1 p h' v (fun q q0 q1 hq => ?_) (fun c => by omega)
        refine rb_Bo_cellsOfLabels_19s hM1 hq.1 (rs_markArea hM1 p h' v q0 q1 hq s1 (fun M2 c2 s2 => rb_Bo_cellsOfLabels_29 (by omega) ?_))
        have := ih (j + 1) (rn_R q) M2 (by omega) (rn_ch_tr c1 c2) (rn_Sh_congr (fun c _ => ?_) s2)
        · rw [show ((j + 1 : Nat) : Int) = j + 1 by omega] at this; exact this
        · unfold rn_cv2
          constructor
          · rintro (⟨x, x1, x2, x3⟩ | z)
            · exact ⟨x, x1, by omega, x3⟩
            · exact ⟨j, by omega, by omega, z⟩
          · rintro ⟨x, x1, x2, x3⟩
            rcases Int.lt_or_le x j with q | q
            · exact Or.inl ⟨x, x1, q, x3⟩
            · have : x = j := by omega
              subst this
              exact Or.inr x3
      · intro c; omega
  exact loop (N 2).toNat 0 _ M1 (by omega) c1 (rn_Sh_congr (fun c _ => ⟨False.elim, fun ⟨x, x1, x2, _⟩ => by omega⟩) s1)
theorem rs_riversWithoutLabel (hM : rn_sh M) (p : rn_isB b) (h : rn_Rp M b N) (v : rn_vd N) (k : Q (some (rn_I (rn_wo N (N 0).toNat))) M) : rn_ME 17 [rn_R b] M Q := by
  have e2 := h.1.1
  have w0 := v.1
  refine re_Bo_riversWithoutLabel (rb_Bo_riversWithoutLabel_0 ?_)
  have loop : ∀ (m j : Nat) (w : rn_V), m + j = (N 0).toNat → rn_WP 17 4 [rn_R b, rn_I (rn_wo N j), rn_I (j : Int), w] [] M Q := by
    intro m
    induction m with
    | zero =>
      intro j w hj
      refine rb_Bo_riversWithoutLabel_4 hM p ?_ ?_ <;> rw [e2]
      · intro c; omega
      · intro _; rw [Nat.zero_add] at hj; rw [← hj] at k; exact k
    | succ m ih =>
      intro j w hj
      have e : ((j + 1 : Nat) : Int) = (j : Int) + 1 := by omega
      refine rb_Bo_riversWithoutLabel_4 hM p ?_ ?_ <;> rw [e2]
      · intro c
        refine rs_riverAt hM p h v (fun q0 q1 => ?_) (fun c => by omega)
        have := ih (j + 1) (rn_R (b + 4 + 5 * (j : Int).toNat)) (by omega)
        unfold rn_wo at this
        rw [e] at this
        refine rb_Bo_riversWithoutLabel_17s hM p (rs_labelsOf hM p h v q0 q1 ?_)
        refine rb_Bo_riversWithoutLabel_27 ?_ ?_ ?_ ?_
        · omega
        · omega
        · intro c; rw [rn_pick_t c] at this; exact this
        · intro c; rw [rn_pick_f c] at this; exact this
      · intro c; omega
  exact loop (N 0).toNat 0 _ (by omega)
theorem rs_signOn (hM : rn_sh M) (p : rn_isB b) (h : rn_Rp M b N) (v : rn_vd N) {x y : Int} (hx : 0 ≤ x ∧ x < 60) (hy : 0 ≤ y ∧ y < 40) (k : Q (some (rn_I (rn_wv N x y (rn_wb N x y (N 2).toNat)))) M) : rn_ME 18 [rn_R b, rn_I x, rn_I y] M Q := by
  have e2 := h.1.2.2.1
  have w2 := v.2.2.1
  refine re_Bo_signOn (rb_Bo_signOn_0 ?_)
  have loop : ∀ (m j : Nat) (w w2 : rn_V) (z : Int), m + j = (N 2).toNat → (rn_wb N x y j = -9 → z = 0) → (rn_wb N x y j ≠ -9 → z = rn_o N (rn_lb N (rn_wb N x y j) 0) 1) → rn_WP 18 9 [rn_R b, rn_I x, rn_I y, rn_I (rn_wv N x y (rn_wb N x y j)), rn_I z, rn_I (j : Int), w, w2] [] M Q := by
    intro m
    induction m with
    | zero =>
      intro j w w2 z hj _ _
      refine rb_Bo_signOn_9 hM p ?_ ?_ <;> rw [e2]
      · intro c; omega
      · intro _; rw [Nat.zero_add] at hj; rw [← hj] at k; exact k
    | succ m ih =>
      intro j w w2 z hj hz1 hz2
      have e : ((j + 1 : Nat) : Int) = (j : Int) + 1 := by omega
      refine rb_Bo_signOn_9 hM p ?_ ?_ <;> rw [e2]
      · intro c
        refine rs_labelAt hM p h v (fun q q0 q1 hq => ?_) (fun c => by omega)
        have vl := v.2.2.2.2.2.2 j q0 q1
        have go := rn_Lb_go hq
        have pr := rn_isR_i p v vl.1.1 vl.1.2
        have vr := v.2.2.2.2.1 _ vl.1.1 vl.1.2
        have hr := h.2.2.1 _ vl.1.1 vl.1.2
        have vr1 := vr.2.1
        have gr1 : rn_gr M q 0 = some (rn_go M q 0) ∧ rn_isR (rn_go M q 0) := by rw [go]; exact ⟨hq.2.1, pr⟩
        have skip : ∀ w2 : rn_V, ¬ ((rn_wb N x y j = -9 ∨ rn_o N (rn_lb N (rn_wb N x y j) 0) 1 < rn_o N (rn_lb N j 0) 1) ∧ rn_plo N (rn_lb N j 0) (rn_lb N j 1) x y ≠ -9) → rn_WP 18 9 [rn_R b, rn_I x, rn_I y, rn_I (rn_wv N x y (rn_wb N x y j)), rn_I z, rn_I ((j : Int) + 1), rn_R q, w2] [] M Q := by
          intro w2 c
          have e3 : rn_wb N x y (j + 1) = rn_wb N x y j := rn_pick_f c _ _
          have := ih (j + 1) (rn_R q) w2 z (by omega) (by rw [e3]; exact hz1) (by rw [e3]; exact hz2)
          rw [e3, e] at this
          exact this
        refine rb_Bo_signOn_24s hM hq.1 gr1 ?_ (fun _ => gr1) ?_ ?_
        · omega
        · rw [go, hr.1]; intro c
          refine skip _ (fun z3 => ?_)
          rcases z3.1 with q | q
          · have := hz1 q; omega
          · by_cases q2 : rn_wb N x y j = -9
            · have := hz1 q2; omega
            · have := hz2 q2; omega
        · rw [go, hr.1, hq.2.2]; intro c
          refine rs_letterOn hM pr hr vr vl.2.1.1 vl.2.2 hx hy ?_
          refine rb_Bo_signOn_59 hM hq.1 ?_ ?_ ?_ ?_
          · omega
          · intro _; exact ⟨gr1.1, gr1.2, by omega, by omega⟩
          · intro c2
            refine skip _ (fun z3 => ?_)
            rw [rn_pick_f z3.2] at c2
            have := rn_plo_r (N := N) (r := rn_lb N j 0) (s := rn_lb N j 1) (x := x) (y := y) vl.2.1.1
            have vn := vr.2.2.2.2.2.1
            unfold rn_lto at c2
            have v0 := vr.1
            by_cases tr : rn_trn N (rn_lb N j 0) (rn_lb N j 1)
            · rw [rn_pick_t tr] at c2
              have := vn (rn_o N (rn_lb N j 0) 0 - 1 - (rn_plo N (rn_lb N j 0) (rn_lb N j 1) x y - rn_lb N j 1)) (by omega) (by omega)
              omega
            · rw [rn_pick_f tr] at c2
              have := vn (rn_plo N (rn_lb N j 0) (rn_lb N j 1) x y - rn_lb N j 1) (by omega) (by omega)
              omega
          · intro c2
            have c3 : rn_plo N (rn_lb N j 0) (rn_lb N j 1) x y ≠ -9 := fun q => c2 (rn_pick_t q _ _)
            have c4 : rn_wb N x y j = -9 ∨ rn_o N (rn_lb N (rn_wb N x y j) 0) 1 < rn_o N (rn_lb N j 0) 1 := by
              by_cases q2 : rn_wb N x y j = -9
              · exact Or.inl q2
              · have := hz2 q2; exact Or.inr (by omega)
            have e3 : rn_wb N x y (j + 1) = j := rn_pick_t ⟨c4, c3⟩ _ _
            have := ih (j + 1) (rn_R q) (rn_I (rn_pick (rn_plo N (rn_lb N j 0) (rn_lb N j 1) x y = -9) (-9) (rn_lto N (rn_lb N j 0) (rn_lb N j 1) x y))) (rn_o N (rn_lb N j 0) 1) (by omega) (by rw [e3]; omega) (by rw [e3]; intro _; rfl)
            rw [e3, e] at this
            unfold rn_wv at this
            rw [rn_pick_f (P := (j : Int) = -9) (by omega)] at this
            rw [go, hr.1, rn_pick_f c3]
            rw [rn_pick_f c3] at this
            exact this
      · intro c; omega
  have := loop (N 2).toNat 0 rn_J rn_J 0 (by omega) (fun _ => rfl) (fun q => absurd rfl q)
  unfold rn_wv at this
  rw [rn_pick_t (P := rn_wb N x y 0 = -9) rfl] at this
  exact this
end SUM
