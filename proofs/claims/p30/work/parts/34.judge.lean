/-! what the judge notes and finds -/
theorem rn_Rv_ch {P : Nat → Prop} {M M' : rn_M} (hP : ∀ a, 14 ≤ a → a < 462 → ¬ P a) (c : rn_ch P M M') {a : Nat} (ha : rn_isR a) {N : Nat → Int} {r : Int} (h : rn_Rv M a N r) : rn_Rv M' a N r := by
  have hb := rn_bdR ha
  unfold rn_Rv at *
  rw [c.2.2 a (hP a (by omega) (by omega)), c.2.2 (a + 1) (hP _ (by omega) (by omega)), c.2.2 (a + 2) (hP _ (by omega) (by omega)), c.2.2 (a + 3) (hP _ (by omega) (by omega)), c.2.2 (a + 4) (hP _ (by omega) (by omega))]
  exact h
theorem rn_Rp_ch {P : Nat → Prop} {M M' : rn_M} (hP : ∀ a, 14 ≤ a → a < 462 → ¬ P a) (c : rn_ch P M M') {b : Nat} (p : rn_isB b) {N : Nat → Int} (v : rn_vd N) (h : rn_Rp M b N) : rn_Rp M' b N := by
  have hb := rn_bdB p
  have v0 := v.1
  have v1 := v.2.1
  refine ⟨?_, fun r r0 r1 => ?_, fun r r0 r1 => rn_Rv_ch hP c (rn_isR_i p v r0 r1) (h.2.2.1 r r0 r1), fun t t0 t1 => ?_, fun l l0 l1 => ?_⟩
  · rw [c.2.2 b (hP b (by omega) (by omega))]; exact h.1
  · rw [c.2.2 _ (hP _ (by omega) (by omega))]; exact h.2.1 r r0 r1
  · have := h.2.2.2.1 t t0 t1
    unfold rn_Tw at *
    rw [c.2.2 _ (hP _ (by omega) (by omega))]; exact this
  · obtain ⟨q, h1, h2, h3, h4⟩ := h.2.2.2.2 l l0 l1
    have := rn_bdL h2
    refine ⟨q, by rw [c.2.1]; exact h1, h2, by rw [c.2.1]; exact h3, by rw [c.2.2 q (hP _ (by omega) (by omega))]; exact h4⟩
def rn_P3 (a : Nat) : Prop := a = 463
theorem rn_P3_b : ∀ a, 14 ≤ a → a < 462 → ¬ rn_P3 a := fun a _ h2 h => by unfold rn_P3 at h; omega
theorem rn_P2_b : ∀ a, 14 ≤ a → a < 462 → ¬ rn_P2 a := fun a _ h2 h => by unfold rn_P2 at h; omega
/-- the rivals of the river r are noted -/
def rn_No (M : rn_M) (N : Nat → Int) (r n : Int) : Prop := ∀ x : Int, 0 ≤ x → x < n → (0 ≤ rn_gi M 463 x.toNat ∧ rn_gi M 463 x.toNat ≤ 9) ∧ ∀ z : Int, 1 ≤ z → (z ≤ rn_gi M 463 x.toNat ↔ rn_tq N r x z ∨ rn_lq N r x z)
section JDG
variable {M : rn_M} {Q : rn_Q} {b : Nat} {N : Nat → Int}
theorem rn_cr_neg {r s but : Int} (h : but < 0) : rn_cr N r s but ↔ rn_cr N r s (-9) :=
  ⟨fun ⟨l, l1, l2, _, l3⟩ => ⟨l, l1, l2, by omega, l3⟩, fun ⟨l, l1, l2, _, l3⟩ => ⟨l, l1, l2, by omega, l3⟩⟩
theorem rn_why0 {r s k : Int} : rn_why N r s k (-9) = 0 ↔ s + rn_o N r 0 ≤ rn_o N r 5 + 1 ∧ ¬ rn_cr N r s (-9) ∧ ∀ x : Int, s ≤ x → x < s + rn_o N r 0 → ¬ (rn_tq N r x k ∨ rn_lq N r x k) := by
  unfold rn_why
  by_cases c1 : s + rn_o N r 0 ≤ rn_o N r 5 + 1
  · rw [rn_pick_t c1]
    by_cases c2 : rn_cr N r s (-9)
    · rw [rn_pick_t c2]; exact ⟨fun z => by omega, fun z => absurd c2 z.2.1⟩
    · rw [rn_pick_f c2]
      by_cases c3 : rn_w3 N r s k
      · rw [rn_pick_t c3]
        refine ⟨fun z => by omega, fun z => ?_⟩
        obtain ⟨x, x1, x2, x3⟩ := rn_w3_iff.mp c3
        exact absurd (Or.inl x3) (z.2.2 x x1 x2)
      · rw [rn_pick_f c3]
        by_cases c4 : rn_w4 N r s k (-9)
        · rw [rn_pick_t c4]
          refine ⟨fun z => by omega, fun z => ?_⟩
          obtain ⟨x, x1, x2, x3⟩ := (rn_w4_iff (fun q => by omega)).mp c4
          exact absurd (Or.inr x3) (z.2.2 x x1 x2)
        · rw [rn_pick_f c4]
          exact ⟨fun _ => ⟨c1, c2, fun x x1 x2 z => z.elim (fun z => c3 (rn_w3_iff.mpr ⟨x, x1, x2, z⟩)) (fun z => c4 ((rn_w4_iff (fun q => by omega)).mpr ⟨x, x1, x2, z⟩))⟩, fun _ => rfl⟩
  · rw [rn_pick_f c1]; exact ⟨fun z => by omega, fun z => absurd z.1 c1⟩
theorem rs_noteRivals (hM : rn_sh M) (p : rn_isB b) (h : rn_Rp M b N) (v : rn_vd N) {r : Int} (h0 : 0 ≤ r) (h1 : r < N 0) (k : ∀ M', rn_ch rn_P3 M M' → rn_No M' N r (rn_o N r 5 + 1) → Q none M') : rn_ME 30 [rn_R 462, rn_R b, rn_R (b + 4 + 5 * r.toNat)] M Q := by
  have pr := rn_isR_i p v h0 h1
  have vr := v.2.2.2.2.1 r h0 h1
  have v5 := vr.2.2.2.1
  refine re_Ju_noteRivals (rb_Ju_noteRivals_0 ?_)
  have loop : ∀ (m : Nat) (i : Int) (M1 : rn_M), i + m = rn_o N r 5 + 1 → 0 ≤ i → rn_ch rn_P3 M M1 → rn_No M1 N r i → rn_WP 30 2 [rn_R 462, rn_R b, rn_R (b + 4 + 5 * r.toNat), rn_I i] [] M1 Q := by
    intro m
    induction m with
    | zero =>
      intro i M1 hi i0 c1 c2
      have hr := (rn_Rp_ch rn_P3_b c1 p v h).2.2.1 r h0 h1
      have hi' : i = rn_o N r 5 + 1 := by omega
      rw [hi'] at c2
      refine rb_Ju_noteRivals_2 (rn_sh_ch c1 hM) pr ?_ ?_ ?_ <;> rw [hr.2.2.2.1]
      · intro _; exact k M1 c1 c2
      · intro c; omega
      · intro c; omega
    | succ m ih =>
      intro i M1 hi i0 c1 c2
      have h' := rn_Rp_ch rn_P3_b c1 p v h
      have hM1 := rn_sh_ch c1 hM
      have hr := h'.2.2.1 r h0 h1
      refine rb_Ju_noteRivals_2 hM1 pr ?_ ?_ ?_ <;> rw [hr.2.2.2.1]
      · intro c; omega
      · intro _ _
        refine rs_townRankAt hM1 p h' v h0 h1 (by omega) (fun y y0 y9 hy => ?_)
        refine rb_Ju_noteRivals_28 hM1 ?_
        refine rs_labelRankAt hM1 p h' v h0 h1 (by omega) (fun y2 z0 z9 hz => ?_)
        refine rb_Ju_noteRivals_35 (rn_w463 hM1) ?_ ?_
        · omega
        · refine ih (i + 1) _ (by omega) (by omega) (rn_ch_tr c1 (rn_ch_si rfl)) (fun x x0 x1 => ?_)
          by_cases e : x = i
          · subst e
            rw [rn_si_eq]
            refine ⟨by omega, fun z z1 => ?_⟩
            rw [← hy z z1, ← hz z z1]
            omega
          · rw [rn_si_ne (fun z => e (by omega))]
            exact c2 x x0 (by omega)
      · intro c; omega
  exact loop (rn_o N r 5 + 1).toNat 0 M (by omega) (Int.le_refl _) rn_ch_rf (fun x x0 x1 => by omega)
theorem rs_rivalRank (hM : rn_sh M) (p : rn_isB b) (h : rn_Rp M b N) (v : rn_vd N) {r s : Int} (h0 : 0 ≤ r) (h1 : r < N 0) (hs : 0 ≤ s) (hs2 : s + rn_o N r 0 ≤ rn_o N r 5 + 1) (hn : rn_No M N r (rn_o N r 5 + 1)) (k : ∀ y : Int, 0 ≤ y → y ≤ 9 → (∀ z : Int, 1 ≤ z → (z ≤ y ↔ ∃ x : Int, s ≤ x ∧ x < s + rn_o N r 0 ∧ (rn_tq N r x z ∨ rn_lq N r x z))) → Q (some (rn_I y)) M) : rn_ME 31 [rn_R 462, rn_R (b + 4 + 5 * r.toNat), rn_I s] M Q := by
  have pr := rn_isR_i p v h0 h1
  have vr := v.2.2.2.2.1 r h0 h1
  have v5 := vr.2.2.2.1
  have v0 := vr.1
  have hr := h.2.2.1 r h0 h1
  refine re_Ju_rivalRank (rb_Ju_rivalRank_0 ?_)
  have loop : ∀ (m : Nat) (i y : Int), i + m = s + rn_o N r 0 → s ≤ i → 0 ≤ y → y ≤ 9 → (∀ z : Int, 1 ≤ z → (z ≤ y ↔ ∃ x : Int, s ≤ x ∧ x < i ∧ (rn_tq N r x z ∨ rn_lq N r x z))) → rn_WP 31 5 [rn_R 462, rn_R (b + 4 + 5 * r.toNat), rn_I s, rn_I y, rn_I i] [] M Q := by
    intro m
    induction m with
    | zero =>
      intro i y hi i0 y0 y9 hy
      have hi' : i = s + rn_o N r 0 := by omega
      rw [hi'] at hy
      refine rb_Ju_rivalRank_5 hM pr ?_ ?_ ?_ ?_ ?_ ?_ <;> rw [hr.2.2.1]
      · omega
      · intro c; omega
      · intro c; omega
      · intro c; omega
      · intro c; omega
      · intro _; exact k y y0 y9 hy
    | succ m ih =>
      intro i y hi i0 y0 y9 hy
      have hc := hn i (by omega) (by omega)
      refine rb_Ju_rivalRank_5 hM pr ?_ ?_ ?_ ?_ ?_ ?_ <;> rw [hr.2.2.1]
      · omega
      · intro c d; omega
      · intro c d; omega
      · intro c d; omega
      · intro _ _
        refine ih (i + 1) _ (by omega) (by omega) (by omega) (by omega) (fun z z1 => ?_)
        have e : (z ≤ max y (rn_gi M 463 i.toNat)) ↔ (z ≤ y ∨ z ≤ rn_gi M 463 i.toNat) := by omega
        rw [e, hy z z1, hc.2 z z1]
        constructor
        · rintro (⟨x, x1, x2, x3⟩ | q)
          · exact ⟨x, x1, by omega, x3⟩
          · exact ⟨i, i0, by omega, q⟩
        · rintro ⟨x, x1, x2, x3⟩
          rcases Int.lt_or_le x i with q | q
          · exact Or.inl ⟨x, x1, q, x3⟩
          · have : x = i := by omega
            subst this
            exact Or.inr x3
      · intro c; omega
  exact loop (rn_o N r 0).toNat s 0 (by omega) (Int.le_refl _) (Int.le_refl _) (by omega) (fun z z1 => ⟨fun c => by omega, fun ⟨x, x1, x2, _⟩ => by omega⟩)
theorem rn_bsn_r (r : Int) : ∀ n : Nat, rn_bsn N r n = -9 ∨ 0 ≤ rn_bsn N r n ∧ rn_bsn N r n < n ∧ rn_why N r (rn_bsn N r n) (rn_o N r 1) (-9) = 0
  | 0 => Or.inl rfl
  | n + 1 => by
    have ih := rn_bsn_r r n
    unfold rn_bsn
    by_cases c : rn_why N r n (rn_o N r 1) (-9) = 0 ∧ (rn_bsn N r n = -9 ∨ rn_cost N r n < rn_cost N r (rn_bsn N r n))
    · rw [rn_pick_t c]; exact Or.inr ⟨by omega, by omega, c.1⟩
    · rw [rn_pick_f c]
      rcases ih with q | q
      · exact Or.inl q
      · exact Or.inr ⟨q.1, by omega, q.2.2⟩
theorem rn_bsn_st {r : Int} {n : Nat} : ∀ m : Nat, (∀ j : Nat, n ≤ j → j < n + m → rn_why N r j (rn_o N r 1) (-9) ≠ 0) → rn_bsn N r (n + m) = rn_bsn N r n
  | 0, _ => rfl
  | m + 1, h => by
    exact (rn_pick_f (fun z => h (n + m) (by omega) (by omega) z.1) _ _).trans (rn_bsn_st m (fun j j1 j2 => h j j1 (by omega)))
theorem rs_bestStartAsNoted (hM : rn_sh M) (p : rn_isB b) (h : rn_Rp M b N) (v : rn_vd N) {r : Int} (h0 : 0 ≤ r) (h1 : r < N 0) (hn : rn_No M N r (rn_o N r 5 + 1)) (k : Q (some (rn_I (rn_best N r))) M) : rn_ME 33 [rn_R 462, rn_R b, rn_R (b + 4 + 5 * r.toNat)] M Q := by
  have pr := rn_isR_i p v h0 h1
  have vr := v.2.2.2.2.1 r h0 h1
  have v5 := vr.2.2.2.1
  have v0 := vr.1
  have v1 := vr.2.1
  have hr := h.2.2.1 r h0 h1
  refine re_Ju_bestStartAsNoted (rb_Ju_bestStartAsNoted_0 ?_)
  have loop : ∀ (m j : Nat) (y : Int) (w : rn_V), m + j = (rn_o N r 5 + 1 - rn_o N r 0 + 1).toNat → (rn_bsn N r j ≠ -9 → y = rn_cost N r (rn_bsn N r j)) → rn_WP 33 9 [rn_R 462, rn_R b, rn_R (b + 4 + 5 * r.toNat), rn_I (rn_bsn N r j), rn_I y, rn_I (j : Int), w] [] M Q := by
    intro m
    induction m with
    | zero =>
      intro j y w hj hy
      refine rb_Ju_bestStartAsNoted_9 hM pr ?_ ?_ ?_ <;> rw [hr.2.2.1, hr.2.2.2.1]
      · omega
      · intro _
        unfold rn_best at k
        have := rn_bsn_st (N := N) (r := r) (n := j) ((rn_o N r 5 + 1).toNat - j) (fun j' j1 j2 z => by have := (rn_why0.mp z).1; omega)
        rw [show j + ((rn_o N r 5 + 1).toNat - j) = (rn_o N r 5 + 1).toNat by omega] at this
        rw [this] at k
        exact k
      · intro c; omega
    | succ m ih =>
      intro j y w hj hy
      have hb := rn_bsn_r (N := N) r j
      have e : ((j + 1 : Nat) : Int) = (j : Int) + 1 := by omega
      refine rb_Ju_bestStartAsNoted_9 hM pr ?_ ?_ ?_ <;> rw [hr.2.2.1, hr.2.2.2.1]
      · omega
      · intro c; omega
      · intro _
        refine rs_costOf hM pr hr vr (by omega) (by omega) ?_
        have skip : ¬ (rn_why N r j (rn_o N r 1) (-9) = 0 ∧ (rn_bsn N r j = -9 ∨ rn_cost N r j < rn_cost N r (rn_bsn N r j))) → rn_WP 33 9 [rn_R 462, rn_R b, rn_R (b + 4 + 5 * r.toNat), rn_I (rn_bsn N r j), rn_I y, rn_I ((j : Int) + 1), rn_I (rn_cost N r j)] [] M Q := by
          intro c
          have e2 : rn_bsn N r (j + 1) = rn_bsn N r j := rn_pick_f c _ _
          have := ih (j + 1) y (rn_I (rn_cost N r j)) (by omega) (by rw [e2]; exact hy)
          rw [e2, e] at this
          exact this
        have take : (rn_bsn N r j = -9 ∨ rn_cost N r j < rn_cost N r (rn_bsn N r j)) → rn_ME 31 [rn_R 462, rn_R (b + 4 + 5 * r.toNat), rn_I (j : Int)] M (fun q M1 => rn_WP 33 50 [rn_R 462, rn_R b, rn_R (b + 4 + 5 * r.toNat), rn_I (rn_bsn N r j), rn_I y, rn_I (j : Int), rn_I (rn_cost N r j)] (q.toList ++ []) M1 Q) := by
          intro c
          refine rs_rivalRank hM p h v h0 h1 (by omega) (by omega) hn (fun y2 y0 y9 hy2 => ?_)
          refine rb_Ju_bestStartAsNoted_50 hM pr ?_ ?_ ?_ <;> rw [hr.1]
          · omega
          · intro c2
            refine rs_isCrowded hM p h v h0 h1 (by omega) ?_
            rw [rn_b_iff (rn_cr_neg (by omega))]
            refine rb_Ju_bestStartAsNoted_66 ?_ ?_ ?_ ?_
            · omega
            · omega
            · intro c3
              have w0 : rn_why N r j (rn_o N r 1) (-9) = 0 := rn_why0.mpr ⟨by omega, rn_b0 c3, fun x x1 x2 z => by have := (hy2 _ (by omega)).mpr ⟨x, x1, x2, z⟩; omega⟩
              have e2 : rn_bsn N r (j + 1) = j := rn_pick_t ⟨w0, c⟩ _ _
              have := ih (j + 1) (rn_cost N r j) (rn_I (rn_cost N r j)) (by omega) (by rw [e2]; intro _; rfl)
              rw [e2, e] at this
              exact this
            · intro c3
              exact skip (fun z => (rn_why0.mp z.1).2.1 (rn_b1 c3))
          · intro c2
            refine skip (fun z => ?_)
            obtain ⟨x, x1, x2, x3⟩ := (hy2 _ (by omega)).mp (by omega : rn_o N r 1 ≤ y2)
            exact (rn_why0.mp z.1).2.2 x x1 x2 x3
        refine rb_Ju_bestStartAsNoted_28 hM ?_ ?_ ?_ ?_
        · omega
        · intro q; exact take (Or.inl q)
        · intro q c; rw [hy q] at c; exact take (Or.inr c)
        · intro q c; rw [hy q] at c; exact skip (fun z => z.2.elim q c)
  exact loop (rn_o N r 5 + 1 - rn_o N r 0 + 1).toNat 0 0 _ (by omega) (fun q => absurd rfl q)
theorem rs_bestStart (hM : rn_sh M) (p : rn_isB b) (h : rn_Rp M b N) (v : rn_vd N) {r : Int} (h0 : 0 ≤ r) (h1 : r < N 0) (k : ∀ M', rn_ch rn_P3 M M' → Q (some (rn_I (rn_best N r))) M') : rn_ME 32 [rn_R 462, rn_R b, rn_R (b + 4 + 5 * r.toNat)] M Q := by
  refine re_Ju_bestStart (rb_Ju_bestStart_0 hM (rs_noteRivals hM p h v h0 h1 (fun M1 c1 c2 => ?_)))
  refine rb_Ju_bestStart_6 (rn_sh_ch c1 hM) (rs_bestStartAsNoted (rn_sh_ch c1 hM) p (rn_Rp_ch rn_P3_b c1 p v h) v h0 h1 c2 ?_)
  exact rb_Ju_bestStart_12 (k M1 c1)
/-- with the rank k one more label of r may stand somewhere; the smallest such rank -/
def rn_fits (N : Nat → Int) (r k : Int) : Prop := ∃ s : Int, 0 ≤ s ∧ s ≤ 60 ∧ rn_why N r s k (-9) = 0
def rn_lst (N : Nat → Int) (r y : Int) : Prop := (y = -9 ∧ ∀ k : Int, 1 ≤ k → k ≤ 9 → ¬ rn_fits N r k) ∨ (1 ≤ y ∧ y ≤ 9) ∧ rn_fits N r y ∧ ∀ k : Int, 1 ≤ k → k < y → ¬ rn_fits N r k
theorem rn_lst_u {r y z : Int} (h : rn_lst N r y) (g : rn_lst N r z) : y = z := by
  rcases h with ⟨h1, h2⟩ | ⟨h1, h2, h3⟩ <;> rcases g with ⟨g1, g2⟩ | ⟨g1, g2, g3⟩
  · omega
  · exact absurd g2 (h2 z g1.1 g1.2)
  · exact absurd h2 (g2 y h1.1 h1.2)
  · rcases Int.lt_trichotomy y z with q | q | q
    · exact absurd h2 (g3 y h1.1 q)
    · exact q
    · exact absurd g2 (h3 z g1.1 q)
theorem rs_leastRank (hM : rn_sh M) (p : rn_isB b) (h : rn_Rp M b N) (v : rn_vd N) {r : Int} (h0 : 0 ≤ r) (h1 : r < N 0) (k : ∀ y M', rn_ch rn_P3 M M' → rn_lst N r y → Q (some (rn_I y)) M') : rn_ME 34 [rn_R 462, rn_R b, rn_R (b + 4 + 5 * r.toNat)] M Q := by
  have pr := rn_isR_i p v h0 h1
  have vr := v.2.2.2.2.1 r h0 h1
  have v5 := vr.2.2.2.1
  have v0 := vr.1
  refine re_Ju_leastRank (rb_Ju_leastRank_0 hM (rs_noteRivals hM p h v h0 h1 (fun M1 c1 c2 => ?_)))
  have hM1 := rn_sh_ch c1 hM
  have h' := rn_Rp_ch rn_P3_b c1 p v h
  have hr := h'.2.2.1 r h0 h1
  refine rb_Ju_leastRank_6 ?_
  have loop : ∀ (m j : Nat) (y : Int), m + j = (rn_o N r 5 + 1 - rn_o N r 0 + 1).toNat → 1 ≤ y → y ≤ 10 → (∀ z : Int, 1 ≤ z → z ≤ 9 → (y ≤ z ↔ ∃ s : Int, 0 ≤ s ∧ s < j ∧ rn_why N r s z (-9) = 0)) → rn_WP 34 12 [rn_R 462, rn_R b, rn_R (b + 4 + 5 * r.toNat), rn_I y, rn_I (j : Int)] [] M1 Q := by
    intro m
    induction m with
    | zero =>
      intro j y hj y1 y9 hy
      have fit : ∀ z : Int, 1 ≤ z → z ≤ 9 → (y ≤ z ↔ rn_fits N r z) := by
        intro z z1 z9
        rw [hy z z1 z9]
        constructor
        · rintro ⟨s, s1, s2, s3⟩; exact ⟨s, s1, by omega, s3⟩
        · rintro ⟨s, s1, s2, s3⟩; exact ⟨s, s1, by have := (rn_why0.mp s3).1; omega, s3⟩
      refine rb_Ju_leastRank_12 hM1 pr ?_ ?_ ?_ ?_ <;> rw [hr.2.2.1, hr.2.2.2.1]
      · omega
      · intro _ c
        refine k _ M1 c1 (Or.inl ⟨rfl, fun z z1 z9 q => ?_⟩)
        have := (fit z z1 z9).mpr q
        omega
      · intro _ c
        refine k _ M1 c1 (Or.inr ⟨c, (fit y c.1 c.2).mp (Int.le_refl _), fun z z1 z9 q => ?_⟩)
        have := (fit z z1 (by omega)).mpr q
        omega
      · intro c; omega
    | succ m ih =>
      intro j y hj y1 y9 hy
      have e : ((j + 1 : Nat) : Int) = (j : Int) + 1 := by omega
      refine rb_Ju_leastRank_12 hM1 pr ?_ ?_ ?_ ?_ <;> rw [hr.2.2.1, hr.2.2.2.1]
      · omega
      · intro c; omega
      · intro c; omega
      · intro _
        refine rs_isCrowded hM1 p h' v h0 h1 (by omega) ?_
        rw [rn_b_iff (rn_cr_neg (by omega))]
        have next : ∀ y2 : Int, 1 ≤ y2 → y2 ≤ 10 → (∀ z : Int, 1 ≤ z → z ≤ 9 → (y2 ≤ z ↔ (y ≤ z ∨ rn_why N r j z (-9) = 0))) → rn_WP 34 12 [rn_R 462, rn_R b, rn_R (b + 4 + 5 * r.toNat), rn_I y2, rn_I ((j : Int) + 1)] [] M1 Q := by
          intro y2 g1 g2 g3
          have := ih (j + 1) y2 (by omega) g1 g2 (fun z z1 z9 => ?_)
          · rw [e] at this; exact this
          · rw [g3 z z1 z9, hy z z1 z9]
            constructor
            · rintro (⟨s, s1, s2, s3⟩ | q)
              · exact ⟨s, s1, by omega, s3⟩
              · exact ⟨j, by omega, by omega, q⟩
            · rintro ⟨s, s1, s2, s3⟩
              rcases Int.lt_or_le s j with q | q
              · exact Or.inl ⟨s, s1, q, s3⟩
              · have : s = j := by omega
                subst this
                exact Or.inr s3
        refine rb_Ju_leastRank_34 hM1 ?_ ?_ ?_
        · omega
        · intro c3
          refine rs_rivalRank hM1 p h' v h0 h1 (by omega) (by omega) c2 (fun y2 g0 g9 gy => ?_)
          refine rb_Ju_leastRank_45 ?_ ?_
          · omega
          · refine next _ (by omega) (by omega) (fun z z1 z9 => ?_)
            have iff : rn_why N r j z (-9) = 0 ↔ y2 + 1 ≤ z := by
              rw [rn_why0]
              constructor
              · rintro ⟨_, _, q⟩
                rcases Int.lt_or_le y2 z with c | c
                · exact c
                · obtain ⟨x, x1, x2, x3⟩ := (gy z z1).mp c
                  exact absurd x3 (q x x1 x2)
              · intro q
                exact ⟨by omega, rn_b0 c3, fun x x1 x2 z => by have := (gy _ z1).mpr ⟨x, x1, x2, z⟩; omega⟩
            rw [iff]; omega
        · intro c3
          exact next y y1 y9 (fun z z1 z9 => ⟨Or.inl, fun q => q.elim id (fun q => absurd (rn_b1 c3) (rn_why0.mp q).2.1)⟩)
  exact loop (rn_o N r 5 + 1 - rn_o N r 0 + 1).toNat 0 10 (by omega) (by omega) (by omega) (fun z z1 z9 => ⟨fun c => by omega, fun ⟨s, s1, s2, _⟩ => by omega⟩)
/-- the label l may not stand any more -/
def rn_mf (N : Nat → Int) (l : Int) : Prop := rn_why N (rn_lb N l 0) (rn_lb N l 1) (rn_o N (rn_lb N l 0) 1) l ≠ 0
theorem rs_isMisfit (hM : rn_sh M) (p : rn_isB b) (h : rn_Rp M b N) (v : rn_vd N) {l : Int} (h0 : 0 ≤ l) (h1 : l < N 2) (k : Q (some (rn_I (rn_b (rn_mf N l)))) M) : rn_ME 37 [rn_R 462, rn_R b, rn_I l] M Q := by
  have vl := v.2.2.2.2.2.2 l h0 h1
  refine re_Ju_isMisfit (rb_Ju_isMisfit_0 hM p (rs_labelAt hM p h v (fun q q0 q1 hq => ?_) (fun c => by omega)))
  have go := rn_Lb_go hq
  refine rb_Ju_isMisfit_5s hM hq.1 ?_ ?_
  · rw [go]; exact hq.2.1
  · rw [go, hq.2.2]
    refine rs_reasonAgainst hM p h v vl.1.1 vl.1.2 vl.2.1 (fun _ => rfl) ?_
    exact rb_Ju_isMisfit_24 (fun c => rn_kf (fun z => z c) k) (fun c => rn_kt c k)
theorem rs_misfits (hM : rn_sh M) (p : rn_isB b) (h : rn_Rp M b N) (v : rn_vd N) (k : Q (some (rn_I (rn_card (fun l => rn_mf N l) (N 2).toNat))) M) : rn_ME 38 [rn_R 462, rn_R b] M Q := by
  have e2 := h.1.2.2.1
  have w2 := v.2.2.1
  refine re_Ju_misfits (rb_Ju_misfits_0 ?_)
  have loop : ∀ (m j : Nat), m + j = (N 2).toNat → rn_WP 38 4 [rn_R 462, rn_R b, rn_I (rn_card (fun l => rn_mf N l) j), rn_I (j : Int)] [] M Q := by
    intro m
    induction m with
    | zero =>
      intro j hj
      refine rb_Ju_misfits_4 hM p ?_ ?_ <;> rw [e2]
      · intro c; omega
      · intro _; rw [Nat.zero_add] at hj; rw [← hj] at k; exact k
    | succ m ih =>
      intro j hj
      have hc := rn_card_r (fun l => rn_mf N l) j
      have e : ((j + 1 : Nat) : Int) = (j : Int) + 1 := by omega
      refine rb_Ju_misfits_4 hM p ?_ ?_ <;> rw [e2]
      · intro c
        refine rs_isMisfit hM p h v (by omega) c ?_
        have := ih (j + 1) (by omega)
        unfold rn_card at this
        rw [e] at this
        refine rb_Ju_misfits_18 ?_ ?_ ?_ ?_
        · omega
        · omega
        · intro c; rw [c, Int.add_zero] at this; exact this
        · intro c; rw [rn_bt (rn_b1 c)] at this; exact this
      · intro c; omega
  exact loop (N 2).toNat 0 (by omega)
end JDG
