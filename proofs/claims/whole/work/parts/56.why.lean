/-! the reference: why -/
section WHY
variable {M : rn_M} {Q : rn_Q} {N : Nat → Int} {r s B : Int}
theorem rn_PW_Q : ∀ a, rn_PW a → rn_PQ a := fun a h => Or.inr (rn_PW_K a h)
theorem rn_PW_66 : ¬ rn_PW 466 := fun h => by unfold rn_PW at h; omega
theorem rn_PW_72 : ¬ rn_PW 472 := fun h => by unfold rn_PW at h; omega
theorem rn_Mk_PW {M' : rn_M} {S : Nat → Prop} (c : rn_ch rn_PW M M') (h : rn_Mk M S) : rn_Mk M' S := by
  unfold rn_Mk; rw [c.2.2 472 rn_PW_72, c.2.2 466 rn_PW_66]; exact h
theorem rn_ma_PW {M' : rn_M} (c : rn_ch rn_PW M M') (h : rn_ma M B) : rn_ma M' B := by
  unfold rn_ma; rw [c.2.2 472 rn_PW_72, c.2.2 466 rn_PW_66]; exact h
theorem rm_why (hM : rn_sh M) (hN : rn_gi M 467 = N) (v : rn_vd N) (r0 : 0 ≤ r) (r1 : r < N 0) (s0 : 0 ≤ s ∧ s ≤ 60) {rank but : Int} (ma : rn_ma M B) (hB : B ≤ 2000000000) (k : ∀ M', rn_ch rn_PQ M M' → (∀ j, j ≠ 8 → rn_gi M' 466 j = rn_gi M 466 j) → rn_ma M' (B + 1) → Q (some (rn_I (rn_why N r s rank but))) M') : rn_ME 158 [rn_R 466, rn_I r, rn_I s, rn_I rank, rn_I but] M Q := by
  have v0 := v.1
  have v1 := v.2.1
  have v2 := v.2.2.1
  have v3 := v.2.2.2.1
  have vr := v.2.2.2.2.1 r r0 r1
  have vr0 := vr.1
  have vr5 := vr.2.2.2.1
  have kM := k M rn_ch_rf (fun _ _ => rfl) ⟨ma.1, ma.2.1, by have := ma.2.2; omega⟩
  unfold rn_why at k kM
  refine re_Mo_why (rb_Mo_why_0 hM ?_ ?_ ?_) <;> rw [hN]
  · omega
  · intro c; rw [rn_pick_f c] at kM; exact kM
  · intro c1
    simp only [rn_pick_t c1] at k kM
    have e0 : ∀ l : Int, N (522 + 2 * l).toNat = rn_lb N l 0 := fun l => by unfold rn_lb; rw [Int.add_zero]
    have e1 : ∀ l : Int, N (522 + 2 * l + 1).toNat = rn_lb N l 1 := fun l => rfl
    have e4 : ∀ t : Int, N (472 + 5 * t + 4).toNat = rn_tw N t 4 := fun t => rfl
    have loop1 : ∀ (m : Nat) (i : Int) (w7 w8 : rn_V), i + m = N 2 → 0 ≤ i → (∀ l : Int, 0 ≤ l → l < i → ¬ (l ≠ but ∧ rn_lb N l 0 = r ∧ s - rn_lb N l 1 < rn_o N r 0 + N 3 ∧ rn_lb N l 1 - s < rn_o N r 0 + N 3)) → rn_WP 158 24 [rn_R 466, rn_I r, rn_I s, rn_I rank, rn_I but, rn_I (rn_o N r 0), rn_I i, w7, w8] [] M Q := by
      intro m
      induction m with
      | zero =>
        intro i w7 w8 hi i0 no
        have ncr : ¬ rn_cr N r s but := fun ⟨l, l0, l1, l2⟩ => no l l0 (by omega) l2
        simp only [rn_pick_f ncr] at k
        refine rb_Mo_why_24 hM ?_ ?_ ?_ ?_ ?_ ?_ ?_ ?_ ?_ ?_ ?_ ?_ ?_ ?_ ?_ <;> rw [hN]
        · intro c; omega
        · intro c; omega
        · intro c; omega
        · intro c; omega
        · intro c; omega
        · intro c; omega
        · intro c; omega
        · intro c; omega
        · intro c; omega
        · intro c; omega
        · intro c; omega
        · intro c; omega
        · intro c; omega
        · intro c; omega
        · intro _
          refine rm_marks hM hN vr (by omega) s0.1 c1 ma hB (fun M2 c2 e2 ma2 mk2 => rb_Mo_why_117 ?_)
          have hN2 := rn_N_ch c2 rn_PQ_467 hN
          have hM2 := rn_sh_ch c2 hM
          have loop3 : ∀ (m : Nat) (i : Int) (M3 : rn_M) (w6 w8 : rn_V), i + m = N 2 → 0 ≤ i → rn_ch rn_PW M2 M3 → ¬ rn_w3 N r s rank → (∀ l : Int, 0 ≤ l → l < i → ¬ (l ≠ but ∧ rn_lb N l 0 ≠ r ∧ rank ≤ rn_o N (rn_lb N l 0) 1 ∧ rn_ml' N r s l)) → rn_WP 158 172 [rn_R 466, rn_I r, rn_I s, rn_I rank, rn_I but, rn_I (rn_o N r 0), w6, rn_I i, w8] [] M3 Q := by
            intro m
            induction m with
            | zero =>
              intro i M3 w6 w8 hi i0 c3 n3 no4
              have hN3 := rn_N_ch c3 rn_PW_467 hN2
              have n4 : ¬ rn_w4 N r s rank but := fun ⟨l, l0, l1, l2⟩ => no4 l l0 (by omega) l2
              refine rb_Mo_why_172 (rn_sh_ch c3 hM2) ?_ ?_ ?_ ?_ ?_ ?_ ?_ ?_ ?_ ?_ <;> rw [hN3]
              · intro c; omega
              · intro c; omega
              · intro c; omega
              · intro c; omega
              · intro c; omega
              · intro c; omega
              · intro c; omega
              · intro c; omega
              · intro c; omega
              · intro _
                have := k M3 (rn_ch_tr c2 (rn_ch_mono rn_PW_Q c3)) (fun j hj => by rw [c3.2.2 466 rn_PW_66]; exact e2 j hj) (rn_ma_PW c3 ma2)
                rw [rn_pick_f n3, rn_pick_f n4] at this
                exact this
            | succ m ih =>
              intro i M3 w6 w8 hi i0 c3 n3 no4
              have hN3 := rn_N_ch c3 rn_PW_467 hN2
              have vl := v.2.2.2.2.2.2 i i0 (by omega)
              have vl1 := vl.1
              have vq := v.2.2.2.2.1 _ vl.1.1 vl.1.2
              have next : ∀ (M4 : rn_M) (w8 : rn_V), rn_ch rn_PW M2 M4 → ¬ (i ≠ but ∧ rn_lb N i 0 ≠ r ∧ rank ≤ rn_o N (rn_lb N i 0) 1 ∧ rn_ml' N r s i) → rn_WP 158 172 [rn_R 466, rn_I r, rn_I s, rn_I rank, rn_I but, rn_I (rn_o N r 0), w6, rn_I (i + 1), w8] [] M4 Q := by
                intro M4 w8 c4 n4
                refine ih (i + 1) M4 _ _ (by omega) (by omega) c4 n3 (fun l l0 l1 => ?_)
                rcases Int.lt_or_le l i with q | q
                · exact no4 l l0 q
                · rw [show l = i by omega]; exact n4
              refine rb_Mo_why_172 (rn_sh_ch c3 hM2) ?_ ?_ ?_ ?_ ?_ ?_ ?_ ?_ ?_ ?_ <;> rw [hN3] <;> (try rw [e0])
              · intro _; omega
              · intro _ _; omega
              · intro _ _ _; omega
              · intro _ _ _; omega
              · intro _ _ _ _; omega
              · intro _ c; exact next M3 _ c3 (fun z => z.1 c)
              · intro _ _ c; exact next M3 _ c3 (fun z => z.2.1 c)
              · intro _ _ _ c; exact next M3 _ c3 (fun z => by have := z.2.2.1; omega)
              · intro _ b1 b2 b3
                refine rm_meetsLabel (rn_sh_ch c3 hM2) hN3 (by omega) vl (by omega) vq (rn_Mk_PW c3 mk2) (fun M4 c4 => ?_)
                rw [rn_b_iff (rn_geo_ml vr vl vq s0.1 c1)]
                refine rb_Mo_why_228 (fun _ => by omega) (fun z => next M4 _ (rn_ch_tr c3 c4) (fun q => rn_b0 z q.2.2.2)) (fun z => ?_)
                have := k M4 (rn_ch_tr c2 (rn_ch_mono rn_PW_Q (rn_ch_tr c3 c4))) (fun j hj => by rw [(rn_ch_tr c3 c4).2.2 466 rn_PW_66]; exact e2 j hj) (rn_ma_PW (rn_ch_tr c3 c4) ma2)
                rw [rn_pick_f n3, rn_pick_t ⟨i, i0, by omega, b1, b2, by omega, rn_b1 z⟩] at this
                exact this
              · intro c; omega
          have loop2 : ∀ (m : Nat) (t : Int) (w6 w8 : rn_V), t + m = N 1 → 0 ≤ t → (∀ t' : Int, 0 ≤ t' → t' < t → ¬ (rank ≤ rn_tw N t' 4 ∧ rn_mt' N r s t')) → rn_WP 158 122 [rn_R 466, rn_I r, rn_I s, rn_I rank, rn_I but, rn_I (rn_o N r 0), w6, rn_I t, w8] [] M2 Q := by
            intro m
            induction m with
            | zero =>
              intro t w6 w8 ht t0 no3
              refine rb_Mo_why_122 hM2 ?_ ?_ ?_ ?_ ?_ <;> rw [hN2]
              · intro c; omega
              · intro c; omega
              · intro c; omega
              · intro c; omega
              · intro _
                exact loop3 (N 2).toNat 0 M2 _ _ (by omega) (Int.le_refl _) rn_ch_rf (fun ⟨t', a, b, c⟩ => no3 t' a (by omega) c) (fun l l0 l1 => by omega)
            | succ m ih =>
              intro t w6 w8 ht t0 no3
              have vt := v.2.2.2.2.2.1 t t0 (by omega)
              have next : ¬ (rank ≤ rn_tw N t 4 ∧ rn_mt' N r s t) → rn_WP 158 122 [rn_R 466, rn_I r, rn_I s, rn_I rank, rn_I but, rn_I (rn_o N r 0), w6, rn_I (t + 1), w8] [] M2 Q := by
                intro n3
                refine ih (t + 1) _ _ (by omega) (by omega) (fun l l0 l1 => ?_)
                rcases Int.lt_or_le l t with q | q
                · exact no3 l l0 q
                · rw [show l = t by omega]; exact n3
              refine rb_Mo_why_122 hM2 ?_ ?_ ?_ ?_ ?_ <;> rw [hN2] <;> (try rw [e4])
              · intro _; omega
              · intro _ _; omega
              · intro _ c; exact next (fun z => by have := z.1; omega)
              · intro _ c
                refine rm_meetsTown hM2 hN2 (by omega) vt mk2 ?_
                rw [rn_b_iff (rn_geo_t vr vt s0.1 c1)]
                refine rb_Mo_why_158 (fun _ => by omega) (fun z => next (fun q => rn_b0 z q.2)) (fun z => ?_)
                have := k M2 c2 e2 ma2
                rw [rn_pick_t ⟨t, t0, by omega, by omega, rn_b1 z⟩] at this
                exact this
              · intro c; omega
          exact loop2 (N 1).toNat 0 _ _ (by omega) (Int.le_refl _) (fun t' a b => by omega)
      | succ m ih =>
        intro i w7 w8 hi i0 no
        have vl := v.2.2.2.2.2.2 i i0 (by omega)
        have vl1 := vl.2.1
        have next : ∀ w7 : rn_V, ¬ (i ≠ but ∧ rn_lb N i 0 = r ∧ s - rn_lb N i 1 < rn_o N r 0 + N 3 ∧ rn_lb N i 1 - s < rn_o N r 0 + N 3) → rn_WP 158 24 [rn_R 466, rn_I r, rn_I s, rn_I rank, rn_I but, rn_I (rn_o N r 0), rn_I (i + 1), w7, w8] [] M Q := by
          intro w7 n1
          refine ih (i + 1) _ _ (by omega) (by omega) (fun l l0 l1 => ?_)
          rcases Int.lt_or_le l i with q | q
          · exact no l l0 q
          · rw [show l = i by omega]; exact n1
        have two : i ≠ but → rn_lb N i 0 = r → s - rn_lb N i 1 < rn_o N r 0 + N 3 → rn_lb N i 1 - s < rn_o N r 0 + N 3 → Q (some (rn_I 2)) M := fun a b c d => by
          rw [rn_pick_t ⟨i, i0, by omega, a, b, c, d⟩] at kM; exact kM
        refine rb_Mo_why_24 hM ?_ ?_ ?_ ?_ ?_ ?_ ?_ ?_ ?_ ?_ ?_ ?_ ?_ ?_ ?_ <;> rw [hN] <;> (try rw [e1]) <;> (try rw [e0])
        · intro _; omega
        · intro _ _; omega
        · intro _ _; omega
        · intro _ _ _ _; omega
        · intro _ _ _ _ _; omega
        · intro _ _ _ _; omega
        · intro _ _ _ _ _; omega
        · intro _ _ _; omega
        · intro _ c; exact next _ (fun z => z.1 c)
        · intro _ a b c d; exact two a b (by omega) (by omega)
        · intro _ a b c d; exact next _ (fun z => by omega)
        · intro _ a b c d; exact two a b (by omega) (by omega)
        · intro _ a b c d; exact next _ (fun z => by omega)
        · intro _ a b; exact next _ (fun z => b z.2.1)
        · intro c; omega
    exact loop1 (N 2).toNat 0 _ _ (by omega) (Int.le_refl _) (fun l l0 l1 => by omega)
end WHY
