/-! the reference: its public questions -/
section ASK
variable {M : rn_M} {Q : rn_Q} {N : Nat → Int} {n B : Int} {K : Nat → Nat → Int}
theorem rn_kq {a : Int} (h : rn_Ms M N n K B) (k : ∀ M', rn_fm M M' → rn_Ms M' N n K (B + 20000) → Q (some (rn_I a)) M') {M1 : rn_M} (c : rn_fq M M1) (m : rn_ma M1 (B + 20000)) : Q (some (rn_I a)) M1 := by
  have f := rn_Ms_fq c m h
  exact k M1 f.2 f.1
theorem rp_count (hM : rn_sh M) (h : rn_Ms M N n K B) (v : rn_vd N) (hB : B ≤ 1000000000) {what : Int} (k : ∀ M', rn_fm M M' → rn_Ms M' N n K (B + 20000) → Q (some (rn_I (rn_aCount N n (rn_gi M 466 4) what))) M') : rn_ME 174 [rn_R 466, rn_I what] M Q := by
  have hN := h.1
  have hm := h.2.2.2
  have k' := @rn_kq M Q N n B K (rn_aCount N n (rn_gi M 466 4) what) h k
  have k0 := k' rn_fq_rf (rn_ma_le hm (by omega))
  clear k
  unfold rn_aCount at k' k0
  refine re_Mo_count (rb_Mo_count_0 hM ?_ ?_ ?_ ?_ ?_ ?_ ?_ ?_ ?_ ?_ ?_ ?_ ?_ ?_ ?_) <;> (try rw [hN])
  · omega
  · omega
  · omega
  · omega
  · intro c; rw [if_pos c] at k0; exact k0
  · intro c; subst c; exact k0
  · intro c; subst c; exact k0
  · intro c; subst c; exact k0
  · intro c; subst c; exact k0
  · intro c; subst c; exact rm_costs hM hN v (rb_Mo_count_67 k0)
  · intro c; subst c; exact rm_wrong hM hN v hm (by omega) (fun M' c1 e1 m1 => rb_Mo_count_72 (k' ⟨c1, e1⟩ (rn_ma_le m1 (by omega))))
  · intro c; subst c; exact rm_without hM hN v (rb_Mo_count_77 k0)
  · intro c; subst c; exact rm_covered hM hN v hm (by omega) (fun M' c1 m1 => rb_Mo_count_82 (k' c1 (rn_ma_le m1 (by omega))))
  · intro c; subst c; rw [h.2.1]; exact k0
  · intro c; subst c; exact k0
theorem rp_river (hM : rn_sh M) (h : rn_Ms M N n K B) (v : rn_vd N) (hB : B ≤ 1000000000) {r what : Int} (k : ∀ M', rn_fm M M' → rn_Ms M' N n K (B + 20000) → Q (some (rn_I (rn_aRiver N r what))) M') : rn_ME 176 [rn_R 466, rn_I r, rn_I what] M Q := by
  have hN := h.1
  have hm := h.2.2.2
  have v0 := v.1
  have v2 := v.2.2.1
  have k' := @rn_kq M Q N n B K (rn_aRiver N r what) h k
  have k0 := k' rn_fq_rf (rn_ma_le hm (by omega))
  clear k
  unfold rn_aRiver at k' k0
  have vr : 0 ≤ r ∧ r ≤ N 0 - 1 → rn_vR N r := fun c => v.2.2.2.2.1 r c.1 (by omega)
  refine re_Mo_river (rb_Mo_river_0 hM ?_ ?_ ?_ ?_ ?_ ?_ ?_ ?_ ?_ ?_ ?_ ?_ ?_ ?_ ?_) <;> (try rw [hN])
  · omega
  · intro c _ _; have := (vr c).2.2.2.1; omega
  · intro c _ _; omega
  · intro c _ _; omega
  · intro c _ _; omega
  · intro c _ _; omega
  · intro c; rw [if_pos (by omega)] at k0; exact k0
  · intro _ c; rw [if_pos (by omega)] at k0; exact k0
  · intro c c2 c3
    have vr := vr c
    have v5 := vr.2.2.2.1
    have e : what = 6 := by omega
    subst e
    rw [if_neg (by omega)] at k0
    exact rm_bendOf hM hN vr (by omega) (by omega) (by omega) (by omega) (rb_Mo_river_114 k0)
  · intro c c2 c3; subst c3; rw [if_neg (by omega)] at k0; exact k0
  · intro c c2 c3; subst c3; rw [if_neg (by omega)] at k0; exact k0
  · intro c c2 c3; subst c3; rw [if_neg (by omega)] at k0; exact k0
  · intro c c2 c3; subst c3; rw [if_neg (by omega)] at k0; exact k0
  · intro c c2 c3; subst c3; rw [if_neg (by omega)] at k0; exact rm_labelsOf hM hN v2 (rb_Mo_river_93 k0)
  · intro c c2 c3; subst c3; rw [if_neg (by omega)] at k'; exact rm_differentCells hM hN (vr c) (by omega) hm (by omega) (fun M' c1 m1 => rb_Mo_river_99 (k' c1 (rn_ma_le m1 (by omega))))
theorem rp_cell (hM : rn_sh M) (h : rn_Ms M N n K B) (v : rn_vd N) {r x : Int} (k : ∀ M', rn_fm M M' → rn_Ms M' N n K (B + 20000) → Q (some (rn_I (rn_aCell N r x))) M') : rn_ME 177 [rn_R 466, rn_I r, rn_I x] M Q := by
  have hN := h.1
  have hm := h.2.2.2
  have v0 := v.1
  have k' := @rn_kq M Q N n B K (rn_aCell N r x) h k
  have k0 := k' rn_fq_rf (rn_ma_le hm (by omega))
  clear k
  unfold rn_aCell at k' k0
  refine re_Mo_cell (rb_Mo_cell_0 hM ?_ ?_ ?_ ?_) <;> (try rw [hN])
  · omega
  · intro c; rw [if_pos (by omega)] at k0; exact k0
  · intro _ c; rw [if_pos (by omega)] at k0; exact k0
  · intro c c2
    have vr := v.2.2.2.2.1 r c.1 (by omega)
    have v5 := vr.2.2.2.1
    refine rm_walks hM hN vr (by omega) (fun M1 c1 w1 => ?_)
    have hN1 := rn_N_ch c1 rn_PW_467 hN
    have k1 := k' (rn_fq_PW c1) (rn_ma_le (rn_ma_PW c1 hm) (by omega))
    rw [if_neg (by omega)] at k1
    refine rb_Mo_cell_22 (rn_sh_ch c1 hM) ?_ ?_ ?_ ?_ <;> (try rw [hN1])
    · omega
    · intro c3
      have w := w1 x c2.1 c3
      have vx := vr.2.2.2.2.2.2 x c2.1 c3
      rw [w.1, w.2]; omega
    · intro c3
      have w := w1 x c2.1 c3
      rw [if_pos c3] at k1
      rw [w.1, w.2]; exact k1
    · intro c3; rw [if_neg c3] at k1; exact k1
theorem rp_letter (hM : rn_sh M) (h : rn_Ms M N n K B) (v : rn_vd N) {r x : Int} (k : ∀ M', rn_fm M M' → rn_Ms M' N n K (B + 20000) → Q (some (rn_I (rn_aLetter N r x))) M') : rn_ME 178 [rn_R 466, rn_I r, rn_I x] M Q := by
  have hN := h.1
  have hm := h.2.2.2
  have v0 := v.1
  have k0 := @rn_kq M Q N n B K (rn_aLetter N r x) h k M rn_fq_rf (rn_ma_le hm (by omega))
  clear k
  unfold rn_aLetter at k0
  have vr : 0 ≤ r ∧ r ≤ N 0 - 1 → rn_vR N r := fun c => v.2.2.2.2.1 r c.1 (by omega)
  refine re_Mo_letter (rb_Mo_letter_0 hM ?_ ?_ ?_ ?_ ?_ ?_ ?_) <;> (try rw [hN])
  · omega
  · intro _ _; omega
  · intro c c2 c3; have := (vr c).1; omega
  · intro c; rw [if_pos (by omega)] at k0; exact k0
  · intro c c2 c3; rw [if_neg (by omega), if_pos c3] at k0; exact k0
  · intro c c2 c3; rw [if_neg (by omega), if_neg c3] at k0; exact k0
  · intro c c2; rw [if_pos (by omega)] at k0; exact k0
theorem rp_town (hM : rn_sh M) (h : rn_Ms M N n K B) (v : rn_vd N) (hB : B ≤ 1000000000) {t what : Int} (k : ∀ M', rn_fm M M' → rn_Ms M' N n K (B + 20000) → Q (some (rn_I (rn_aTown N t what))) M') : rn_ME 179 [rn_R 466, rn_I t, rn_I what] M Q := by
  have hN := h.1
  have hm := h.2.2.2
  have v1 := v.2.1
  have v0 := v.1
  have v2 := v.2.2.1
  have k' := @rn_kq M Q N n B K (rn_aTown N t what) h k
  have k0 := k' rn_fq_rf (rn_ma_le hm (by omega))
  clear k
  unfold rn_aTown at k' k0
  have e0 : ∀ l : Int, N (522 + 2 * l).toNat = rn_lb N l 0 := fun l => by unfold rn_lb; rw [Int.add_zero]
  have e1 : ∀ l : Int, N (522 + 2 * l + 1).toNat = rn_lb N l 1 := fun l => rfl
  refine re_Mo_town (rb_Mo_town_0 hM ?_ ?_ ?_ ?_ ?_ ?_) <;> (try rw [hN])
  · omega
  · intro _ _ _; omega
  · intro c; rw [if_pos (by omega)] at k0; exact k0
  · intro _ c; rw [if_pos (by omega)] at k0; exact k0
  · intro c c2 c3; rw [if_neg (by omega), if_pos c3] at k0; exact k0
  · intro c c2 c3
    simp only [if_neg (show ¬ (¬ (0 ≤ t ∧ t < N 1) ∨ what < 0 ∨ 5 < what) by omega), if_neg c3] at k'
    have vt := v.2.2.2.2.2.1 t c.1 (by omega)
    have loop : ∀ (m j : Nat) (M1 : rn_M) (w : rn_V), m + j = (N 2).toNat → rn_fq M M1 → rn_ma M1 (B + j) → rn_WP 179 44 [rn_R 466, rn_I t, rn_I what, rn_I (rn_card (fun l => rn_mt' N (rn_lb N l 0) (rn_lb N l 1) t) j), rn_I (j : Int), w] [] M1 Q := by
      intro m
      induction m with
      | zero =>
        intro j M1 w hj c1 m1
        have hN1 := rn_N_ch c1.1 rn_PQ_467 hN
        refine rb_Mo_town_44 (rn_sh_ch c1.1 hM) ?_ ?_ ?_ <;> (try rw [hN1])
        · intro z; omega
        · intro z; omega
        · intro _
          rw [Nat.zero_add] at hj
          rw [← hj] at k'
          exact k' c1 (rn_ma_le m1 (by omega))
      | succ m ih =>
        intro j M1 w hj c1 m1
        have hM1 := rn_sh_ch c1.1 hM
        have hN1 := rn_N_ch c1.1 rn_PQ_467 hN
        have e : ((j + 1 : Nat) : Int) = (j : Int) + 1 := by omega
        have hc := rn_card_r (fun l => rn_mt' N (rn_lb N l 0) (rn_lb N l 1) t) j
        have vl := v.2.2.2.2.2.2 (j : Int) (by omega) (by omega)
        have vl1 := vl.1
        have vr := v.2.2.2.2.1 _ vl.1.1 vl.1.2
        refine rb_Mo_town_44 hM1 ?_ ?_ ?_ <;> (try rw [hN1]) <;> (try rw [e0, e1])
        · intro _; omega
        · intro _
          refine rm_marks hM1 hN1 vr (by omega) vl.2.1.1 vl.2.2 m1 (by omega) (fun M2 c2 e2 m2 k2 => ?_)
          have hM2 := rn_sh_ch c2 hM1
          have hN2 := rn_N_ch c2 rn_PQ_467 hN1
          refine rb_Mo_town_87 hM2 (rm_meetsTown hM2 hN2 (by omega) vt k2 ?_)
          rw [rn_b_iff (rn_geo_t vr vt vl.2.1.1 vl.2.2)]
          have this := ih (j + 1) M2 (rn_I (rn_card (rn_ar N (rn_lb N j 0) (rn_lb N j 1)) 2400)) (by omega) (rn_fq_tr c1 ⟨c2, e2⟩) (rn_ma_le m2 (by omega))
          unfold rn_card at this
          rw [e] at this
          refine rb_Mo_town_95 ?_ ?_ ?_ ?_
          · omega
          · omega
          · intro z; rw [rn_bf (P := rn_mt' N (rn_lb N (j : Int) 0) (rn_lb N (j : Int) 1) t) (rn_b0 z)] at this; exact this
          · intro z; rw [rn_bt (P := rn_mt' N (rn_lb N (j : Int) 0) (rn_lb N (j : Int) 1) t) (rn_b1 z)] at this; exact this
        · intro z; omega
    exact loop (N 2).toNat 0 M _ (by omega) rn_fq_rf (rn_ma_le hm (by omega))
theorem rp_label (hM : rn_sh M) (h : rn_Ms M N n K B) (v : rn_vd N) (hB : B ≤ 1000000000) {l what : Int} (k : ∀ M', rn_fm M M' → rn_Ms M' N n K (B + 20000) → Q (some (rn_I (rn_aLabel N l what))) M') : rn_ME 181 [rn_R 466, rn_I l, rn_I what] M Q := by
  have hN := h.1
  have hm := h.2.2.2
  have v0 := v.1
  have v2 := v.2.2.1
  have k' := @rn_kq M Q N n B K (rn_aLabel N l what) h k
  have k0 := k' rn_fq_rf (rn_ma_le hm (by omega))
  clear k
  unfold rn_aLabel at k' k0
  have e0 : ∀ l : Int, N (522 + 2 * l).toNat = rn_lb N l 0 := fun l => by unfold rn_lb; rw [Int.add_zero]
  have e1 : ∀ l : Int, N (522 + 2 * l + 1).toNat = rn_lb N l 1 := fun l => rfl
  have vl : 0 ≤ l ∧ l ≤ N 2 - 1 → rn_vL N l := fun c => v.2.2.2.2.2.2 l c.1 (by omega)
  have vr : 0 ≤ l ∧ l ≤ N 2 - 1 → rn_vR N (rn_lb N l 0) := fun c => v.2.2.2.2.1 _ (vl c).1.1 (vl c).1.2
  refine re_Mo_label (rb_Mo_label_0 hM ?_ ?_ ?_ ?_ ?_ ?_ ?_ ?_ ?_ ?_ ?_ ?_ ?_) <;> (try rw [hN]) <;> (try rw [e0]) <;> (try rw [e1])
  · omega
  · intro _ _; omega
  · intro c _ _; have := (vl c).1; omega
  · intro c; rw [if_pos (by omega)] at k0; exact k0
  · intro _ c; rw [if_pos (by omega)] at k0; exact k0
  · intro c c2 c3
    have vl := vl c
    have vr := vr c
    have vl1 := vl.1
    have e : what = 7 := by omega
    subst e
    rw [if_neg (by omega)] at k'
    exact rm_townsOf hM hN v vr (by omega) vl.2.1.1 vl.2.2 hm (by omega) (fun M' c1 m1 => rb_Mo_label_156 (k' c1 (rn_ma_le m1 (by omega))))
  · intro c c2 c3; subst c3; rw [if_neg (by omega)] at k0; exact k0
  · intro c c2 c3; subst c3; rw [if_neg (by omega)] at k0; exact k0
  · intro c c2 c3
    have vl := vl c
    have vl1 := vl.1
    subst c3; rw [if_neg (by omega)] at k0
    exact rm_cost hM hN (vr c) (by omega) vl.2.1.1 vl.2.2 (rb_Mo_label_104 k0)
  · intro c c2 c3
    have vl := vl c
    have vl1 := vl.1
    have vr := vr c
    have vr0 := vr.1
    subst c3; rw [if_neg (by omega)] at k0
    exact rm_bendOf hM hN vr (by omega) vl.2.1.1 (by omega) vl.2.2 (rb_Mo_label_118 k0)
  · intro c c2 c3
    have vl := vl c
    have vl1 := vl.1
    subst c3; rw [if_neg (by omega)] at k'
    refine rm_isTurned hM hN (vr c) (by omega) vl.2.1.1 vl.2.2 (fun M' c1 => ?_)
    have k1 := k' (rn_fq_PW c1) (rn_ma_le (rn_ma_PW c1 hm) (by omega))
    exact rb_Mo_label_126 (fun z => rn_kf (rn_b0 z) k1) (fun z => rn_kt (rn_b1 z) k1)
  · intro c c2 c3
    have vl := vl c
    have vl1 := vl.1
    subst c3; rw [if_neg (by omega)] at k'
    exact rm_marks hM hN (vr c) (by omega) vl.2.1.1 vl.2.2 hm (by omega) (fun M' c1 e1 m1 _ => rb_Mo_label_142 (k' ⟨c1, e1⟩ (rn_ma_le m1 (by omega))))
  · intro c c2 c3
    subst c3; rw [if_neg (by omega)] at k'
    exact rm_whyLabel hM hN v c.1 (by omega) hm (by omega) (fun M' c1 e1 m1 => rb_Mo_label_148 (k' ⟨c1, e1⟩ (rn_ma_le m1 (by omega))))
theorem rp_bend (hM : rn_sh M) (h : rn_Ms M N n K B) (v : rn_vd N) {r s p : Int} (k : ∀ M', rn_fm M M' → rn_Ms M' N n K (B + 20000) → Q (some (rn_I (rn_aBend N r s p))) M') : rn_ME 184 [rn_R 466, rn_I r, rn_I s, rn_I p] M Q := by
  have hN := h.1
  have hm := h.2.2.2
  have v0 := v.1
  have k0 := @rn_kq M Q N n B K (rn_aBend N r s p) h k M rn_fq_rf (rn_ma_le hm (by omega))
  clear k
  unfold rn_aBend at k0
  have vr : 0 ≤ r ∧ r ≤ N 0 - 1 → rn_vR N r := fun c => v.2.2.2.2.1 r c.1 (by omega)
  refine re_Mo_bend (rb_Mo_bend_0 hM ?_ ?_ ?_ ?_ ?_ ?_ ?_) <;> (try rw [hN])
  · omega
  · intro c _ _; have := (vr c).2.2.2.1; omega
  · intro c; rw [if_pos (by omega)] at k0; exact k0
  · intro c c2; rw [if_pos (by omega)] at k0; exact k0
  · intro c c2 c3; rw [if_pos (by omega)] at k0; exact k0
  · intro c c2 c3 c4; rw [if_neg (by omega), if_neg c4] at k0; exact k0
  · intro c c2 c3 c4; rw [if_neg (by omega), if_pos c4] at k0; exact rm_bendOf hM hN (vr c) (by omega) c2.1 (by omega) c4 (rb_Mo_bend_44 k0)
theorem rp_straightest (hM : rn_sh M) (h : rn_Ms M N n K B) (v : rn_vd N) {r p : Int} (k : ∀ M', rn_fm M M' → rn_Ms M' N n K (B + 20000) → Q (some (rn_I (rn_aStraight N r p))) M') : rn_ME 185 [rn_R 466, rn_I r, rn_I p] M Q := by
  have hN := h.1
  have hm := h.2.2.2
  have v0 := v.1
  have k0 := @rn_kq M Q N n B K (rn_aStraight N r p) h k M rn_fq_rf (rn_ma_le hm (by omega))
  clear k
  unfold rn_aStraight at k0
  refine re_Mo_straightest (rb_Mo_straightest_0 hM ?_ ?_ ?_ ?_) <;> (try rw [hN])
  · omega
  · intro c; rw [if_pos (by omega)] at k0; exact k0
  · intro c c2; rw [if_pos (by omega)] at k0; exact k0
  · intro c c2
    rw [if_neg (by omega)] at k0
    have vr := v.2.2.2.2.1 r c.1 (by omega)
    have v5 := vr.2.2.2.1
    have loop : ∀ (m j : Nat), m + j = (rn_o N r 5 + 1 - p + 1).toNat → (rn_stn N r p j = -9 ∨ 0 ≤ rn_stn N r p j ∧ rn_stn N r p j < j) → rn_WP 185 26 [rn_R 466, rn_I r, rn_I p, rn_I (rn_stn N r p j), rn_I (j : Int)] [] M Q := by
      intro m
      induction m with
      | zero =>
        intro j hj _
        refine rb_Mo_straightest_26 hM ?_ ?_ ?_ ?_ ?_ <;> (try rw [hN])
        · omega
        · intro z; omega
        · intro _; rw [Nat.zero_add] at hj; rw [← hj] at k0; exact k0
        · intro z; omega
        · intro z; omega
      | succ m ih =>
        intro j hj hr
        have e : ((j + 1 : Nat) : Int) = (j : Int) + 1 := by omega
        have take : (rn_stn N r p j = -9 ∨ rn_bend N r j p < rn_bend N r (rn_stn N r p j) p) → rn_WP 185 26 [rn_R 466, rn_I r, rn_I p, rn_I (j : Int), rn_I ((j : Int) + 1)] [] M Q := by
          intro q
          have e2 : rn_stn N r p (j + 1) = j := rn_pick_t q _ _
          have := ih (j + 1) (by omega) (Or.inr (by rw [e2]; omega))
          rw [e2, e] at this
          exact this
        refine rb_Mo_straightest_26 hM ?_ ?_ ?_ ?_ ?_ <;> (try rw [hN])
        · omega
        · intro _ _; omega
        · intro z; omega
        · intro _ q; exact take (Or.inl q)
        · intro _ q
          refine rm_bendOf hM hN vr (by omega) (by omega) (by omega) (by omega) (rb_Mo_straightest_51 hM (rm_bendOf hM hN vr (by omega) (by omega) (by omega) (by omega) ?_))
          refine rb_Mo_straightest_58 ?_ ?_ ?_ ?_
          · intro _; omega
          · intro _; omega
          · intro z; exact take (Or.inr z)
          · intro z
            have e2 : rn_stn N r p (j + 1) = rn_stn N r p j := rn_pick_f (fun y => y.elim q z) _ _
            have := ih (j + 1) (by omega) (by rw [e2]; omega)
            rw [e2, e] at this
            exact this
    exact loop (rn_o N r 5 + 1 - p + 1).toNat 0 (by omega) (Or.inl rfl)
theorem rp_reason (hM : rn_sh M) (h : rn_Ms M N n K B) (v : rn_vd N) (hB : B ≤ 1000000000) {r s : Int} (k : ∀ M', rn_fm M M' → rn_Ms M' N n K (B + 20000) → Q (some (rn_I (rn_aReason N r s))) M') : rn_ME 186 [rn_R 466, rn_I r, rn_I s] M Q := by
  have hN := h.1
  have hm := h.2.2.2
  have v0 := v.1
  have k' := @rn_kq M Q N n B K (rn_aReason N r s) h k
  have k0 := k' rn_fq_rf (rn_ma_le hm (by omega))
  clear k
  unfold rn_aReason at k' k0
  refine re_Mo_reason (rb_Mo_reason_0 hM ?_ ?_ ?_ ?_ ?_) <;> (try rw [hN])
  · omega
  · intro _ _; omega
  · intro c; rw [if_pos (by omega)] at k0; exact k0
  · intro c c2; rw [if_pos (by omega)] at k0; exact k0
  · intro c c2
    rw [if_neg (by omega)] at k'
    exact rm_why hM hN v c.1 (by omega) c2 hm (by omega) (fun M' c1 e1 m1 => rb_Mo_reason_29 (k' ⟨c1, e1⟩ (rn_ma_le m1 (by omega))))
theorem rp_best (hM : rn_sh M) (h : rn_Ms M N n K B) (v : rn_vd N) (hB : B ≤ 1000000000) {r what : Int} (k : ∀ M', rn_fm M M' → rn_Ms M' N n K (B + 20000) → Q (some (rn_I (rn_aBest N r what))) M') : rn_ME 187 [rn_R 466, rn_I r, rn_I what] M Q := by
  have hN := h.1
  have hm := h.2.2.2
  have v0 := v.1
  have k' := @rn_kq M Q N n B K (rn_aBest N r what) h k
  have k0 := k' rn_fq_rf (rn_ma_le hm (by omega))
  clear k
  unfold rn_aBest at k' k0
  refine re_Mo_best (rb_Mo_best_0 hM ?_ ?_ ?_ ?_) <;> (try rw [hN])
  · omega
  · intro c; rw [if_pos (by omega)] at k0; exact k0
  · intro c c2; rw [if_pos (by omega)] at k0; exact k0
  · intro c c2
    refine rm_bestStart hM hN v c.1 (by omega) hm (by omega) (fun M1 c1 e1 m1 => ?_)
    have hM1 := rn_sh_ch c1 hM
    have hN1 := rn_N_ch c1 rn_PQ_467 hN
    have k1 := k' (M1 := M1) ⟨c1, e1⟩ (rn_ma_le m1 (by omega))
    rw [if_neg (by omega)] at k1
    refine rb_Mo_best_24 hM1 ?_ ?_ ?_
    · intro z; rw [if_pos (Or.inl z)] at k1; exact k1
    · intro _ z; rw [if_pos (Or.inr z)] at k1; exact k1
    · intro z z2
      rw [if_neg (fun y => y.elim z z2)] at k1
      have br := rn_best_r v c.1 (by omega) z
      exact rm_cost hM1 hN1 (v.2.2.2.2.1 r c.1 (by omega)) (by omega) br.1.1 br.2 (rb_Mo_best_45 k1)
end ASK
