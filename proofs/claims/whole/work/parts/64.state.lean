/-! the reference's state; records; place, tidy, undo; letters on cells; rankFor -/
def rn_fm (M M' : rn_M) : Prop := rn_ch (fun a => 466 ≤ a) M M' ∧ rn_gi M' 469 = rn_gi M 469 ∧ rn_gi M' 466 4 = rn_gi M 466 4
theorem rn_fm_rf {M : rn_M} : rn_fm M M := ⟨rn_ch_rf, rfl, rfl⟩
theorem rn_fm_tr {M M1 M2 : rn_M} (h : rn_fm M M1) (g : rn_fm M1 M2) : rn_fm M M2 := ⟨rn_ch_tr h.1 g.1, g.2.1.trans h.2.1, g.2.2.trans h.2.2⟩
/-- the reference holds the row N, n earlier ones K, its marks are at most B -/
def rn_Ms (M : rn_M) (N : Nat → Int) (n : Int) (K : Nat → Nat → Int) (B : Int) : Prop := rn_gi M 467 = N ∧ rn_gi M 466 2 = n ∧ rn_Pa M n K ∧ rn_ma M B
section STA
variable {M : rn_M} {Q : rn_Q} {N N' : Nat → Int} {n B B' : Int} {K : Nat → Nat → Int}
theorem rn_Ms_fq {M' : rn_M} (c : rn_fq M M') (m : rn_ma M' B') (h : rn_Ms M N n K B) : rn_Ms M' N n K B' ∧ rn_fm M M' := by
  obtain ⟨h1, h2, h3, h4⟩ := h
  have p : ∀ a, a = 467 ∨ a = 468 ∨ a = 469 → rn_gi M' a = rn_gi M a := fun a ha => c.1.2.2 a (fun z => by unfold rn_PQ rn_PK at z; omega)
  refine ⟨⟨(p 467 (by omega)).trans h1, (c.2 2 (by omega)).trans h2, fun i hi j hj => ?_, m⟩, rn_ch_mono (fun a z => by unfold rn_PQ rn_PK at z; omega) c.1, p 469 (by omega), c.2 4 (by omega)⟩
  rw [p 468 (by omega)]; exact h3 i hi j hj
theorem rn_Ms_67 {M' : rn_M} (c : rn_ch rn_P67 M M') (e : rn_gi M' 467 = N') (h : rn_Ms M N n K B) : rn_Ms M' N' n K B ∧ rn_fm M M' := by
  obtain ⟨h1, h2, h3, h4⟩ := h
  have p : ∀ a, a ≠ 467 → rn_gi M' a = rn_gi M a := fun a ha => c.2.2 a ha
  refine ⟨⟨e, by rw [p 466 (by omega)]; exact h2, fun i hi j hj => ?_, ?_⟩, rn_ch_mono (fun a z => by unfold rn_P67 at z; omega) c, p 469 (by omega), by rw [p 466 (by omega)]⟩
  · rw [p 468 (by omega)]; exact h3 i hi j hj
  · unfold rn_ma; rw [p 472 (by omega), p 466 (by omega)]; exact h4
theorem rm_rec (hM : rn_sh M) (h : rn_Ms M N n K B) (n0 : 0 ≤ n ∧ n ≤ 5) (k : ∀ M', rn_fm M M' → rn_Ms M' N (min (n + 1) 5) (rn_nK n K N) B → Q none M') : rn_ME 125 [rn_R 466] M Q := by
  refine rm_records hM h.1 h.2.1 n0 h.2.2.1 (fun M' c e g p => k M' ⟨rn_ch_mono (fun a z => by unfold rn_P68 at z; omega) c, c.2.2 469 (fun z => by unfold rn_P68 at z; omega), e 4 (by omega)⟩ ⟨rn_N_ch c rn_P68_467 h.1, g, p, ?_⟩)
  unfold rn_ma
  rw [c.2.2 472 (fun z => by unfold rn_P68 at z; omega), e 8 (by omega)]
  exact h.2.2.2
theorem rm_placeOn (hM : rn_sh M) (hN : rn_gi M 467 = N) (v : rn_vd N) {l x y : Int} (l0 : 0 ≤ l) (l1 : l < N 2) (k : ∀ M', rn_ch rn_PW M M' → Q (some (rn_I (rn_plo N (rn_lb N l 0) (rn_lb N l 1) x y))) M') : rn_ME 182 [rn_R 466, rn_I l, rn_I x, rn_I y] M Q := by
  have v0 := v.1
  have v2 := v.2.2.1
  have vl := v.2.2.2.2.2.2 l l0 l1
  have vl1 := vl.1
  have vl2 := vl.2.1
  have vl3 := vl.2.2
  have vr := v.2.2.2.2.1 _ vl.1.1 vl.1.2
  have vr0 := vr.1
  have vr5 := vr.2.2.2.1
  have e0 : N (522 + 2 * l).toNat = rn_lb N l 0 := by unfold rn_lb; rw [Int.add_zero]
  have e1 : N (522 + 2 * l + 1).toNat = rn_lb N l 1 := rfl
  refine re_Mo_placeOn (rb_Mo_placeOn_0 hM (by omega) ?_)
  rw [hN, e0, e1]
  refine rm_walks hM hN vr (by omega) (fun M1 c1 w1 => rb_Mo_placeOn_36 ?_)
  have hM1 := rn_sh_ch c1 hM
  have hN1 := rn_N_ch c1 rn_PW_467 hN
  have k := k M1 c1
  have loop : ∀ (m j : Nat), m + j = (rn_o N (rn_lb N l 0) 0).toNat → rn_pl N (rn_lb N l 0) (rn_lb N l 1) x y j = -9 → rn_WP 182 40 [rn_R 466, rn_I l, rn_I x, rn_I y, rn_I (rn_lb N l 0), rn_I (rn_lb N l 1), rn_I (rn_lb N l 1 + j)] [] M1 Q := by
    intro m
    induction m with
    | zero =>
      intro j hj hp
      refine rb_Mo_placeOn_40 hM1 ?_ ?_ ?_ ?_ ?_ ?_ ?_ ?_ ?_ <;> (try rw [hN1])
      · omega
      · intro c; omega
      · intro c; omega
      · intro c; omega
      · intro c; omega
      · intro c; omega
      · intro c; omega
      · intro c; omega
      · intro _
        unfold rn_plo at k
        rw [← hj, Nat.zero_add, hp] at k
        exact k
    | succ m ih =>
      intro j hj hp
      have wk := w1 (rn_lb N l 1 + j) (by omega) (by omega)
      have e : rn_lb N l 1 + ((j + 1 : Nat) : Int) = rn_lb N l 1 + (j : Int) + 1 := by omega
      have next : ¬ rn_on N (rn_lb N l 0) (rn_lb N l 1 + j) x y → rn_WP 182 40 [rn_R 466, rn_I l, rn_I x, rn_I y, rn_I (rn_lb N l 0), rn_I (rn_lb N l 1), rn_I (rn_lb N l 1 + j + 1)] [] M1 Q := by
        intro c
        have := ih (j + 1) (by omega) (by unfold rn_pl; rw [rn_pick_f (fun z => c z.2)]; exact hp)
        rw [e] at this
        exact this
      refine rb_Mo_placeOn_40 hM1 ?_ ?_ ?_ ?_ ?_ ?_ ?_ ?_ ?_ <;> (try rw [hN1]) <;> (try rw [wk.1]) <;> (try rw [wk.2])
      · omega
      · intro _; omega
      · intro _ _; omega
      · intro _ _ _; omega
      · intro _ _; omega
      · intro _ c1 c2
        have e2 : rn_pl N (rn_lb N l 0) (rn_lb N l 1) x y (j + 1) = rn_lb N l 1 + j := rn_pick_t ⟨hp, c1, c2⟩ _ _
        have e3 := rn_pl_st (N := N) (r := rn_lb N l 0) (s := rn_lb N l 1) (x := x) (y := y) (n := j + 1) (by omega) m
        unfold rn_plo at k
        rw [← hj, show m + 1 + j = j + 1 + m by omega, e3, e2] at k
        exact k
      · intro _ c1 c2; exact next (fun z => c2 z.2)
      · intro _ c1; exact next (fun z => c1 z.1)
      · intro c; omega
  have := loop (rn_o N (rn_lb N l 0) 0).toNat 0 (by omega) rfl
  rw [show rn_lb N l 1 + ((0 : Nat) : Int) = rn_lb N l 1 by omega] at this
  exact this
theorem rn_wb_p {x y : Int} : ∀ j : Nat, rn_wb N x y j = -9 ∨ rn_plo N (rn_lb N (rn_wb N x y j) 0) (rn_lb N (rn_wb N x y j) 1) x y ≠ -9
  | 0 => Or.inl rfl
  | j + 1 => by
    have ih := rn_wb_p (x := x) (y := y) j
    unfold rn_wb
    by_cases c : (rn_wb N x y j = -9 ∨ rn_o N (rn_lb N (rn_wb N x y j) 0) 1 < rn_o N (rn_lb N j 0) 1) ∧ rn_plo N (rn_lb N j 0) (rn_lb N j 1) x y ≠ -9
    · rw [rn_pick_t c]; exact Or.inr c.2
    · rw [rn_pick_f c]; exact ih
theorem rp_written (hM : rn_sh M) (h : rn_Ms M N n K B) (v : rn_vd N) {x y : Int} (k : ∀ M', rn_fm M M' → rn_Ms M' N n K B → Q (some (rn_I (rn_aWritten N x y))) M') : rn_ME 183 [rn_R 466, rn_I x, rn_I y] M Q := by
  have hN := h.1
  have v0 := v.1
  have v2 := v.2.2.1
  have e0 : ∀ l : Int, N (522 + 2 * l).toNat = rn_lb N l 0 := fun l => by unfold rn_lb; rw [Int.add_zero]
  have e1 : ∀ l : Int, N (522 + 2 * l + 1).toNat = rn_lb N l 1 := fun l => rfl
  unfold rn_aWritten at k
  refine re_Mo_written (rb_Mo_written_0 ?_ ?_)
  · intro c; simp only [if_pos c] at k; exact k M rn_fm_rf h
  · intro c
    simp only [if_neg (show ¬ ¬ ((0 ≤ x ∧ x < 60) ∧ 0 ≤ y ∧ y < 40) from fun z => z c)] at k
    have loop : ∀ (m j : Nat) (M1 : rn_M) (w w2 : rn_V), m + j = (N 2).toNat → rn_ch rn_PW M M1 → rn_WP 183 16 [rn_R 466, rn_I x, rn_I y, rn_I (rn_wb N x y j), rn_I (j : Int), w, w2] [] M1 Q := by
      intro m
      induction m with
      | zero =>
        intro j M1 w w2 hj c1
        have hM1 := rn_sh_ch c1 hM
        have hN1 := rn_N_ch c1 rn_PW_467 hN
        have wr := rn_wb_r (N := N) (x := x) (y := y) j
        have wp := rn_wb_p (N := N) (x := x) (y := y) j
        rw [Nat.zero_add] at hj
        rw [← hj] at k
        unfold rn_wv at k
        refine rb_Mo_written_16 hM1 ?_ ?_ ?_ ?_ ?_ ?_ ?_ ?_ <;> (try rw [hN1]) <;> (try rw [e0]) <;> (try rw [e1])
        · intro c; omega
        · intro c; omega
        · intro _ _; omega
        · intro c; omega
        · intro c; omega
        · intro c; omega
        · intro _ c
          have f := rn_Ms_fq (rn_fq_PW c1) (rn_ma_PW c1 h.2.2.2) h
          have := k M1 f.2 f.1
          rw [rn_pick_t c] at this
          exact this
        · intro _ c
          have vl := v.2.2.2.2.2.2 (rn_wb N x y j) (by omega) (by omega)
          have vl1 := vl.1
          have vr := v.2.2.2.2.1 _ vl.1.1 vl.1.2
          have vr0 := vr.1
          refine rm_placeOn hM1 hN1 v (by omega) (by omega) (fun M2 c2 => ?_)
          have hM2 := rn_sh_ch c2 hM1
          have hN2 := rn_N_ch c2 rn_PW_467 hN1
          have pr := rn_plo_r (N := N) (r := rn_lb N (rn_wb N x y j) 0) (s := rn_lb N (rn_wb N x y j) 1) (x := x) (y := y) vl.2.1.1
          have pn : rn_plo N (rn_lb N (rn_wb N x y j) 0) (rn_lb N (rn_wb N x y j) 1) x y ≠ -9 := wp.elim (fun z => absurd z c) id
          have vl2 := vl.2.1
          refine rb_Mo_written_155 hM2 (by omega) ?_
          refine rm_isTurned hM2 hN2 vr (by omega) vl.2.1.1 vl.2.2 (fun M3 c3 => ?_)
          have hM3 := rn_sh_ch c3 hM2
          have hN3 := rn_N_ch c3 rn_PW_467 hN2
          have c13 := rn_ch_tr c1 (rn_ch_tr c2 c3)
          have f := rn_Ms_fq (rn_fq_PW c13) (rn_ma_PW c13 h.2.2.2) h
          have := k M3 f.2 f.1
          rw [rn_pick_f c] at this
          unfold rn_lto at this
          refine rb_Mo_written_173 hM3 ?_ ?_ ?_ ?_ <;> (try rw [hN3])
          · intro _; omega
          · intro _; omega
          · intro z; rw [rn_pick_f (rn_b0 z)] at this; exact this
          · intro z; rw [rn_pick_t (rn_b1 z)] at this; exact this
      | succ m ih =>
        intro j M1 w w2 hj c1
        have hM1 := rn_sh_ch c1 hM
        have hN1 := rn_N_ch c1 rn_PW_467 hN
        have wr := rn_wb_r (N := N) (x := x) (y := y) j
        have e : ((j + 1 : Nat) : Int) = (j : Int) + 1 := by omega
        have vl := v.2.2.2.2.2.2 (j : Int) (by omega) (by omega)
        have vl1 := vl.1
        have look : ∀ w : rn_V, (rn_wb N x y j = -9 ∨ rn_o N (rn_lb N (rn_wb N x y j) 0) 1 < rn_o N (rn_lb N j 0) 1) → rn_ME 182 [rn_R 466, rn_I (j : Int), rn_I x, rn_I y] M1 (fun r M1 => rn_WP 183 91 [rn_R 466, rn_I x, rn_I y, rn_I (rn_wb N x y j), rn_I (j : Int), rn_I 1, w] (r.toList ++ []) M1 Q) := by
          intro w c
          refine rm_placeOn hM1 hN1 v (by omega) (by omega) (fun M2 c2 => ?_)
          have this := ih (j + 1) M2 (rn_I 1) w (by omega) (rn_ch_tr c1 c2)
          unfold rn_wb at this
          rw [e] at this
          refine rb_Mo_written_91 (fun _ => by omega) (fun _ => by omega) (fun z => ?_) (fun z => ?_)
          · rw [rn_pick_f (fun q => q.2 z)] at this; exact this
          · rw [rn_pick_t ⟨c, z⟩] at this; exact this
        have vb : rn_wb N x y j ≠ -9 → rn_vL N (rn_wb N x y j) := fun c => v.2.2.2.2.2.2 _ (by omega) (by omega)
        refine rb_Mo_written_16 hM1 ?_ ?_ ?_ ?_ ?_ ?_ ?_ ?_ <;> (try rw [hN1]) <;> (try rw [e0]) <;> (try rw [e0]) <;> (try rw [e1])
        · intro _ c
          have := (vb c).1
          omega
        · intro _ _ _; omega
        · intro c; omega
        · intro _ c; exact look _ (Or.inl c)
        · intro _ c c2
          have this := ih (j + 1) M1 (rn_I 0) w2 (by omega) c1
          unfold rn_wb at this
          rw [e, rn_pick_f (fun q => q.1.elim c (fun z => by omega))] at this
          exact this
        · intro _ c c2; exact look _ (Or.inr (by omega))
        · intro c; omega
        · intro c; omega
    exact loop (N 2).toNat 0 M _ _ (by omega) rn_ch_rf
theorem rp_rankFor (hM : rn_sh M) (h : rn_Ms M N n K B) (v : rn_vd N) (hB : B ≤ 1000000000) {r : Int} (k : ∀ y M', rn_fm M M' → rn_Ms M' N n K (B + 20000) → (0 ≤ r ∧ r < N 0 → rn_lst N r y) → (¬ (0 ≤ r ∧ r < N 0) → y = -1) → Q (some (rn_I y)) M') : rn_ME 188 [rn_R 466, rn_I r] M Q := by
  have hN := h.1
  have v0 := v.1
  have fin : ∀ y M1, rn_fq M M1 → rn_ma M1 (B + 20000) → (0 ≤ r ∧ r < N 0 → rn_lst N r y) → (¬ (0 ≤ r ∧ r < N 0) → y = -1) → Q (some (rn_I y)) M1 := fun y M1 c m a b => by
    have f := rn_Ms_fq c m h
    exact k y M1 f.2 f.1 a b
  refine re_Mo_rankFor (rb_Mo_rankFor_0 hM ?_ ?_ ?_) <;> (try rw [hN])
  · omega
  · intro c; exact fin _ M rn_fq_rf (rn_ma_le h.2.2.2 (by omega)) (fun z => by omega) (fun _ => rfl)
  · intro c
    have vr := v.2.2.2.2.1 r c.1 (by omega)
    have vr5 := vr.2.2.2.1
    have vr0 := vr.1
    have outer : ∀ (m j : Nat) (M1 : rn_M) (w : rn_V), m + j = 9 → rn_fq M M1 → rn_ma M1 (B + 61 * j) → (∀ q : Int, 1 ≤ q → q ≤ j → ¬ rn_fits N r q) → rn_WP 188 12 [rn_R 466, rn_I r, rn_I ((j : Int) + 1), w] [] M1 Q := by
      intro m
      induction m with
      | zero =>
        intro j M1 w hj c1 m1 no
        refine rb_Mo_rankFor_12 ?_ ?_
        · intro _; exact fin _ M1 c1 (rn_ma_le m1 (by omega)) (fun _ => Or.inl ⟨rfl, fun q q1 q2 => no q q1 (by omega)⟩) (fun z => by omega)
        · intro z; omega
      | succ m ih =>
        intro j M1 w hj c1 m1 no
        refine rb_Mo_rankFor_12 ?_ ?_
        · intro z; omega
        · intro _
          have inner : ∀ (m2 i : Nat) (M2 : rn_M), m2 + i = (rn_o N r 5 + 1).toNat → rn_fq M M2 → rn_ma M2 (B + 61 * j + i) → (∀ s : Int, 0 ≤ s → s < i → rn_why N r s ((j : Int) + 1) (-9) ≠ 0) → rn_WP 188 20 [rn_R 466, rn_I r, rn_I ((j : Int) + 1), rn_I (i : Int)] [] M2 Q := by
            intro m2
            induction m2 with
            | zero =>
              intro i M2 hi c2 m2 no2
              have hN2 := rn_N_ch c2.1 rn_PQ_467 hN
              refine rb_Mo_rankFor_20 (rn_sh_ch c2.1 hM) ?_ ?_ ?_ ?_ <;> (try rw [hN2])
              · omega
              · intro _; omega
              · intro _
                have := ih (j + 1) M2 (rn_I (i : Int)) (by omega) c2 (rn_ma_le m2 (by omega)) (fun q q1 q2 => ?_)
                · rw [show ((j + 1 : Nat) : Int) = (j : Int) + 1 by omega] at this
                  exact this
                · rcases Int.lt_or_le (j : Int) q with z | z
                  · rw [show q = (j : Int) + 1 by omega]
                    rintro ⟨s, s0, s1, s2⟩
                    have := (rn_why0.mp s2).1
                    exact no2 s s0 (by omega) s2
                  · exact no q q1 z
              · intro z; omega
            | succ m2 ihi =>
              intro i M2 hi c2 m2 no2
              have hN2 := rn_N_ch c2.1 rn_PQ_467 hN
              have hM2 := rn_sh_ch c2.1 hM
              refine rb_Mo_rankFor_20 hM2 ?_ ?_ ?_ ?_ <;> (try rw [hN2])
              · omega
              · intro _; omega
              · intro z; omega
              · intro _
                refine rm_why hM2 hN2 v c.1 (by omega) (by omega) m2 (by omega) (fun M3 c3 e3 m3 => ?_)
                refine rb_Mo_rankFor_39 ?_ ?_ ?_
                · intro _; omega
                · intro z
                  refine fin _ M3 (rn_fq_tr c2 ⟨c3, e3⟩) (rn_ma_le m3 (by omega)) (fun _ => Or.inr ⟨by omega, ⟨i, by omega, by omega, z⟩, fun q q1 q2 => no q q1 (by omega)⟩) (fun z => by omega)
                · intro z
                  have := ihi (i + 1) M3 (by omega) (rn_fq_tr c2 ⟨c3, e3⟩) (rn_ma_le m3 (by omega)) (fun s s0 s1 => ?_)
                  · rw [show ((i + 1 : Nat) : Int) = (i : Int) + 1 by omega] at this
                    exact this
                  · rcases Int.lt_or_le s i with q | q
                    · exact no2 s s0 q
                    · rw [show s = (i : Int) by omega]; exact z
          exact inner (rn_o N r 5 + 1).toNat 0 M1 (by omega) c1 (rn_ma_le m1 (by omega)) (fun s s0 s1 => by omega)
    exact outer 9 0 M _ (by omega) rn_fq_rf (rn_ma_le h.2.2.2 (by omega)) (fun q q1 q2 => by omega)
end STA
