/-! the reference: place, tidy, undo -/
section DE2
variable {M : rn_M} {Q : rn_Q} {N N' : Nat → Int} {n B : Int} {K : Nat → Nat → Int}
theorem rn_up2_tr : rn_up N 2 0 = rn_tr N (N 0) (N 1) 0 := by
  funext j
  unfold rn_up rn_tr
  by_cases h0 : j = 0
  · subst h0; rfl
  · by_cases h1 : j = 1
    · subst h1; rfl
    · rw [if_neg h0, if_neg h1]
theorem rn_up2_vd (v : rn_vd N) : rn_vd (rn_up N 2 0) := by
  rw [rn_up2_tr]
  exact rn_tr_vd v ⟨v.1.1, Int.le_refl _⟩ ⟨v.2.1.1, Int.le_refl _⟩ (Or.inl rfl)
theorem rp_place (hM : rn_sh M) (h : rn_Ms M N n K B) (v : rn_vd N) (n0 : 0 ≤ n ∧ n ≤ 5) (hB : B ≤ 1000000000) {x : Int} (k1 : 1 ≤ x ∧ x ≤ 5 → ∀ M', rn_fm M M' → rn_Ms M' (rn_laa x.toNat 9 (rn_up N 2 0)) (min (n + 1) 5) (rn_nK n K N) (B + 20000) → Q (some (rn_I (rn_laa x.toNat 9 (rn_up N 2 0) 2))) M') (k2 : ¬ (1 ≤ x ∧ x ≤ 5) → Q (some (rn_I (-1))) M) : rn_ME 167 [rn_R 466, rn_I x] M Q := by
  refine re_Mo_place (rb_Mo_place_0 hM k2 (fun c => rm_rec hM h n0 (fun M1 f1 h1 => ?_)))
  have hM1 := rn_sh_ch f1.1 hM
  refine rb_Mo_place_15 hM1 ?_
  have c2 : rn_ch rn_P67 M1 (rn_si M1 467 2 0) := rn_ch_si rfl
  have e2 : rn_gi (rn_si M1 467 2 0) 467 = rn_up N 2 0 := by rw [rn_si_up, h1.1]
  obtain ⟨h2, f2⟩ := rn_Ms_67 c2 e2 h1
  have v2 := rn_up2_vd v
  have f2 := rn_fm_tr f1 f2
  generalize rn_si M1 467 2 0 = M2 at *
  generalize rn_up N 2 0 = N0 at *
  have k1 := k1 c
  clear e2 c2 f1 h1 hM1
  have outer : ∀ (m j : Nat) (M1 : rn_M) (w3 w4 w5 w6 : rn_V), m + j = 9 → rn_fm M M1 → rn_Ms M1 (rn_laa x.toNat j N0) (min (n + 1) 5) (rn_nK n K N) (B + 1830 * j) → rn_WP 167 25 [rn_R 466, rn_I x, rn_I (9 - j), w3, w4, w5, w6] [] M1 Q := by
    intro m
    induction m with
    | zero =>
      intro j M1 w3 w4 w5 w6 hj f1 h1
      have hM1 := rn_sh_ch f1.1 hM
      refine rb_Mo_place_25 hM1 ?_ ?_
      · intro _
        rw [h1.1]
        rw [show j = 9 by omega] at h1 ⊢
        exact k1 M1 f1 ⟨h1.1, h1.2.1, h1.2.2.1, rn_ma_le h1.2.2.2 (by omega)⟩
      · intro z; omega
    | succ m ih =>
      intro j M1 w3 w4 w5 w6 hj f1 h1
      have hM1 := rn_sh_ch f1.1 hM
      have va := rn_laa_ok (n := x.toNat) v2 j
      refine rb_Mo_place_25 hM1 ?_ ?_
      · intro z; omega
      · intro _
        have inner : ∀ (m2 i : Nat) (M2 : rn_M) (w4 w5 w6 : rn_V), m2 + i = (rn_laa x.toNat j N0 0).toNat → rn_fm M M2 → rn_Ms M2 (rn_lar (9 - j) x.toNat i (rn_laa x.toNat j N0)) (min (n + 1) 5) (rn_nK n K N) (B + 1830 * j + 305 * i) → rn_WP 167 31 [rn_R 466, rn_I x, rn_I (9 - j), rn_I (i : Int), w4, w5, w6] [] M2 Q := by
          intro m2
          induction m2 with
          | zero =>
            intro i M2 w4 w5 w6 hi f2 h2
            have hM2 := rn_sh_ch f2.1 hM
            have v0 := va.1.1
            have vi := rn_lar_ok (rank := 9 - (j : Int)) (n := x.toNat) va.1 i (by omega)
            have e0 := vi.2
            refine rb_Mo_place_31 hM2 ?_ ?_ ?_ ?_ ?_ <;> (try rw [h2.1])
            · intro z; omega
            · intro _; omega
            · intro z; omega
            · intro z; omega
            · intro _
              have v0 := va.1.1
              have ei : i = (rn_laa x.toNat j N0 0).toNat := by omega
              rw [ei] at h2 ⊢
              have := ih (j + 1) M2 (rn_I ((rn_laa x.toNat j N0 0).toNat : Int)) w4 w5 w6 (by omega) f2 ⟨h2.1, h2.2.1, h2.2.2.1, rn_ma_le h2.2.2.2 (by omega)⟩
              rw [show (9 : Int) - ((j + 1 : Nat) : Int) = 9 - (j : Int) + (-1) by omega] at this
              exact this
          | succ m2 ihi =>
            intro i M2 w4 w5 w6 hi f2 h2
            have hM2 := rn_sh_ch f2.1 hM
            have v0 := va.1.1
            have vi := rn_lar_ok (rank := 9 - (j : Int)) (n := x.toNat) va.1 i (by omega)
            have e0 := vi.2
            have i1 : (i : Int) < rn_lar (9 - (j : Int)) x.toNat i (rn_laa x.toNat j N0) 0 := by rw [vi.2]; omega
            have whl : ∀ (p : Nat) (R : Nat → Int) (M3 : rn_M) (w5 w6 : rn_V), (p : Int) ≤ x → rn_fm M M3 → rn_Ms M3 R (min (n + 1) 5) (rn_nK n K N) (B + 1830 * j + 305 * i + 61 * (x - p)) → rn_vd R → (i : Int) < R 0 → rn_lrv i p R = rn_lar (9 - j) x.toNat (i + 1) (rn_laa x.toNat j N0) → rn_WP 167 58 [rn_R 466, rn_I x, rn_I (9 - j), rn_I (i : Int), rn_I (p : Int), w5, w6] [] M3 Q := by
              intro p
              induction p with
              | zero =>
                intro R M3 w5 w6 hp f3 h3 v3 r1 eR
                have hM3 := rn_sh_ch f3.1 hM
                refine rb_Mo_place_58 hM3 ?_ ?_ ?_ ?_ ?_ <;> (try rw [h3.1])
                · intro _; omega
                · intro z; omega
                · intro _
                  have eR : R = _ := eR
                  have := ihi (i + 1) M3 (rn_I ((0 : Nat) : Int)) w5 w6 (by omega) f3 ⟨h3.1.trans eR, h3.2.1, h3.2.2.1, rn_ma_le h3.2.2.2 (by omega)⟩
                  rw [show ((i + 1 : Nat) : Int) = (i : Int) + 1 by omega] at this
                  exact this
                · intro z; omega
                · intro z; omega
              | succ p ihp =>
                intro R M3 w5 w6 hp f3 h3 v3 r1 eR
                have hM3 := rn_sh_ch f3.1 hM
                have vr0 := v3.1
                have vr2 := v3.2.2.1
                have ep : ((p + 1 : Nat) : Int) = (p : Int) + 1 := by omega
                refine rb_Mo_place_58 hM3 ?_ ?_ ?_ ?_ ?_ <;> (try rw [h3.1])
                · intro z; omega
                · intro _ _; omega
                · intro z; omega
                · intro _ c20
                  refine rm_bestStart hM3 h3.1 v3 (by omega) r1 h3.2.2.2 (by omega) (fun M4 c4 e4 m4 => ?_)
                  obtain ⟨h4, f4⟩ := rn_Ms_fq ⟨c4, e4⟩ m4 h3
                  have f4 := rn_fm_tr f3 f4
                  have hM4 := rn_sh_ch f4.1 hM
                  refine rb_Mo_place_79 hM4 ?_ ?_ ?_ ?_ ?_
                  · intro _; omega
                  · intro z _
                    have e5 : rn_lrv i (p + 1) R = R := rn_pk_f (fun q => q.2 z) _ _
                    exact (by
                      have hM5 := hM4
                      refine rb_Mo_place_58 hM5 ?_ ?_ ?_ ?_ ?_ <;> (try rw [h4.1])
                      · intro _; omega
                      · intro z; omega
                      · intro _
                        have := ihi (i + 1) M4 (rn_I 0) (rn_I (rn_best R i)) (rn_I (-9)) (by omega) f4 ⟨h4.1.trans (e5.symm.trans eR), h4.2.1, h4.2.2.1, rn_ma_le h4.2.2.2 (by omega)⟩
                        rw [show ((i + 1 : Nat) : Int) = (i : Int) + 1 by omega] at this
                        exact this
                      · intro z; omega
                      · intro z; omega)
                  · intro z z2; exact absurd z z2
                  · intro z z2; exact absurd z2 z
                  · intro z _
                    have br := rn_best_r v3 (r := (i : Int)) (by omega) r1 z
                    refine rm_comesLabel hM4 h4.1 (by omega) (fun M5 c5 e5 => rb_Mo_place_117 ?_)
                    obtain ⟨h5, f5⟩ := rn_Ms_67 c5 e5 h4
                    have e6 : rn_lrv i (p + 1) R = rn_lrv i p (rn_nl R i (rn_best R i)) := rn_pk_t ⟨c20, z⟩ _ _
                    have e7 : rn_nl R i (rn_best R i) 0 = R 0 := rn_nl_lo (by omega) (by omega) v3.2.2.1.1
                    have := ihp (rn_nl R i (rn_best R i)) M5 (rn_I (rn_best R i)) (rn_I (R 2)) (by omega) (rn_fm_tr f4 f5) ⟨h5.1, h5.2.1, h5.2.2.1, rn_ma_le h5.2.2.2 (by omega)⟩ (rn_nl_vd v3 (by omega) (by omega) r1 br.1 br.2) (by rw [e7]; exact r1) (e6.symm.trans eR)
                    rw [ep, show (p : Int) + 1 - 1 = p by omega]
                    exact this
                · intro _ c20
                  have e5 : rn_lrv i (p + 1) R = R := rn_pk_f (fun q => c20 q.1) _ _
                  have := ihi (i + 1) M3 (rn_I ((p + 1 : Nat) : Int)) w5 w6 (by omega) f3 ⟨h3.1.trans (e5.symm.trans eR), h3.2.1, h3.2.2.1, rn_ma_le h3.2.2.2 (by omega)⟩
                  rw [show ((i + 1 : Nat) : Int) = (i : Int) + 1 by omega] at this
                  exact this
            refine rb_Mo_place_31 hM2 ?_ ?_ ?_ ?_ ?_ <;> (try rw [h2.1])
            · intro _; omega
            · intro z; omega
            · intro _ cr
              have e : rn_lar (9 - (j : Int)) x.toNat (i + 1) (rn_laa x.toNat j N0) = rn_lrv i x.toNat (rn_lar (9 - (j : Int)) x.toNat i (rn_laa x.toNat j N0)) := rn_pk_t cr _ _
              have := whl x.toNat _ M2 w5 w6 (by omega) f2 ⟨h2.1, h2.2.1, h2.2.2.1, rn_ma_le h2.2.2.2 (by omega)⟩ vi.1 i1 e.symm
              rw [Int.toNat_of_nonneg (by omega)] at this
              exact this
            · intro _ cr
              have e : rn_lar (9 - (j : Int)) x.toNat (i + 1) (rn_laa x.toNat j N0) = rn_lar (9 - (j : Int)) x.toNat i (rn_laa x.toNat j N0) := rn_pk_f cr _ _
              exact whl 0 _ M2 w5 w6 (by omega) f2 ⟨h2.1, h2.2.1, h2.2.2.1, rn_ma_le h2.2.2.2 (by omega)⟩ vi.1 i1 e.symm
            · intro z; omega
        exact inner (rn_laa x.toNat j N0 0).toNat 0 M1 w4 w5 w6 (by omega) f1 ⟨h1.1, h1.2.1, h1.2.2.1, rn_ma_le h1.2.2.2 (by omega)⟩
  exact outer 9 0 M2 _ _ _ _ (by omega) f2 ⟨h2.1, h2.2.1, h2.2.2.1, rn_ma_le h2.2.2.2 (by omega)⟩
theorem rp_tidy (hM : rn_sh M) (h : rn_Ms M N n K B) (v : rn_vd N) (n0 : 0 ≤ n ∧ n ≤ 5) (hB : B ≤ 1000000000) (k1 : ∀ M', rn_fm M M' → rn_Ms M' (rn_tdf (N 2).toNat N 0) (min (n + 1) 5) (rn_nK n K N) (B + 20000) → Q (some (rn_I (N 2 - rn_tdf (N 2).toNat N 0 2))) M') : rn_ME 168 [rn_R 466] M Q := by
  refine re_Mo_tidy (rb_Mo_tidy_0 hM (rm_rec hM h n0 (fun M1 f1 h1 => ?_)))
  have hM1 := rn_sh_ch f1.1 hM
  have v2 := v.2.2.1
  refine rb_Mo_tidy_4 hM1 ?_
  rw [h1.1]
  have loop : ∀ (m : Nat) (N1 : Nat → Int) (j : Int) (M1 : rn_M), N1 2 - j = m → 0 ≤ j → m ≤ N 2 → rn_fm M M1 → rn_Ms M1 N1 (min (n + 1) 5) (rn_nK n K N) (B + (20 - m)) → rn_vd N1 → rn_tdf m N1 j = rn_tdf (N 2).toNat N 0 → rn_WP 168 13 [rn_R 466, rn_I (N 2), rn_I j] [] M1 Q := by
    intro m
    induction m with
    | zero =>
      intro N1 j M1 hj j0 _ f1 h1 v1 e1
      have w2 := v1.2.2.1
      refine rb_Mo_tidy_13 (rn_sh_ch f1.1 hM) ?_ ?_ ?_ <;> (try rw [h1.1])
      · intro _; omega
      · intro c; omega
      · intro _
        have e2 : N1 = rn_tdf (N 2).toNat N 0 := e1
        rw [e2] at h1 ⊢
        exact k1 M1 f1 ⟨h1.1, h1.2.1, h1.2.2.1, rn_ma_le h1.2.2.2 (by omega)⟩
    | succ m ih =>
      intro N1 j M1 hj j0 hm f1 h1 v1 e1
      have w2 := v1.2.2.1
      have hM1 := rn_sh_ch f1.1 hM
      refine rb_Mo_tidy_13 hM1 ?_ ?_ ?_ <;> (try rw [h1.1])
      · intro c; omega
      · intro _
        refine rm_whyLabel hM1 h1.1 v1 j0 (by omega) h1.2.2.2 (by omega) (fun M2 c2 e2 m2 => ?_)
        obtain ⟨h2, f2⟩ := rn_Ms_fq ⟨c2, e2⟩ m2 h1
        have f2 := rn_fm_tr f1 f2
        have hM2 := rn_sh_ch f2.1 hM
        refine rb_Mo_tidy_28 hM2 ?_ ?_ ?_
        · intro _; omega
        · intro c
          have e3 : rn_tdf (m + 1) N1 j = rn_tdf m N1 (j + 1) := rn_pk_f (fun z => z c) _ _
          exact ih N1 (j + 1) M2 (by omega) (by omega) (by omega) f2 ⟨h2.1, h2.2.1, h2.2.2.1, rn_ma_le h2.2.2.2 (by omega)⟩ v1 (e3.symm.trans e1)
        · intro c
          have e3 : rn_tdf (m + 1) N1 j = rn_tdf m (rn_dl N1 j) j := rn_pk_t c _ _
          refine rm_goesLabel hM2 h2.1 j0 (by omega) w2.2 (fun M3 c3 e4 => rb_Mo_tidy_36 ?_)
          obtain ⟨h3, f3⟩ := rn_Ms_67 c3 e4 h2
          exact ih (rn_dl N1 j) j M3 (by rw [rn_dl_2]; omega) j0 (by omega) (rn_fm_tr f2 f3) ⟨h3.1, h3.2.1, h3.2.2.1, rn_ma_le h3.2.2.2 (by omega)⟩ (rn_dl_vd v1 j0 (by omega)) (e3.symm.trans e1)
      · intro c; omega
  exact loop (N 2).toNat N 0 M1 (by omega) (by omega) (by omega) f1 ⟨h1.1, h1.2.1, h1.2.2.1, rn_ma_le h1.2.2.2 (by omega)⟩ v rfl
theorem rp_undo (hM : rn_sh M) (h : rn_Ms M N n K B) (n0 : 0 ≤ n ∧ n ≤ 5) (k1 : 1 ≤ n → ∀ M', rn_fm M M' → (∀ j : Nat, j < 562 → rn_gi M' 467 j = K (n - 1).toNat j) → rn_Ms M' (rn_gi M' 467) (n - 1) K B → Q (some (rn_I (n - 1))) M') (k2 : n = 0 → Q (some (rn_I (-2))) M) : rn_ME 126 [rn_R 466] M Q := by
  obtain ⟨h1, h2, h3, h4⟩ := h
  refine re_Mo_undo (rb_Mo_undo_0 hM ?_ ?_ ?_) <;> (try rw [h2])
  · intro _; omega
  · intro c; exact k2 c
  · intro c
    have loop : ∀ (m i : Nat) (M1 : rn_M), m + i = 562 → rn_ch (fun a => a = 466 ∨ a = 467) M M1 → rn_gi M1 466 = rn_gi (rn_si M 466 2 (n - 1)) 466 → (∀ j : Nat, j < i → rn_gi M1 467 j = K (n - 1).toNat j) → rn_WP 126 22 [rn_R 466, rn_I (i : Int)] [] M1 Q := by
      intro m
      induction m with
      | zero =>
        intro i M1 hi c1 e1 w1
        have g2 : rn_gi M1 466 2 = n - 1 := by rw [e1, rn_si_eq]
        have p : ∀ a, a ≠ 466 → a ≠ 467 → rn_gi M1 a = rn_gi M a := fun a h1 h2 => c1.2.2 a (by omega)
        refine rb_Mo_undo_22 (rn_sh_ch c1 hM) ?_ ?_ ?_ <;> (try rw [g2])
        · intro z; omega
        · intro z; omega
        · intro _
          refine k1 (by omega) M1 ⟨rn_ch_mono (fun a z => by omega) c1, p 469 (by omega) (by omega), by rw [e1, rn_si_ne (by omega)]⟩ (fun j hj => w1 j (by omega)) ⟨rfl, g2, fun j hj x hx => ?_, ?_⟩
          · rw [p 468 (by omega) (by omega)]; exact h3 j (by omega) x hx
          · unfold rn_ma; rw [p 472 (by omega) (by omega), e1, rn_si_ne (by omega)]; exact h4
      | succ m ih =>
        intro i M1 hi c1 e1 w1
        have g2 : rn_gi M1 466 2 = n - 1 := by rw [e1, rn_si_eq]
        have p : ∀ a, a ≠ 466 → a ≠ 467 → rn_gi M1 a = rn_gi M a := fun a h1 h2 => c1.2.2 a (by omega)
        refine rb_Mo_undo_22 (rn_sh_ch c1 hM) ?_ ?_ ?_ <;> (try rw [g2])
        · intro _; omega
        · intro _
          rw [p 468 (by omega) (by omega), show (562 * (n - 1) + (i : Int)).toNat = 562 * (n - 1).toNat + i by omega, h3 (n - 1).toNat (by omega) i (by omega), Int.toNat_natCast]
          have := ih (i + 1) (rn_si M1 467 i (K (n - 1).toNat i)) (by omega) (rn_ch_tr c1 (rn_ch_si (Or.inr rfl))) (by rw [rn_si_gif (by omega)]; exact e1) (fun j hj => ?_)
          · rw [show ((i + 1 : Nat) : Int) = (i : Int) + 1 by omega] at this
            exact this
          · by_cases e : j = i
            · rw [e, rn_si_eq]
            · rw [rn_si_ne (fun z => e z.2)]; exact w1 j (by omega)
        · intro z; omega
    exact loop 562 0 _ (by omega) (rn_ch_si (Or.inl rfl)) rfl (fun j hj => by omega)
end DE2
