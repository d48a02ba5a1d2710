/-! the reference: its other actions; append and clearText of both -/
section AC2
variable {M : rn_M} {Q : rn_Q} {N : Nat → Int} {n B : Int} {K : Nat → Nat → Int}
theorem rm_put (hM : rn_sh M) (h : rn_Ms M N n K B) (n0 : 0 ≤ n ∧ n ≤ 5) {a x : Int} (ha : 0 ≤ a ∧ a < 562) (k : ∀ M', rn_fm M M' → rn_Ms M' (rn_up N a.toNat x) (min (n + 1) 5) (rn_nK n K N) B → Q (some (rn_I (N a.toNat))) M') : rn_ME 143 [rn_R 466, rn_I a, rn_I x] M Q := by
  refine re_Mo_puts (rb_Mo_puts_0 hM (rm_rec hM h n0 (fun M1 f1 h1 => ?_)))
  refine rb_Mo_puts_4 (rn_sh_ch f1.1 hM) ha ?_
  rw [h1.1]
  obtain ⟨h2, f2⟩ := rn_Ms_67 (M' := rn_si M1 467 a.toNat x) (N' := rn_up N a.toNat x) (rn_ch_si rfl) (by rw [rn_si_up, h1.1]) h1
  exact k _ (rn_fm_tr f1 f2) h2
theorem rp_setRank (hM : rn_sh M) (h : rn_Ms M N n K B) (v : rn_vd N) (n0 : 0 ≤ n ∧ n ≤ 5) {r x : Int} (k1 : (0 ≤ r ∧ r < N 0) ∧ 1 ≤ x ∧ x ≤ 9 → ∀ M', rn_fm M M' → rn_Ms M' (rn_up N (4 + 78 * r + 1).toNat x) (min (n + 1) 5) (rn_nK n K N) B → Q (some (rn_I (rn_o N r 1))) M') (k2 : ¬ ((0 ≤ r ∧ r < N 0) ∧ 1 ≤ x ∧ x ≤ 9) → Q (some (rn_I (-1))) M) : rn_ME 144 [rn_R 466, rn_I r, rn_I x] M Q := by
  have v0 := v.1
  refine re_Mo_setRank (rb_Mo_setRank_0 hM ?_ ?_ ?_ ?_ ?_) <;> (try rw [h.1])
  · omega
  · intro _ _; omega
  · intro c; exact k2 (fun z => by omega)
  · intro _ c; exact k2 (fun z => c z.2)
  · intro c c2; exact rm_put hM h n0 (by omega) (fun M' f m => rb_Mo_setRank_26 (k1 ⟨by omega, c2⟩ M' f m))
theorem rp_setHalo (hM : rn_sh M) (h : rn_Ms M N n K B) (v : rn_vd N) (n0 : 0 ≤ n ∧ n ≤ 5) {r x : Int} (k1 : (0 ≤ r ∧ r < N 0) ∧ 0 ≤ x ∧ x ≤ 2 → ∀ M', rn_fm M M' → rn_Ms M' (rn_up N (4 + 78 * r + 2).toNat x) (min (n + 1) 5) (rn_nK n K N) B → Q (some (rn_I (rn_o N r 2))) M') (k2 : ¬ ((0 ≤ r ∧ r < N 0) ∧ 0 ≤ x ∧ x ≤ 2) → Q (some (rn_I (-1))) M) : rn_ME 145 [rn_R 466, rn_I r, rn_I x] M Q := by
  have v0 := v.1
  refine re_Mo_setHalo (rb_Mo_setHalo_0 hM ?_ ?_ ?_ ?_ ?_) <;> (try rw [h.1])
  · omega
  · intro _ _; omega
  · intro c; exact k2 (fun z => by omega)
  · intro _ c; exact k2 (fun z => c z.2)
  · intro c c2; exact rm_put hM h n0 (by omega) (fun M' f m => rb_Mo_setHalo_26 (k1 ⟨by omega, c2⟩ M' f m))
theorem rp_setTownRank (hM : rn_sh M) (h : rn_Ms M N n K B) (v : rn_vd N) (n0 : 0 ≤ n ∧ n ≤ 5) {t x : Int} (k1 : (0 ≤ t ∧ t < N 1) ∧ 1 ≤ x ∧ x ≤ 9 → ∀ M', rn_fm M M' → rn_Ms M' (rn_up N (472 + 5 * t + 4).toNat x) (min (n + 1) 5) (rn_nK n K N) B → Q (some (rn_I (rn_tw N t 4))) M') (k2 : ¬ ((0 ≤ t ∧ t < N 1) ∧ 1 ≤ x ∧ x ≤ 9) → Q (some (rn_I (-1))) M) : rn_ME 147 [rn_R 466, rn_I t, rn_I x] M Q := by
  have v1 := v.2.1
  refine re_Mo_setTownRank (rb_Mo_setTownRank_0 hM ?_ ?_ ?_ ?_ ?_) <;> (try rw [h.1])
  · omega
  · intro _ _; omega
  · intro c; exact k2 (fun z => by omega)
  · intro _ c; exact k2 (fun z => c z.2)
  · intro c c2; exact rm_put hM h n0 (by omega) (fun M' f m => rb_Mo_setTownRank_29 (k1 ⟨by omega, c2⟩ M' f m))
theorem rp_setGap (hM : rn_sh M) (h : rn_Ms M N n K B) (n0 : 0 ≤ n ∧ n ≤ 5) {x : Int} (k1 : 0 ≤ x ∧ x ≤ 60 → ∀ M', rn_fm M M' → rn_Ms M' (rn_up N 3 x) (min (n + 1) 5) (rn_nK n K N) B → Q (some (rn_I (N 3))) M') (k2 : ¬ (0 ≤ x ∧ x ≤ 60) → Q (some (rn_I (-1))) M) : rn_ME 148 [rn_R 466, rn_I x] M Q := by
  refine re_Mo_setGap (rb_Mo_setGap_0 hM k2 (fun c => ?_))
  exact rm_put hM h n0 (by omega) (fun M' f m => rb_Mo_setGap_16 (k1 c M' f m))
theorem rp_set (hM : rn_sh M) (h : rn_Ms M N n K B) (v : rn_vd N) (n0 : 0 ≤ n ∧ n ≤ 5) (hB : B ≤ 1000000000) {r s : Int} (k0 : ¬ ((0 ≤ r ∧ r < N 0) ∧ 0 ≤ s ∧ s ≤ 60) → ∀ M', rn_fm M M' → rn_Ms M' N n K (B + 20000) → Q (some (rn_I (-1))) M')
    (k1 : (0 ≤ r ∧ r < N 0) ∧ 0 ≤ s ∧ s ≤ 60 → rn_why N r s (rn_o N r 1) (-9) ≠ 0 → ∀ M', rn_fm M M' → rn_Ms M' N n K (B + 20000) → Q (some (rn_I (-2))) M')
    (k2 : (0 ≤ r ∧ r < N 0) ∧ 0 ≤ s ∧ s ≤ 60 → rn_why N r s (rn_o N r 1) (-9) = 0 → N 2 = 20 → ∀ M', rn_fm M M' → rn_Ms M' N n K (B + 20000) → Q (some (rn_I (-3))) M')
    (k3 : (0 ≤ r ∧ r < N 0) ∧ 0 ≤ s ∧ s ≤ 60 → rn_why N r s (rn_o N r 1) (-9) = 0 → N 2 ≠ 20 → ∀ M', rn_fm M M' → rn_Ms M' (rn_nl N r s) (min (n + 1) 5) (rn_nK n K N) (B + 20000) → Q (some (rn_I (N 2))) M') : rn_ME 164 [rn_R 466, rn_I r, rn_I s] M Q := by
  have v0 := v.1
  have v2 := v.2.2.1
  have h0 : rn_Ms M N n K (B + 20000) := ⟨h.1, h.2.1, h.2.2.1, rn_ma_le h.2.2.2 (by omega)⟩
  refine re_Mo_set (rb_Mo_set_0 hM ?_ ?_ ?_ ?_ ?_) <;> (try rw [h.1])
  · omega
  · intro _ _; omega
  · intro c; exact k0 (fun z => by omega) M rn_fm_rf h0
  · intro _ c; exact k0 (fun z => c z.2) M rn_fm_rf h0
  · intro c c2
    have cc : (0 ≤ r ∧ r < N 0) ∧ 0 ≤ s ∧ s ≤ 60 := ⟨by omega, c2⟩
    refine rm_why hM h.1 v c.1 (by omega) c2 h.2.2.2 (by omega) (fun M1 c1 e1 m1 => ?_)
    obtain ⟨h1, f1⟩ := rn_Ms_fq ⟨c1, e1⟩ (rn_ma_le m1 (show B + 1 ≤ B + 20000 by omega)) h
    have hM1 := rn_sh_ch f1.1 hM
    refine rb_Mo_set_31 hM1 ?_ ?_ ?_ <;> (try rw [h1.1])
    · intro a b; exact k2 cc a b M1 f1 h1
    · intro a b
      refine rm_rec hM1 h1 n0 (fun M2 f2 h2 => ?_)
      have hM2 := rn_sh_ch f2.1 hM1
      refine rb_Mo_set_55 hM2 (rm_comesLabel hM2 h2.1 (by omega) (fun M3 c3 e3 => rb_Mo_set_61 ?_))
      obtain ⟨h3, f3⟩ := rn_Ms_67 c3 e3 h2
      exact k3 cc a b M3 (rn_fm_tr f1 (rn_fm_tr f2 f3)) h3
    · intro a; exact k1 cc a M1 f1 h1
theorem rp_remove (hM : rn_sh M) (h : rn_Ms M N n K B) (v : rn_vd N) (n0 : 0 ≤ n ∧ n ≤ 5) {l : Int} (k1 : 0 ≤ l ∧ l < N 2 → ∀ M', rn_fm M M' → rn_Ms M' (rn_dl N l) (min (n + 1) 5) (rn_nK n K N) B → Q (some (rn_I (N 2 - 1))) M') (k2 : ¬ (0 ≤ l ∧ l < N 2) → Q (some (rn_I (-1))) M) : rn_ME 166 [rn_R 466, rn_I l] M Q := by
  have v2 := v.2.2.1
  refine re_Mo_remove (rb_Mo_remove_0 hM ?_ ?_ ?_) <;> (try rw [h.1])
  · omega
  · intro c; exact k2 (fun z => by omega)
  · intro c
    refine rm_rec hM h n0 (fun M1 f1 h1 => ?_)
    have hM1 := rn_sh_ch f1.1 hM
    refine rb_Mo_remove_14 hM1 (rm_goesLabel hM1 h1.1 c.1 (by omega) v2.2 (fun M2 c2 e2 => ?_))
    obtain ⟨h2, f2⟩ := rn_Ms_67 c2 e2 h1
    refine rb_Mo_remove_19 (rn_sh_ch c2 hM1) ?_
    rw [e2, rn_dl_2]
    exact k1 (by omega) M2 (rn_fm_tr f1 f2) h2
theorem rp_addTown (hM : rn_sh M) (h : rn_Ms M N n K B) (v : rn_vd N) (n0 : 0 ≤ n ∧ n ≤ 5) {x y w hh r : Int} (k0 : ¬ rn_tg x y w hh r → Q (some (rn_I (-1))) M) (k1 : rn_tg x y w hh r → N 1 = 10 → Q (some (rn_I (-3))) M)
    (k2 : rn_tg x y w hh r → N 1 ≠ 10 → ∀ M', rn_fm M M' → rn_Ms M' (rn_at5 N x y w hh r) (min (n + 1) 5) (rn_nK n K N) B → Q (some (rn_I (N 1))) M') : rn_ME 140 [rn_R 466, rn_I x, rn_I y, rn_I w, rn_I hh, rn_I r] M Q := by
  have v1 := v.2.1
  unfold rn_tg at *
  refine re_Mo_addTown (rb_Mo_addTown_0 hM ?_ ?_ ?_ ?_) <;> (try rw [h.1])
  · intro c; exact k0 (fun z => by omega)
  · intro _ c; exact k0 (fun z => c z.2.2.2.2)
  · intro a b c; exact k1 (by omega) c
  · intro a b c
    refine rm_rec hM h n0 (fun M1 f1 h1 => ?_)
    have hM1 := rn_sh_ch f1.1 hM
    refine rb_Mo_addTown_39 hM1 (rm_comesTown hM1 h1.1 (by omega) (fun M2 c2 e2 => rb_Mo_addTown_50 ?_))
    obtain ⟨h2, f2⟩ := rn_Ms_67 c2 e2 h1
    exact k2 (by omega) c M2 (rn_fm_tr f1 f2) h2
theorem rp_flow (hM : rn_sh M) (h : rn_Ms M N n K B) (v : rn_vd N) (n0 : 0 ≤ n ∧ n ≤ 5) {r d : Int} (k0 : ¬ ((0 ≤ r ∧ r < N 0) ∧ 0 ≤ d ∧ d ≤ 7) → ∀ M', rn_fm M M' → rn_Ms M' N n K B → Q (some (rn_I (-1))) M')
    (k1 : (0 ≤ r ∧ r < N 0) ∧ 0 ≤ d ∧ d ≤ 7 → ¬ rn_om N r d → ∀ M', rn_fm M M' → rn_Ms M' N n K B → Q (some (rn_I (-2))) M')
    (k2 : (0 ≤ r ∧ r < N 0) ∧ 0 ≤ d ∧ d ≤ 7 → rn_om N r d → rn_o N r 5 = 60 → ∀ M', rn_fm M M' → rn_Ms M' N n K B → Q (some (rn_I (-3))) M')
    (k3 : (0 ≤ r ∧ r < N 0) ∧ 0 ≤ d ∧ d ≤ 7 → rn_om N r d → rn_o N r 5 ≠ 60 → ∀ M', rn_fm M M' → rn_Ms M' (rn_fl N r d) (min (n + 1) 5) (rn_nK n K N) B → Q (some (rn_I (rn_o N r 5 + 1))) M') : rn_ME 142 [rn_R 466, rn_I r, rn_I d] M Q := by
  have v0 := v.1
  refine re_Mo_flow (rb_Mo_flow_0 hM ?_ ?_ ?_ ?_) <;> (try rw [h.1])
  · omega
  · intro c; exact k0 (fun z => by omega) M rn_fm_rf h
  · intro _ c; exact k0 (fun z => c z.2) M rn_fm_rf h
  · intro c c2
    have cc : (0 ≤ r ∧ r < N 0) ∧ 0 ≤ d ∧ d ≤ 7 := ⟨by omega, c2⟩
    have vr := v.2.2.2.2.1 r c.1 (by omega)
    have v5 := vr.2.2.2.1
    refine rm_walks hM h.1 vr (by omega) (fun M1 c1 w1 => ?_)
    obtain ⟨h1, f1⟩ := rn_Ms_fq (rn_fq_PW c1) (rn_ma_PW c1 h.2.2.2) h
    have hM1 := rn_sh_ch c1 hM
    have w := w1 (rn_o N r 5) v5.1 (Int.le_refl _)
    have vx := vr.2.2.2.2.2.2 (rn_o N r 5) v5.1 (Int.le_refl _)
    have sr := rn_sx_r d
    unfold rn_om at *
    refine rb_Mo_flow_25 hM1 ?_ ?_ ?_ ?_ <;> (try rw [h1.1, w.1, w.2])
    · omega
    · intro z; exact k1 cc z M1 f1 h1
    · intro a b; exact k2 cc a b M1 f1 h1
    · intro a b
      refine rm_rec hM1 h1 n0 (fun M2 f2 h2 => ?_)
      have hM2 := rn_sh_ch f2.1 hM1
      refine rb_Mo_flow_76 hM2 (rm_lengthens hM2 h2.1 c.1 (by omega) v5.1 (by omega) (fun M3 c3 e3 => ?_))
      obtain ⟨h3, f3⟩ := rn_Ms_67 c3 e3 h2
      exact rb_Mo_flow_82 (by omega) (k3 cc a b M3 (rn_fm_tr f1 (rn_fm_tr f2 f3)) h3)
theorem rq_append (hM : rn_sh M) (t : 0 ≤ rn_gi M 10 0 ∧ rn_gi M 10 0 ≤ 150) {x : Int} (k0 : ¬ (1 ≤ x ∧ x ≤ 255) → Q (some (rn_I (-1))) M) (k1 : 1 ≤ x ∧ x ≤ 255 → rn_gi M 10 0 = 150 → Q (some (rn_I (-3))) M)
    (k2 : 1 ≤ x ∧ x ≤ 255 → rn_gi M 10 0 ≠ 150 → Q (some (rn_I (rn_gi M 10 0 + 1))) (rn_si (rn_si M 11 (rn_gi M 10 0).toNat x) 10 0 (rn_gi M 10 0 + 1))) : rn_ME 91 [rn_R 8, rn_I x] M Q := by
  refine re_RN_append (rb_RN_append_0 hM k0 (fun c => re_Te_write (rb_Te_write_0 hM ?_ ?_ ?_)))
  · intro _; omega
  · intro z; exact rb_RN_append_24 hM (fun _ => k1 c (by omega)) (fun z => absurd rfl z)
  · intro z
    refine rb_RN_append_24 (rn_sh_si (rn_sh_si hM)) (fun z => by omega) (fun _ => ?_)
    rw [rn_si_eq]
    exact k2 c (by omega)
theorem rp_append (hM : rn_sh M) (t : 0 ≤ rn_gi M 466 4 ∧ rn_gi M 466 4 ≤ 150) {x : Int} (k0 : ¬ (1 ≤ x ∧ x ≤ 255) → Q (some (rn_I (-1))) M) (k1 : 1 ≤ x ∧ x ≤ 255 → rn_gi M 466 4 = 150 → Q (some (rn_I (-3))) M)
    (k2 : 1 ≤ x ∧ x ≤ 255 → rn_gi M 466 4 ≠ 150 → Q (some (rn_I (rn_gi M 466 4 + 1))) (rn_si (rn_si M 469 (rn_gi M 466 4).toNat x) 466 4 (rn_gi M 466 4 + 1))) : rn_ME 189 [rn_R 466, rn_I x] M Q := by
  refine re_Mo_append (rb_Mo_append_0 hM ?_ k0 k1 k2)
  intro _ _; omega
theorem rq_clearText (hM : rn_sh M) (k : Q (some (rn_I (rn_gi M 10 0))) (rn_si M 10 0 0)) : rn_ME 92 [rn_R 8] M Q :=
  re_RN_clearText (rb_RN_clearText_0 hM (re_Te_wipe (rb_Te_wipe_0 hM (rb_RN_clearText_10 k))))
theorem rp_clearText (hM : rn_sh M) (k : Q (some (rn_I (rn_gi M 466 4))) (rn_si M 466 4 0)) : rn_ME 190 [rn_R 466] M Q := re_Mo_clearText (rb_Mo_clearText_0 hM k)
end AC2
