/-! areLabels -/
section LF
variable {G : Nat × (Nat → Int)} {M : rn_M} {Q : rn_Q} {N : Nat → Int} {n : Int} {K : Nat → Nat → Int}
theorem rs_al_285 {l : Int} (l0 : 0 ≤ l) (l1 : l < N 2) {v1 v2 v3 v4 v6 v10 v11 v12 v13 : rn_V} (h4 : rn_ca v4 = 1) : ∀ (j : Nat) (k : Int) (M : rn_M) (v15 v16 : rn_V), rn_Jq G M N n K → 0 ≤ k → k + j = rn_o N (rn_lb N l 0) 0 → (∀ M' w14 w15 w16, rn_Jq G M' N n K → rn_WP 130 353 [rn_R 8, v1, v2, v3, v4, rn_I 1, v6, rn_I (rn_lb N l 0), rn_I (rn_lb N l 1), rn_I (rn_o N (rn_lb N l 0) 0), v10, v11, v12, v13, w14, w15, w16] [] M' Q) → rn_WP 130 285 [rn_R 8, v1, v2, v3, v4, rn_I 1, v6, rn_I (rn_lb N l 0), rn_I (rn_lb N l 1), rn_I (rn_o N (rn_lb N l 0) 0), v10, v11, v12, v13, rn_I k, v15, v16] [] M Q := by
  intro j
  induction j with
  | zero =>
    intro k M v15 v16 J k0 e kk
    exact rb_Lw_areLabels_285 J h4 (fun z => by omega) (fun z => by omega) (fun _ M' J' => kk M' _ _ _ J')
  | succ j ih =>
    intro k M v15 v16 J k0 e kk
    have v := rn_Jv J
    have vl := v.2.2.2.2.2.2 l l0 l1
    have vl2 := vl.2
    have vl1 := vl.1
    have vr := v.2.2.2.2.1 _ vl.1.1 vl.1.2
    have vr0 := vr.1
    have v5 := vr.2.2.2.1
    have vc := vr.2.2.2.2.2.2 (rn_lb N l 1 + k) (by omega) (by omega)
    have w := rl_written v (rn_Jg J) l0 l1 k0 (k := k) (by omega)
    refine rb_Lw_areLabels_285 J h4 (fun _ => ?_) (fun _ M1 J1 => ih (k + 1) M1 _ _ J1 (by omega) (by omega) kk) (fun z => by omega)
    generalize rn_px N (rn_lb N l 0) (rn_lb N l 1 + k).toNat = x at *
    generalize rn_py N (rn_lb N l 0) (rn_lb N l 1 + k).toNat = y at *
    rw [show (100 * x + y) / 100 = x by omega, show (100 * x + y) % 100 = y by omega]
    omega
theorem rs_al_353 (J : rn_Jq G M N n K) {l t : Int} (l0 : 0 ≤ l) (l1 : l < N 2) (ht : (t = 0 ∧ ¬ rn_trn N (rn_lb N l 0) (rn_lb N l 1)) ∨ (t ≠ 0 ∧ rn_trn N (rn_lb N l 0) (rn_lb N l 1))) {v1 v2 v3 v4 v8 v10 v14 v15 v16 : rn_V} (h4 : rn_ca v4 = 1) (kk : ∀ M' w7 w8 w9 w10 w11 w12 w13 w14 w15 w16, rn_Jq G M' N n K → rn_WP 130 15 [rn_R 8, v1, v2, v3, v4, rn_I 1, rn_I (l + 1), w7, w8, w9, w10, w11, w12, w13, w14, w15, w16] [] M' Q) : rn_WP 130 353 [rn_R 8, v1, v2, v3, v4, rn_I 1, rn_I l, rn_I (rn_lb N l 0), v8, rn_I (rn_o N (rn_lb N l 0) 0), v10, rn_I (100 * rn_px N (rn_lb N l 0) (rn_lb N l 1).toNat + rn_py N (rn_lb N l 0) (rn_lb N l 1).toNat), rn_I (100 * rn_px N (rn_lb N l 0) (rn_lb N l 1 + rn_o N (rn_lb N l 0) 0 - 1).toNat + rn_py N (rn_lb N l 0) (rn_lb N l 1 + rn_o N (rn_lb N l 0) 0 - 1).toNat), rn_I t, v14, v15, v16] [] M Q := by
  have v := rn_Jv J
  have vv2 := v.2.2.1
  have vl := v.2.2.2.2.2.2 l l0 l1
  have vl2 := vl.2
  have vl1 := vl.1
  have vr := v.2.2.2.2.1 _ vl.1.1 vl.1.2
  have vr0 := vr.1
  have v5 := vr.2.2.2.1
  have vc1 := vr.2.2.2.2.2.2 (rn_lb N l 1) (by omega) (by omega)
  have vc2 := vr.2.2.2.2.2.2 (rn_lb N l 1 + rn_o N (rn_lb N l 0) 0 - 1) (by omega) (by omega)
  have W : N 2 = 1 → rn_card (rn_clr N (rn_lb N l 0)) 2400 = rn_o N (rn_lb N l 0) 5 + 1 → rn_aWritten N (rn_px N (rn_lb N l 0) (rn_lb N l 1).toNat) (rn_py N (rn_lb N l 0) (rn_lb N l 1).toNat) = rn_o N (rn_lb N l 0) (6 + rn_pick (rn_trn N (rn_lb N l 0) (rn_lb N l 1)) (rn_o N (rn_lb N l 0) 0 - 1) 0) ∧ rn_aWritten N (rn_px N (rn_lb N l 0) (rn_lb N l 1 + rn_o N (rn_lb N l 0) 0 - 1).toNat) (rn_py N (rn_lb N l 0) (rn_lb N l 1 + rn_o N (rn_lb N l 0) 0 - 1).toNat) = rn_o N (rn_lb N l 0) (6 + rn_pick (rn_trn N (rn_lb N l 0) (rn_lb N l 1)) 0 (rn_o N (rn_lb N l 0) 0 - 1)) := by
    intro h1 h2
    obtain rfl : l = 0 := by omega
    have p1 := rl_plo_first (N := N) vl.2.1.1 vr0.1
    have p2 := rl_plo_last (N := N) h2 vl.2.1.1 vr0.1 vl.2.2
    have o1 := rl_one v h1 (k := 0) (by omega) (by omega)
    have o2 := rl_one v h1 (k := rn_o N (rn_lb N 0 0) 0 - 1) (by omega) (by omega)
    rw [show rn_lb N 0 1 + 0 = rn_lb N 0 1 by omega] at o1
    rw [show rn_lb N 0 1 + (rn_o N (rn_lb N 0 0) 0 - 1) = rn_lb N 0 1 + rn_o N (rn_lb N 0 0) 0 - 1 by omega] at o2
    have o1 := o1 p1
    have o2 := o2 p2
    rw [show rn_o N (rn_lb N 0 0) 0 - 1 - 0 = rn_o N (rn_lb N 0 0) 0 - 1 by omega] at o1
    rw [show rn_o N (rn_lb N 0 0) 0 - 1 - (rn_o N (rn_lb N 0 0) 0 - 1) = 0 by omega] at o2
    exact ⟨o1, o2⟩
  generalize rn_px N (rn_lb N l 0) (rn_lb N l 1).toNat = x at *
  generalize rn_py N (rn_lb N l 0) (rn_lb N l 1).toNat = y at *
  generalize rn_px N (rn_lb N l 0) (rn_lb N l 1 + rn_o N (rn_lb N l 0) 0 - 1).toNat = x2 at *
  generalize rn_py N (rn_lb N l 0) (rn_lb N l 1 + rn_o N (rn_lb N l 0) 0 - 1).toNat = y2 at *
  have d1 : (100 * x + y) / 100 = x := by omega
  have d2 : (100 * x + y) % 100 = y := by omega
  have d3 : (100 * x2 + y2) / 100 = x2 := by omega
  have d4 : (100 * x2 + y2) % 100 = y2 := by omega
  have W0 : N 2 = 1 → rn_card (rn_clr N (rn_lb N l 0)) 2400 = rn_o N (rn_lb N l 0) 5 + 1 → t = 0 → rn_aWritten N x y = rn_o N (rn_lb N l 0) (6 + 0) ∧ rn_aWritten N x2 y2 = rn_o N (rn_lb N l 0) (6 + (rn_o N (rn_lb N l 0) 0 - 1)) := by
    intro h1 h2 h3
    have := W h1 h2
    rcases ht with ⟨-, q⟩ | ⟨q, -⟩
    · rw [rn_pick_f q, rn_pick_f q] at this; exact this
    · exact absurd h3 q
  have W1 : N 2 = 1 → rn_card (rn_clr N (rn_lb N l 0)) 2400 = rn_o N (rn_lb N l 0) 5 + 1 → t ≠ 0 → rn_aWritten N x y = rn_o N (rn_lb N l 0) (6 + (rn_o N (rn_lb N l 0) 0 - 1)) ∧ rn_aWritten N x2 y2 = rn_o N (rn_lb N l 0) (6 + 0) := by
    intro h1 h2 h3
    have := W h1 h2
    rcases ht with ⟨q, -⟩ | ⟨-, q⟩
    · exact absurd q h3
    · rw [rn_pick_t q, rn_pick_t q] at this; exact this
  clear W
  have nx : ∀ M', rn_Jq G M' N n K → rn_WP 130 15 [rn_R 8, v1, v2, v3, v4, rn_I 1, rn_I (l + 1), rn_I (rn_lb N l 0), v8, rn_I (rn_o N (rn_lb N l 0) 0), v10, rn_I (100 * x + y), rn_I (100 * x2 + y2), rn_I t, v14, v15, v16] [] M' Q := fun M' J' => kk M' _ _ _ _ _ _ _ _ _ _ J'
  refine rb_Lw_areLabels_353 J h4 ?_ ?_ ?_ ?_ ?_ ?_ ?_ ?_ ?_ ?_ (fun _ _ _ _ => nx) (fun _ _ _ _ => nx) (fun _ _ _ _ => nx) (fun _ _ _ _ => nx) (fun _ _ => nx) (fun _ => nx)
  · intro _; omega
  · intro _ _; omega
  · intro h1 h2 h3; have := W0 h1 h2 h3; rw [d1, d2]; omega
  · intro h1 h2 h3 _; have := W0 h1 h2 h3; rw [d3, d4]; omega
  · intro h1 h2 h3 h4; omega
  · intro h1 h2 h3; have := W1 h1 h2 h3; rw [d1, d2]; omega
  · intro h1 h2 h3 h4; omega
  · intro h1 h2 h3 _; have := W1 h1 h2 h3; rw [d3, d4]; omega
  · intro _ _; omega
  · intro _; omega
theorem rs_al_187 (J : rn_Jq G M N n K) {l t sd : Int} (l0 : 0 ≤ l) (l1 : l < N 2) (hsd : sd = 2 * rn_o N (rn_lb N l 0) 2 + 1) (ht : (t = 0 ∧ ¬ rn_trn N (rn_lb N l 0) (rn_lb N l 1)) ∨ (t ≠ 0 ∧ rn_trn N (rn_lb N l 0) (rn_lb N l 1))) {v1 v2 v3 v4 v5 v11 v13 v14 v15 v16 : rn_V} {z12 : Int} (h4 : rn_ca v4 = 1) (kk : ∀ M', rn_Jq G M' N n K → rn_WP 130 285 [rn_R 8, v1, v2, v3, v4, rn_I 1, rn_I l, rn_I (rn_lb N l 0), rn_I (rn_lb N l 1), rn_I (rn_o N (rn_lb N l 0) 0), rn_I sd, v11, rn_I z12, rn_I t, rn_I 0, v15, v16] [] M' Q) : rn_WP 130 187 [rn_R 8, v1, v2, v3, v4, v5, rn_I l, rn_I (rn_lb N l 0), rn_I (rn_lb N l 1), rn_I (rn_o N (rn_lb N l 0) 0), rn_I sd, v11, rn_I z12, v13, v14, v15, v16] [rn_I t] M Q := by
  have v := rn_Jv J
  have w1 := v.2.1
  have vl := v.2.2.2.2.2.2 l l0 l1
  have vl2 := vl.2
  have vl1 := vl.1
  have vr := v.2.2.2.2.1 _ vl.1.1 vl.1.2
  have vr0 := vr.1
  have vr2 := vr.2.2.1
  have v5 := vr.2.2.2.1
  have c1 := rl_card_ar1 vr vl.2.1.1 vl.2.2
  have c2 := rl_card_ar (N := N) (r := rn_lb N l 0) (s := rn_lb N l 1) (by omega) (by omega)
  have c3 := rn_card_r (fun t => rn_mt' N (rn_lb N l 0) (rn_lb N l 1) t) (N 1).toNat
  have b0 : t = 0 → rn_b (rn_trn N (rn_lb N l 0) (rn_lb N l 1)) = 0 := fun q => rn_bf (ht.elim (fun z => z.2) (fun z => absurd q z.1))
  have b1 : t ≠ 0 → rn_b (rn_trn N (rn_lb N l 0) (rn_lb N l 1)) = 1 := fun q => rn_bt (ht.elim (fun z => absurd z.1 q) (fun z => z.2))
  refine rb_Lw_areLabels_187 J rfl h4 (by omega) (fun q => ?_) (fun q => ?_) (fun _ => kk) (fun _ => kk)
  · have := b0 q
    rcases (by omega : rn_o N (rn_lb N l 0) 2 = 0 ∨ rn_o N (rn_lb N l 0) 2 = 1 ∨ rn_o N (rn_lb N l 0) 2 = 2) with e | e | e <;> rw [e] at hsd c2 <;> subst hsd <;> omega
  · have := b1 q
    rcases (by omega : rn_o N (rn_lb N l 0) 2 = 0 ∨ rn_o N (rn_lb N l 0) 2 = 1 ∨ rn_o N (rn_lb N l 0) 2 = 2) with e | e | e <;> rw [e] at hsd c2 <;> subst hsd <;> omega
theorem rs_al_99 (J : rn_Jq G M N n K) {l a1 a2 a3 a4 : Int} (l0 : 0 ≤ l) (l1 : l < N 2) (h4 : 0 ≤ a4 ∧ a4 ≤ 48000) {v11 v12 v13 v14 v15 v16 : rn_V} (kk : ∀ M' w7 w8 w9 w10 w11 w12 w13 w14 w15 w16, rn_Jq G M' N n K → rn_WP 130 15 [rn_R 8, rn_I a1, rn_I a2, rn_I (rn_or a3 (rn_shl 1 (rn_lb N l 0))), rn_I (a4 + rn_card (rn_ar N (rn_lb N l 0) (rn_lb N l 1)) 2400), rn_I 1, rn_I (l + 1), w7, w8, w9, w10, w11, w12, w13, w14, w15, w16] [] M' Q) : rn_WP 130 99 [rn_R 8, rn_I a1, rn_I a2, rn_I a3, rn_I a4, rn_I 1, rn_I l, rn_I (rn_lb N l 0), rn_I (rn_lb N l 1), rn_I (rn_o N (rn_lb N l 0) 0), rn_I (2 * rn_o N (rn_lb N l 0) 2 + 1), v11, v12, v13, v14, v15, v16] [] M Q := by
  have v := rn_Jv J
  have vl := v.2.2.2.2.2.2 l l0 l1
  have vl2 := vl.2
  have vl1 := vl.1
  have vr := v.2.2.2.2.1 _ vl.1.1 vl.1.2
  have vr0 := vr.1
  have vr2 := vr.2.2.1
  have v5 := vr.2.2.2.1
  have c3 := rn_card_r (rn_ar N (rn_lb N l 0) (rn_lb N l 1)) 2400
  have vc1 := vr.2.2.2.2.2.2 (rn_lb N l 1) (by omega) (by omega)
  have vc2 := vr.2.2.2.2.2.2 (rn_lb N l 1 + rn_o N (rn_lb N l 0) 0 - 1) (by omega) (by omega)
  refine rb_Lw_areLabels_99 J rfl rfl (by omega) (fun M1 J1 => ?_)
  have fin : ∀ {t : Int} {M2 : rn_M}, rn_Jq G M2 N n K → ((t = 0 ∧ ¬ rn_trn N (rn_lb N l 0) (rn_lb N l 1)) ∨ (t ≠ 0 ∧ rn_trn N (rn_lb N l 0) (rn_lb N l 1))) → rn_WP 130 187 [rn_R 8, rn_I a1, rn_I a2, rn_I (rn_or a3 (rn_shl 1 (rn_lb N l 0))), rn_I (a4 + rn_card (rn_ar N (rn_lb N l 0) (rn_lb N l 1)) 2400), rn_I 1, rn_I l, rn_I (rn_lb N l 0), rn_I (rn_lb N l 1), rn_I (rn_o N (rn_lb N l 0) 0), rn_I (2 * rn_o N (rn_lb N l 0) 2 + 1), rn_I (100 * rn_px N (rn_lb N l 0) (rn_lb N l 1).toNat + rn_py N (rn_lb N l 0) (rn_lb N l 1).toNat), rn_I (100 * rn_px N (rn_lb N l 0) (rn_lb N l 1 + rn_o N (rn_lb N l 0) 0 - 1).toNat + rn_py N (rn_lb N l 0) (rn_lb N l 1 + rn_o N (rn_lb N l 0) 0 - 1).toNat), v13, v14, v15, v16] [rn_I t] M2 Q := by
    intro t M2 J2 ht
    refine rs_al_187 J2 l0 l1 rfl ht rfl (fun M3 J3 => ?_)
    exact rs_al_285 l0 l1 rfl (rn_o N (rn_lb N l 0) 0).toNat 0 M3 _ _ J3 (by omega) (by omega) (fun M4 _ _ _ J4 => rs_al_353 J4 l0 l1 ht rfl kk)
  have tr : rn_trn N (rn_lb N l 0) (rn_lb N l 1) ↔ rn_px N (rn_lb N l 0) (rn_lb N l 1 + rn_o N (rn_lb N l 0) 0 - 1).toNat < rn_px N (rn_lb N l 0) (rn_lb N l 1).toNat ∨ rn_px N (rn_lb N l 0) (rn_lb N l 1 + rn_o N (rn_lb N l 0) 0 - 1).toNat = rn_px N (rn_lb N l 0) (rn_lb N l 1).toNat ∧ rn_py N (rn_lb N l 0) (rn_lb N l 1 + rn_o N (rn_lb N l 0) 0 - 1).toNat < rn_py N (rn_lb N l 0) (rn_lb N l 1).toNat := Iff.rfl
  generalize rn_px N (rn_lb N l 0) (rn_lb N l 1).toNat = x at *
  generalize rn_py N (rn_lb N l 0) (rn_lb N l 1).toNat = y at *
  generalize rn_px N (rn_lb N l 0) (rn_lb N l 1 + rn_o N (rn_lb N l 0) 0 - 1).toNat = x2 at *
  generalize rn_py N (rn_lb N l 0) (rn_lb N l 1 + rn_o N (rn_lb N l 0) 0 - 1).toNat = y2 at *
  refine rb_Lw_areLabels_143 J1 (by omega) (fun _ => by omega) (fun _ _ => by omega) (fun c M2 J2 => fin J2 (Or.inr ⟨by omega, tr.mpr (by omega)⟩)) (fun c1 c2 c3 M2 J2 => fin J2 (Or.inr ⟨by omega, tr.mpr (by omega)⟩)) (fun c1 c2 c3 M2 J2 => fin J2 (Or.inl ⟨rfl, fun z => by have := tr.mp z; omega⟩)) (fun c1 c2 M2 J2 => fin J2 (Or.inl ⟨rfl, fun z => by have := tr.mp z; omega⟩))
theorem rs_al_15 : ∀ (j : Nat) (l : Nat) (M : rn_M) (v7 v8 v9 v10 v11 v12 v13 v14 v15 v16 : rn_V), rn_Jq G M N n K → (l : Int) + j = N 2 → (∀ M' w9 w10 w11 w12 w13 w14 w15 w16, rn_Jq G M' N n K → rn_WP 130 480 [rn_R 8, rn_I (rn_cs N (N 2).toNat), rn_I (rn_card (fun l => rn_mf N l) (N 2).toNat), rn_I (rl_st N (N 2).toNat), rn_I (rl_ca N (N 2).toNat), rn_I 1, rn_I 0, rn_I 0, rn_I 0, w9, w10, w11, w12, w13, w14, w15, w16] [] M' Q) → rn_WP 130 15 [rn_R 8, rn_I (rn_cs N l), rn_I (rn_card (fun l => rn_mf N l) l), rn_I (rl_st N l), rn_I (rl_ca N l), rn_I 1, rn_I l, v7, v8, v9, v10, v11, v12, v13, v14, v15, v16] [] M Q := by
  intro j
  induction j with
  | zero =>
    intro l M v7 v8 v9 v10 v11 v12 v13 v14 v15 v16 J e kk
    obtain rfl : l = (N 2).toNat := by omega
    exact rb_Lw_areLabels_15 J (fun z => by omega) (fun z => by omega) (fun z => by omega) (fun z => by omega) (fun z => by omega) (fun _ M' J' => kk M' _ _ _ _ _ _ _ _ J')
  | succ j ih =>
    intro l M v7 v8 v9 v10 v11 v12 v13 v14 v15 v16 J e kk
    have v := rn_Jv J
    have v2 := v.2.2.1
    have vl := v.2.2.2.2.2.2 l (by omega) (by omega)
    have vl1 := vl.1
    have vr := v.2.2.2.2.1 _ vl.1.1 vl.1.2
    have vr2 := vr.2.2.1
    have s1 := rl_cs_r v l (by omega)
    have s2 := rn_card_r (fun l => rn_mf N l) l
    have s4 := rl_ca_r v l (by omega)
    have cr := rn_cost_r vr vl.2.1.1 vl.2.2
    have wr := rl_why_r (N := N) (r := rn_lb N l 0) (s := rn_lb N l 1) (k := rn_o N (rn_lb N l 0) 1) (but := l)
    have cm : rn_card (fun l => rn_mf N l) (l + 1) = rn_card (fun l => rn_mf N l) l + rn_b (rn_mf N l) := rfl
    have nx := fun (M' : rn_M) (w7 w8 w9 w10 w11 w12 w13 w14 w15 w16 : rn_V) (J' : rn_Jq G M' N n K) => ih (l + 1) M' w7 w8 w9 w10 w11 w12 w13 w14 w15 w16 J' (by omega) kk
    refine rb_Lw_areLabels_15 J (fun _ => by omega) (fun _ _ => by omega) (fun _ _ => by omega) (fun _ c M1 J1 => ?_) (fun _ c M1 J1 => ?_) (fun z => by omega)
    · refine rs_al_99 J1 (by omega) (by omega) (by omega) (fun M' w7 w8 w9 w10 w11 w12 w13 w14 w15 w16 J' => ?_)
      have := nx M' w7 w8 w9 w10 w11 w12 w13 w14 w15 w16 J'
      rw [cm, rn_bf (fun (z : rn_mf N l) => z (by omega))] at this
      exact this
    · refine rs_al_99 J1 (by omega) (by omega) (by omega) (fun M' w7 w8 w9 w10 w11 w12 w13 w14 w15 w16 J' => ?_)
      have := nx M' w7 w8 w9 w10 w11 w12 w13 w14 w15 w16 J'
      rw [cm, rn_bt (show rn_mf N l from fun z => c (by omega))] at this
      exact this
theorem rs_al_480 {v1 v2 v4 : rn_V} : ∀ (j : Nat) (r : Nat) (M : rn_M) (v9 v10 v11 v12 v13 v14 v15 v16 : rn_V), rn_Jq G M N n K → (r : Int) + j = N 0 → (∀ M' w8, rn_Jq G M' N n K → rn_WP 130 530 [rn_R 8, v1, v2, rn_I (rl_st N (N 2).toNat), v4, rn_I 1, rn_I (rn_wo N (N 0).toNat), rn_I (rl_ls N (N 0).toNat), w8, v9, v10, v11, v12, v13, v14, v15, v16] [] M' Q) → rn_WP 130 480 [rn_R 8, v1, v2, rn_I (rl_st N (N 2).toNat), v4, rn_I 1, rn_I (rn_wo N r), rn_I (rl_ls N r), rn_I r, v9, v10, v11, v12, v13, v14, v15, v16] [] M Q := by
  intro j
  induction j with
  | zero =>
    intro r M v9 v10 v11 v12 v13 v14 v15 v16 J e kk
    obtain rfl : r = (N 0).toNat := by omega
    exact rb_Lw_areLabels_480 J (fun z => by omega) (fun z => by omega) (fun z => by omega) (fun z => by omega) (fun _ M' J' => kk M' _ J')
  | succ j ih =>
    intro r M v9 v10 v11 v12 v13 v14 v15 v16 J e kk
    have v := rn_Jv J
    have v0 := v.1
    have s1 := rl_ls_r v r
    have s2 := rl_lo_r v (r := r)
    have bit := rl_st_lo v (r := r) (by omega) (by omega)
    have w0 : rn_wo N (r + 1) = rn_pick (rn_lo N r = 0) (rn_or (rn_wo N r) (rn_shl 1 r)) (rn_wo N r) := rfl
    have wr := rl_wo_r (N := N) r
    refine rb_Lw_areLabels_480 J (fun _ _ => by omega) (fun _ _ => by omega) (fun _ c M1 J1 => ?_) (fun _ c M1 J1 => ?_) (fun z => by omega)
    · have := ih (r + 1) M1 v9 v10 v11 v12 v13 v14 v15 v16 J1 (by omega) kk
      rw [w0, rn_pick_t (bit.mp c)] at this
      exact this
    · have := ih (r + 1) M1 v9 v10 v11 v12 v13 v14 v15 v16 J1 (by omega) kk
      rw [w0, rn_pick_f (fun z => c (bit.mpr z))] at this
      rw [rl_or0 wr]
      exact this
theorem iq_areLabels (J : rn_Jq G M N n K) (k : ∀ M', rn_Jq G M' N n K → Q (some (rn_I 1)) M') : rn_ME 130 [rn_R 8] M Q := by
  have v := rn_Jv J
  have v0 := v.1
  have v2 := v.2.2.1
  refine re_Lw_areLabels (rb_Lw_areLabels_0 J (fun M1 J1 => ?_))
  refine rs_al_15 (N 2).toNat 0 M1 _ _ _ _ _ _ _ _ _ _ J1 (by omega) (fun M2 w9 w10 w11 w12 w13 w14 w15 w16 J2 => ?_)
  refine rs_al_480 (N 0).toNat 0 M2 _ _ _ _ _ _ _ _ J2 (by omega) (fun M3 w8 J3 => ?_)
  have a1 := rl_ls_all v
  have a2 := rl_cv_le (N := N) (N 2).toNat
  rw [show (((N 2).toNat : Nat) : Int) = N 2 by omega] at a2
  have a3 := rl_ca_r v (N 2).toNat (by omega)
  have a4 := rn_card_r (rn_cv2 N (N 2)) 2400
  have a5 : N 2 = 1 → rn_card (rn_cv2 N (N 2)) 2400 = rl_ca N (N 2).toNat := fun q => by rw [q]; exact rl_cv_one
  have a6 : rn_card (rn_cv2 N (N 2)) 2400 = 0 → N 2 = 0 := rl_cv_0 v
  exact rb_Lw_areLabels_530 J3 ⟨rfl, rfl, rfl, a1, by omega⟩ (fun _ _ => a5) (fun c1 c2 => c2 (by omega)) (fun c1 c2 => c1 (by have := a6 c2; omega)) (fun _ _ => a5) (fun _ _ _ => k) (fun _ _ _ => k) (fun _ _ _ => k) (fun _ _ _ => k)
end LF
