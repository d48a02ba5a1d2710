/-! load of the reference -/
def rn_fq2 (M M' : rn_M) : Prop := rn_ch (fun a => rn_Pp a ∨ a = 474 ∨ a = 475) M M' ∧ ∀ j, j ≠ 9 → j ≠ 10 → j ≠ 11 → rn_gi M' 466 j = rn_gi M 466 j
theorem rn_fq2_tr {M M1 M2 : rn_M} (h : rn_fq2 M M1) (g : rn_fq2 M1 M2) : rn_fq2 M M2 := ⟨rn_ch_tr h.1 g.1, fun j a b c => (g.2 j a b c).trans (h.2 j a b c)⟩
theorem rn_fq2_fp {M M1 : rn_M} (h : rn_fp M M1) : rn_fq2 M M1 := ⟨rn_ch_mono (fun a z => Or.inl z) h.1, h.2⟩
theorem rn_fq2_ch {P : Nat → Prop} {M M1 : rn_M} (hP : ∀ a, P a → a = 467 ∨ a = 474 ∨ a = 475) (h : rn_ch P M M1) : rn_fq2 M M1 :=
  ⟨rn_ch_mono (fun a z => by have := hP a z; unfold rn_Pp; omega) h, fun j _ _ _ => by rw [h.2.2 466 (fun z => by have := hP 466 z; omega)]⟩
section LO4
variable {M : rn_M} {Q : rn_Q} {T : Int → Int} {n : Int} {N : Nat → Int} {m B : Int} {K : Nat → Nat → Int}
theorem rn_Ms_p {M' : rn_M} (c : rn_fq2 M M') (h : rn_Ms M N m K B) : rn_Ms M' (rn_gi M' 467) m K B ∧ rn_gi M' 469 = rn_gi M 469 ∧ rn_gi M' 466 4 = rn_gi M 466 4 ∧ rn_ch (fun a => 466 ≤ a) M M' := by
  obtain ⟨h1, h2, h3, h4⟩ := h
  have p : ∀ a, a = 468 ∨ a = 469 ∨ a = 472 → rn_gi M' a = rn_gi M a := fun a ha => c.1.2.2 a (fun z => by unfold rn_Pp at z; omega)
  refine ⟨⟨rfl, (c.2 2 (by omega) (by omega) (by omega)).trans h2, fun i hi j hj => ?_, ?_⟩, p 469 (by omega), c.2 4 (by omega) (by omega) (by omega), rn_ch_mono (fun a z => by unfold rn_Pp at z; omega) c.1⟩
  · rw [p 468 (by omega)]; exact h3 i hi j hj
  · unfold rn_ma; rw [p 472 (by omega), c.2 8 (by omega) (by omega) (by omega)]; exact h4
theorem rn_TM_q2 {M1 : rn_M} (h : rn_TM M T n) (c : rn_fq2 M M1) : rn_TM M1 T n := ⟨(c.2 4 (by omega) (by omega) (by omega)).trans h.1, fun i i0 i1 => by rw [c.1.2.2 469 (fun z => by unfold rn_Pp at z; omega)]; exact h.2 i i0 i1⟩
/-- a refusal, an end lie in the text -/
def rn_gx (S : Int ⊕ Int) (n : Int) : Prop := (∀ p, S = .inl p → 0 ≤ p ∧ p ≤ n) ∧ ∀ e, S = .inr e → 0 ≤ e ∧ e ≤ n
theorem rn_gx_q {P : Prop} {e : Int} (he : 0 ≤ e ∧ e ≤ n) : rn_gx (rn_pq P (.inr (rn_te T n (rn_tks T n e))) (.inl (rn_tks T n e))) n := by
  have br := rn_tks_r (T := T) he.2
  have er := rn_te_r (T := T) br.2
  by_cases c : P
  · rw [rn_pq_t c]; exact ⟨fun p h => by (cases h), fun e h => by have := Sum.inr.inj h; omega⟩
  · rw [rn_pq_f c]; exact ⟨fun p h => by have := Sum.inl.inj h; omega, fun e h => by (cases h)⟩
theorem rn_gx_n {a b : Int} {S : Int ⊕ Int} (h : rn_gx S n) : rn_gx (rn_nS T n a b S) n := by
  cases S with
  | inl p => exact h
  | inr e => exact rn_gx_q (h.2 e rfl)
theorem rn_gx_m {S : Int ⊕ Int} (h : rn_gx S n) : rn_gx (rn_mS T n S) n := by
  cases S with
  | inl p => exact h
  | inr e => exact rn_gx_q (h.2 e rfl)
theorem rn_gx_s {S : Int ⊕ Int} (h : rn_gx S n) : rn_gx (rn_sS T n S) n := by
  cases S with
  | inl p => exact h
  | inr e => exact rn_gx_q (h.2 e rfl)
theorem rn_gx_v {r : Int} {N : Nat → Int} {S : Int ⊕ Int} (h : rn_gx S n) : rn_gx (rn_vS T n r N S) n := by
  cases S with
  | inl p => exact h
  | inr e => exact rn_gx_q (h.2 e rfl)
theorem rn_gx_r7 {e : Int} (h : 0 ≤ e ∧ e ≤ n) : rn_gx (rn_r7 T n N e) n :=
  rn_gx_s (rn_gx_v (rn_gx_n (rn_gx_n (rn_gx_n (rn_gx_n (rn_gx_m ⟨fun p q => by (cases q), fun e' he => by have := Sum.inr.inj he; omega⟩))))))
theorem rn_gx_t6 {e : Int} (h : 0 ≤ e ∧ e ≤ n) : rn_gx (rn_ta6 T n e) n :=
  rn_gx_s (rn_gx_n (rn_gx_n (rn_gx_n (rn_gx_n (rn_gx_n ⟨fun p q => by (cases q), fun e' he => by have := Sum.inr.inj he; omega⟩)))))
theorem rm_keeps (hM : rn_sh M) (k : ∀ M', rn_ch (fun a => a = 474) M M' → (∀ j : Nat, j < 562 → rn_gi M' 474 j = rn_gi M 467 j) → Q none M') : rn_ME 202 [rn_R 466] M Q := by
  refine re_Mo_keeps (rb_Mo_keeps_0 ?_)
  have loop : ∀ (m i : Nat) (M1 : rn_M), m + i = 562 → rn_ch (fun a => a = 474) M M1 → (∀ j : Nat, j < i → rn_gi M1 474 j = rn_gi M 467 j) → rn_WP 202 2 [rn_R 466, rn_I (i : Int)] [] M1 Q := by
    intro m
    induction m with
    | zero =>
      intro i M1 hi c1 w1
      refine rb_Mo_keeps_2 (rn_sh_ch c1 hM) ?_ ?_ ?_
      · intro z; omega
      · intro z; omega
      · intro _; exact k M1 c1 (fun j hj => w1 j (by omega))
    | succ m ih =>
      intro i M1 hi c1 w1
      refine rb_Mo_keeps_2 (rn_sh_ch c1 hM) ?_ ?_ ?_
      · intro _; omega
      · intro _
        rw [Int.toNat_natCast, c1.2.2 467 (by omega)]
        have := ih (i + 1) (rn_si M1 474 i (rn_gi M 467 i)) (by omega) (rn_ch_tr c1 (rn_ch_si rfl)) (fun j hj => by
          by_cases e : j = i
          · rw [e, rn_si_eq]
          · rw [rn_si_ne (fun z => e z.2)]; exact w1 j (by omega))
        rw [show ((i + 1 : Nat) : Int) = (i : Int) + 1 by omega] at this
        exact this
      · intro z; omega
  exact loop 562 0 M (by omega) rn_ch_rf (fun j hj => by omega)
theorem rm_takesBack (hM : rn_sh M) (k : ∀ M', rn_ch rn_P67 M M' → (∀ j : Nat, j < 562 → rn_gi M' 467 j = rn_gi M 474 j) → Q none M') : rn_ME 203 [rn_R 466] M Q := by
  refine re_Mo_takesBack (rb_Mo_takesBack_0 ?_)
  have loop : ∀ (m i : Nat) (M1 : rn_M), m + i = 562 → rn_ch rn_P67 M M1 → (∀ j : Nat, j < i → rn_gi M1 467 j = rn_gi M 474 j) → rn_WP 203 2 [rn_R 466, rn_I (i : Int)] [] M1 Q := by
    intro m
    induction m with
    | zero =>
      intro i M1 hi c1 w1
      refine rb_Mo_takesBack_2 (rn_sh_ch c1 hM) ?_ ?_ ?_
      · intro z; omega
      · intro z; omega
      · intro _; exact k M1 c1 (fun j hj => w1 j (by omega))
    | succ m ih =>
      intro i M1 hi c1 w1
      refine rb_Mo_takesBack_2 (rn_sh_ch c1 hM) ?_ ?_ ?_
      · intro _; omega
      · intro _
        rw [Int.toNat_natCast, c1.2.2 474 (fun z => by unfold rn_P67 at z; omega)]
        have := ih (i + 1) (rn_si M1 467 i (rn_gi M 474 i)) (by omega) (rn_ch_tr c1 (rn_ch_si rfl)) (fun j hj => by
          by_cases e : j = i
          · rw [e, rn_si_eq]
          · rw [rn_si_ne (fun z => e z.2)]; exact w1 j (by omega))
        rw [show ((i + 1 : Nat) : Int) = (i : Int) + 1 by omega] at this
        exact this
      · intro z; omega
  exact loop 562 0 M (by omega) rn_ch_rf (fun j hj => by omega)
theorem rm_isRiverWord {e : Int} (hM : rn_sh M) (tt : rn_TT T n) (t : rn_TM M T n) (h : rn_tat M T n e) (he : 0 ≤ e ∧ e ≤ n) (k : Q (some (rn_I (rn_b (rn_isW T n (rn_tks T n e) 5 rn_wR)))) M) : rn_ME 194 [rn_R 466] M Q := by
  have n0 := tt.1
  have br := rn_tks_r (T := T) he.2
  have er := rn_te_r (T := T) br.2
  obtain ⟨h9, h10⟩ := h
  unfold rn_isW at k
  generalize rn_tks T n e = b at *
  generalize rn_te T n b = d at *
  have tm : ∀ i : Int, 0 ≤ i → d - b = 5 → i < 5 → rn_gi M 469 (b + i).toNat = T (b + i) := fun i i0 e5 i5 => t.2 (b + i) (by omega) (by omega)
  have tm0 : d - b = 5 → rn_gi M 469 b.toNat = T b := fun e5 => t.2 b (by omega) (by omega)
  have bz : b + ((0 : Nat) : Int) = b := by omega
  refine re_Mo_isRiverWord (rb_Mo_isRiverWord_0 hM ?_ ?_ ?_ ?_ ?_ ?_ ?_ ?_ ?_ ?_ ?_ ?_ ?_) <;> rw [h9] <;> (try rw [h10])
  · omega
  · intro _; omega
  · intro _ _; omega
  · intro _ _ _; omega
  · intro _ _ _ _; omega
  · intro _ _ _ _ _; omega
  · intro c c0 c1 c2 c3 c4
    rw [tm0 c] at c0; rw [tm 1 (by omega) c (by omega)] at c1; rw [tm 2 (by omega) c (by omega)] at c2; rw [tm 3 (by omega) c (by omega)] at c3; rw [tm 4 (by omega) c (by omega)] at c4
    refine rn_kt ⟨c, fun i hi => ?_⟩ k
    rcases (by omega : i = 0 ∨ i = 1 ∨ i = 2 ∨ i = 3 ∨ i = 4) with q | q | q | q | q <;> subst q
    · rw [bz]; exact c0
    · exact c1
    · exact c2
    · exact c3
    · exact c4
  · intro c c0 c1 c2 c3 c4
    rw [tm 4 (by omega) c (by omega)] at c4
    exact rn_kf (fun z => c4 (z.2 4 (by omega))) k
  · intro c c0 c1 c2 c3
    rw [tm 3 (by omega) c (by omega)] at c3
    exact rn_kf (fun z => c3 (z.2 3 (by omega))) k
  · intro c c0 c1 c2
    rw [tm 2 (by omega) c (by omega)] at c2
    exact rn_kf (fun z => c2 (z.2 2 (by omega))) k
  · intro c c0 c1
    rw [tm 1 (by omega) c (by omega)] at c1
    exact rn_kf (fun z => c1 (z.2 1 (by omega))) k
  · intro c c0
    rw [tm0 c] at c0
    exact rn_kf (fun z => c0 (by have := z.2 0 (by omega); rw [bz] at this; exact this)) k
  · intro c; exact rn_kf (fun z => c z.1) k
theorem rm_isTownWord {e : Int} (hM : rn_sh M) (tt : rn_TT T n) (t : rn_TM M T n) (h : rn_tat M T n e) (he : 0 ≤ e ∧ e ≤ n) (k : Q (some (rn_I (rn_b (rn_isW T n (rn_tks T n e) 4 rn_wT)))) M) : rn_ME 195 [rn_R 466] M Q := by
  have n0 := tt.1
  have br := rn_tks_r (T := T) he.2
  have er := rn_te_r (T := T) br.2
  obtain ⟨h9, h10⟩ := h
  unfold rn_isW at k
  generalize rn_tks T n e = b at *
  generalize rn_te T n b = d at *
  have tm : ∀ i : Int, 0 ≤ i → d - b = 4 → i < 4 → rn_gi M 469 (b + i).toNat = T (b + i) := fun i i0 e5 i5 => t.2 (b + i) (by omega) (by omega)
  have tm0 : d - b = 4 → rn_gi M 469 b.toNat = T b := fun e5 => t.2 b (by omega) (by omega)
  have bz : b + ((0 : Nat) : Int) = b := by omega
  refine re_Mo_isTownWord (rb_Mo_isTownWord_0 hM ?_ ?_ ?_ ?_ ?_ ?_ ?_ ?_ ?_ ?_ ?_) <;> rw [h9] <;> (try rw [h10])
  · omega
  · intro _; omega
  · intro _ _; omega
  · intro _ _ _; omega
  · intro _ _ _ _; omega
  · intro c c0 c1 c2 c3
    rw [tm0 c] at c0; rw [tm 1 (by omega) c (by omega)] at c1; rw [tm 2 (by omega) c (by omega)] at c2; rw [tm 3 (by omega) c (by omega)] at c3
    refine rn_kt ⟨c, fun i hi => ?_⟩ k
    rcases (by omega : i = 0 ∨ i = 1 ∨ i = 2 ∨ i = 3) with q | q | q | q <;> subst q
    · rw [bz]; exact c0
    · exact c1
    · exact c2
    · exact c3
  · intro c c0 c1 c2 c3
    rw [tm 3 (by omega) c (by omega)] at c3
    exact rn_kf (fun z => c3 (z.2 3 (by omega))) k
  · intro c c0 c1 c2
    rw [tm 2 (by omega) c (by omega)] at c2
    exact rn_kf (fun z => c2 (z.2 2 (by omega))) k
  · intro c c0 c1
    rw [tm 1 (by omega) c (by omega)] at c1
    exact rn_kf (fun z => c1 (z.2 1 (by omega))) k
  · intro c c0
    rw [tm0 c] at c0
    exact rn_kf (fun z => c0 (by have := z.2 0 (by omega); rw [bz] at this; exact this)) k
  · intro c; exact rn_kf (fun z => c z.1) k
theorem rn_rM_vd {e e' : Int} (tt : rn_TT T n) (v : rn_vd N) (c : N 0 ≤ 5) (he : 0 ≤ e ∧ e ≤ n) (h7 : rn_r7 T n N e = .inr e') : rn_vd (rn_rM T n N e) := by
  have v0 := v.1
  obtain ⟨e6, h6, _⟩ := rn_sS_i h7
  obtain ⟨e5, h5, hm, _⟩ := rn_vS_i h6
  obtain ⟨rg, nm, _⟩ := rn_r5_i tt he h5
  have rM : rn_rM T n N e = rn_mvs T (rn_tks T n e5) (N 0) (rn_te T n (rn_tks T n e5) - rn_tks T n e5).toNat (rn_rN T n N e) := by unfold rn_rM; rw [h5]
  have vN : rn_vd (rn_rN T n N e) := rn_nr_vd v c rg nm
  rw [rM]
  exact (rn_mvs_ok vN v0.1 (by show N 0 < rn_nr _ _ _ _ _ _ _ 0; rw [rn_nr_0]; omega) _ hm.2).1
theorem rn_tM_vd {e : Int} (v : rn_vd N) (c : N 1 ≤ 9) : rn_vd (rn_tM T n N e) := by
  have rx : 0 ≤ rn_tax T n e ∧ rn_tax T n e ≤ 59 := rn_nV_r (T := T) (n := n) (S := .inr e) (by omega)
  have ry : 0 ≤ rn_tay T n e ∧ rn_tay T n e ≤ 39 := rn_nV_r (T := T) (n := n) (S := rn_ta1 T n e) (by omega)
  have rw' : 1 ≤ rn_twd T n e ∧ rn_twd T n e ≤ min 12 (60 - rn_tax T n e) := rn_nV_r (T := T) (n := n) (S := rn_ta2 T n e) (by omega)
  have rh : 1 ≤ rn_tht T n e ∧ rn_tht T n e ≤ min 3 (40 - rn_tay T n e) := rn_nV_r (T := T) (n := n) (S := rn_ta3 T n e) (by omega)
  have rk : 1 ≤ rn_trk T n e ∧ rn_trk T n e ≤ 9 := rn_nV_r (T := T) (n := n) (S := rn_ta4 T n e) (by omega)
  exact rn_at5_vd v c (by omega)
theorem rp_load (hM : rn_sh M) (tt : rn_TT T n) (t : rn_TM M T n) (h : rn_Ms M N m K B) (v : rn_vd N) (m0 : 0 ≤ m ∧ m ≤ 5)
    (k1 : 0 ≤ (rn_lS T n 151 N 0 0).1 → ∀ M', rn_ch (fun a => 466 ≤ a) M M' → rn_gi M' 466 4 = 0 → (∀ j : Nat, j < 562 → rn_gi M' 467 j = (rn_lS T n 151 N 0 0).2 j) → rn_Ms M' (rn_gi M' 467) (min (m + 1) 5) (rn_nK m K N) B → Q (some (rn_I (rn_lS T n 151 N 0 0).1)) M')
    (k2 : (rn_lS T n 151 N 0 0).1 < 0 → ∀ M', rn_ch (fun a => 466 ≤ a) M M' → rn_gi M' 469 = rn_gi M 469 → rn_gi M' 466 4 = rn_gi M 466 4 → (∀ j : Nat, j < 562 → rn_gi M' 467 j = N j) → rn_Ms M' (rn_gi M' 467) m K B → Q (some (rn_I (rn_lS T n 151 N 0 0).1)) M') : rn_ME 201 [rn_R 466] M Q := by
  have n0 := tt.1
  have hN := h.1
  generalize hR : rn_lS T n 151 N 0 0 = R at k1 k2
  refine re_Mo_load (rb_Mo_load_0 hM (rm_keeps hM (fun M0 c0 w0 => ?_)))
  have hM0 := rn_sh_ch c0 hM
  have q0 : rn_fq2 M M0 := rn_fq2_ch (fun a z => by omega) c0
  refine rb_Mo_load_4 hM0 ?_
  have f1 : rn_ft M0 (rn_si M0 466 10 0) := rn_ft_si (by omega)
  have q1 := rn_fq2_tr q0 (rn_fq2_fp (rn_fp_ft f1))
  refine rm_nextToken (e := 0) (rn_sh_si hM0) tt (rn_TM_q2 t q1) rn_si_eq (by omega) (fun M2 f2 _ g9 g10 => rb_Mo_load_13 ?_)
  have q2 := rn_fq2_tr q1 (rn_fq2_fp (rn_fp_ft f2))
  have g2 : rn_gi M2 467 = N := by rw [f2.1.2.2 467 (by omega), f1.1.2.2 467 (by omega), c0.2.2 467 (by omega)]; exact hN
  have a2 : rn_gi M2 474 = rn_gi M0 474 := by rw [f2.1.2.2 474 (by omega), f1.1.2.2 474 (by omega)]
  have w0 : ∀ j : Nat, j < 562 → rn_gi M0 474 j = N j := fun j hj => by rw [w0 j hj, hN]
  clear f1 f2 q0 q1
  have loop : ∀ (f : Nat) (N1 : Nat → Int) (e i : Int) (M1 : rn_M) (w : rn_V), n - e < f → 0 ≤ i → i ≤ e → 0 ≤ e ∧ e ≤ n → rn_fq2 M M1 → rn_gi M1 467 = N1 → rn_gi M1 474 = rn_gi M0 474 → rn_vd N1 → rn_tat M1 T n e → rn_lS T n f N1 e i = R → rn_WP 201 17 [rn_R 466, rn_I i, rn_I 1, w] [] M1 Q := by
    intro f
    induction f with
    | zero => intro N1 e i M1 w hf; intros; omega
    | succ f ih =>
      intro N1 e i M1 w hf i0 ie he c1 g1 a1 v1 at1 eq
      have hM1 := rn_sh_ch c1.1 hM
      have t1 := rn_TM_q2 t c1
      have br := rn_tks_r (T := T) he.2
      have er := rn_te_r (T := T) br.2
      have u0 := v1.1
      have u1 := v1.2.1
      unfold rn_lS at eq
      have out : ∀ (p1 x : Int) (M2 : rn_M) (w : rn_V), T (rn_tks T n e) ≠ 0 → rn_iS T n N1 (rn_tks T n e) = .inl p1 → rn_fq2 M M2 → rn_gi M2 474 = rn_gi M0 474 → rn_gi M2 466 9 = p1 → 0 ≤ p1 ∧ p1 ≤ n → rn_WP 201 17 [rn_R 466, rn_I x, rn_I 0, w] [] M2 Q := by
        intro p1 x M2 w hT hi c2 a2 g9 h5
        rw [rn_pq_f hT, hi] at eq
        dsimp only at eq
        have hM2 := rn_sh_ch c2.1 hM
        have back : rn_ME 203 [rn_R 466] M2 (fun r M3 => rn_WP 201 80 [rn_R 466, rn_I x, rn_I 0, w] (r.toList ++ []) M3 Q) := by
          refine rm_takesBack hM2 (fun M3 c3 w3 => ?_)
          have c23 := rn_fq2_tr c2 (rn_fq2_ch (fun a z => Or.inl z) c3)
          obtain ⟨ms, e69, e4, ch⟩ := rn_Ms_p c23 h
          have g9' : rn_gi M3 466 9 = p1 := by rw [c3.2.2 466 (fun z => by unfold rn_P67 at z; omega)]; exact g9
          refine rb_Mo_load_80 (rn_sh_ch c3 hM2) ?_ ?_ <;> rw [g9']
          · omega
          · rw [← eq] at k2
            exact k2 (by show -1000 - p1 < 0; omega) M3 ch e69 e4 (fun j hj => by rw [w3 j hj, a2]; exact w0 j hj) ms
        refine rb_Mo_load_17 hM2 ?_ ?_ ?_ ?_ ?_
        · intro _ _; exact back
        · intro _ z; exact absurd rfl z
        · intro z; exact absurd rfl z
        · intro z; exact absurd rfl z
        · intro z; exact absurd rfl z
      have go : ∀ (S : Int ⊕ Int) (N2 : Nat → Int), T (rn_tks T n e) ≠ 0 → rn_iS T n N1 (rn_tks T n e) = S → (∀ e', S = .inr e' → rn_iN T n N1 (rn_tks T n e) = N2 ∧ rn_vd N2) → rn_gs S (rn_te T n (rn_tks T n e)) n → rn_tks T n e < n →
          (∀ e', S = .inr e' → ∀ (M4 : rn_M) (w : rn_V), rn_fp M1 M4 → rn_tat M4 T n e' → rn_gi M4 467 = N2 → rn_WP 201 17 [rn_R 466, rn_I (i + 1), rn_I 1, w] [] M4 Q) := by
        intro S N2 hT hS hN hg bn e' hSe M4 w f4 at4 g4
        subst hSe
        have g := hg e' rfl
        have hn := hN e' rfl
        rw [rn_pq_f hT, hS, hn.1] at eq
        exact ih N2 e' (i + 1) M4 w (by omega) (by omega) (by omega) (by omega) (rn_fq2_tr c1 (rn_fq2_fp f4)) g4 (by rw [f4.1.2.2 474 (fun z => by unfold rn_Pp at z; omega)]; exact a1) hn.2 at4 eq
      refine rb_Mo_load_17 hM1 ?_ ?_ ?_ ?_ ?_ <;> (try rw [at1.1, t1.1])
      · intro z; omega
      · intro z; omega
      · intro _ bn
        have hT : T (rn_tks T n e) ≠ 0 := by have := tt.2.1 (rn_tks T n e) (by omega) bn; omega
        refine rm_isRiverWord hM1 tt t1 at1 he ?_
        refine rb_Mo_load_36 hM1 (fun cw => ?_) (fun cw => ?_)
        · have nw : ¬ rn_isW T n (rn_tks T n e) 5 rn_wR := rn_b0 cw
          refine rm_isTownWord hM1 tt t1 at1 he ?_
          refine rb_Mo_load_50 hM1 (fun _ => by omega) (fun ct => ?_) (fun ct => ?_)
          · have nt : ¬ rn_isW T n (rn_tks T n e) 4 rn_wT := rn_b0 ct
            exact out (rn_tks T n e) _ M1 _ hT (by unfold rn_iS; rw [rn_pq_f nw, rn_pq_f nt]) c1 a1 at1.1 (by omega)
          · have wt' : rn_isW T n (rn_tks T n e) 4 rn_wT := rn_b1 ct
            have eS : rn_iS T n N1 (rn_tks T n e) = rn_pq (N1 1 = 10) (.inl (rn_tks T n e)) (rn_ta6 T n (rn_te T n (rn_tks T n e))) := by unfold rn_iS; rw [rn_pq_f nw, rn_pq_t wt']
            refine rm_takesTown hM1 tt t1 at1 he g1 v1 (fun e' hS M4 f4 at4 g4 => ?_) (fun p1 hS M4 f4 g9 => ?_)
            · have c10 : N1 1 ≤ 9 := by
                by_cases q : N1 1 = 10
                · rw [rn_pq_t q] at hS; cases hS
                · omega
              have hS' := hS
              rw [rn_pq_f (by omega)] at hS'
              refine rb_Mo_load_57 (fun _ => by omega) (fun _ => by omega) (fun z => by omega) (fun _ => ?_)
              exact go _ (rn_tM T n N1 (rn_te T n (rn_tks T n e))) hT eS (fun _ _ => ⟨by unfold rn_iN; rw [rn_pq_f nw], rn_tM_vd v1 c10⟩) (fun e2 h2 => by rw [rn_pq_f (by omega)] at h2; exact rn_gs_t6 er.2.1 e2 h2) bn e' hS M4 _ f4 at4 g4
            · refine rb_Mo_load_57 (fun _ => by omega) (fun _ => by omega) (fun _ => ?_) (fun z => absurd rfl z)
              have c4 := rn_fq2_tr c1 (rn_fq2_fp f4)
              refine out p1 _ M4 _ hT (eS.trans hS) c4 (by rw [f4.1.2.2 474 (fun z => by unfold rn_Pp at z; omega)]; exact a1) g9 ?_
              by_cases q : N1 1 = 10
              · rw [rn_pq_t q] at hS; have := Sum.inl.inj hS; omega
              · rw [rn_pq_f q] at hS; exact (rn_gx_t6 (by omega)).1 p1 hS
        · have wr' : rn_isW T n (rn_tks T n e) 5 rn_wR := rn_b1 cw
          have eS : rn_iS T n N1 (rn_tks T n e) = rn_pq (N1 0 = 6) (.inl (rn_tks T n e)) (rn_r7 T n N1 (rn_te T n (rn_tks T n e))) := by unfold rn_iS; rw [rn_pq_t wr']
          refine rm_takesRiver hM1 tt t1 at1 he g1 v1 (fun e' hS M4 f4 at4 g4 => ?_) (fun p1 hS M4 f4 g9 => ?_)
          · have c10 : N1 0 ≤ 5 := by
              by_cases q : N1 0 = 6
              · rw [rn_pq_t q] at hS; cases hS
              · omega
            have hS' := hS
            rw [rn_pq_f (by omega)] at hS'
            refine rb_Mo_load_43 (by omega) ?_
            exact go _ (rn_rM T n N1 (rn_te T n (rn_tks T n e))) hT eS (fun e2 h2 => ⟨by unfold rn_iN; rw [rn_pq_t wr'], rn_rM_vd tt v1 c10 (by omega) (by rw [rn_pq_f (by omega)] at h2; exact h2)⟩) (fun e2 h2 => by rw [rn_pq_f (by omega)] at h2; exact rn_gs_r7 er.2.1 e2 h2) bn e' hS M4 _ f4 at4 g4
          · refine rb_Mo_load_43 (by omega) ?_
            have c4 := rn_fq2_tr c1 (rn_fq2_fp f4)
            refine out p1 _ M4 _ hT (eS.trans hS) c4 (by rw [f4.1.2.2 474 (fun z => by unfold rn_Pp at z; omega)]; exact a1) g9 ?_
            by_cases q : N1 0 = 6
            · rw [rn_pq_t q] at hS; have := Sum.inl.inj hS; omega
            · rw [rn_pq_f q] at hS; exact (rn_gx_r7 (by omega)).1 p1 hS
      · intro _ z; omega
      · intro _ bn _
        have hT : T (rn_tks T n e) = 0 := tt.2.2 _ (by omega)
        rw [rn_pq_t hT] at eq
        rw [← eq] at k1
        have k1 := k1 (show 0 ≤ i from i0)
        -- made
        have made : ∀ (c x : Nat) (M3 : rn_M), c + x = 562 → rn_ch (fun a => a = 475) M1 M3 → (∀ j : Nat, j < x → rn_gi M3 475 j = N1 j) → rn_WP 201 91 [rn_R 466, rn_I i, rn_I 1, rn_I (x : Int)] [] M3 Q := by
          intro c
          induction c with
          | zero =>
            intro x M3 hx c3 w3
            have q3 := rn_fq2_tr c1 (rn_fq2_ch (fun a z => by omega) c3)
            have hM3 := rn_sh_ch q3.1 hM
            refine rb_Mo_load_91 hM3 ?_ ?_ ?_
            · intro z; omega
            · intro z; omega
            · intro _
              refine rm_takesBack hM3 (fun M4 c4 w4 => ?_)
              have q4 := rn_fq2_tr q3 (rn_fq2_ch (fun a z => Or.inl z) c4)
              have hM4 := rn_sh_ch q4.1 hM
              obtain ⟨ms, e69, e4, ch⟩ := rn_Ms_p q4 h
              refine rb_Mo_load_120 hM4 (rm_records hM4 (N := rn_gi M4 467) rfl ms.2.1 m0 ms.2.2.1 (fun M5 c5 e5 n5 p5 => rb_Mo_load_124 ?_))
              have hM5 := rn_sh_ch c5 hM4
              have ma5 : rn_ma M5 B := by
                unfold rn_ma
                rw [c5.2.2 472 (fun z => by unfold rn_P68 at z; omega), e5 8 (by omega)]
                exact ms.2.2.2
              have bk : ∀ j : Nat, j < 562 → rn_gi M4 467 j = N j := fun j hj => by rw [w4 j hj, c3.2.2 474 (by omega), a1]; exact w0 j hj
              have pa5 : rn_Pa M5 (min (m + 1) 5) (rn_nK m K N) := fun i hi j hj => by
                rw [p5 i hi j hj]
                unfold rn_nK
                by_cases q : i = (min m 4).toNat
                · rw [if_pos q, if_pos q]; exact bk j hj
                · rw [if_neg q, if_neg q]
              have g475 : ∀ j : Nat, j < 562 → rn_gi M5 475 j = N1 j := fun j hj => by
                rw [c5.2.2 475 (fun z => by unfold rn_P68 at z; omega), c4.2.2 475 (fun z => by unfold rn_P67 at z; omega)]
                exact w3 j (by omega)
              have fin : ∀ (c y : Nat) (M6 : rn_M), c + y = 562 → rn_ch rn_P67 M5 M6 → (∀ j : Nat, j < y → rn_gi M6 467 j = N1 j) → rn_WP 201 126 [rn_R 466, rn_I i, rn_I 1, rn_I (y : Int)] [] M6 Q := by
                intro c
                induction c with
                | zero =>
                  intro y M6 hy c6 w6
                  have hM6 := rn_sh_ch c6 hM5
                  refine rb_Mo_load_126 hM6 ?_ ?_ ?_
                  · intro z; omega
                  · intro z; omega
                  · intro _
                    have c7 : rn_ch (fun a => 466 ≤ a) M6 (rn_si M6 466 4 0) := rn_ch_si (by omega)
                    refine k1 _ (rn_ch_tr (rn_ch_tr (rn_ch_tr ch (rn_ch_mono (fun a z => by unfold rn_P68 at z; omega) c5)) (rn_ch_mono (fun a z => by unfold rn_P67 at z; omega) c6)) c7) rn_si_eq (fun j hj => by rw [rn_si_gif (by omega)]; exact w6 j (by omega)) ⟨rfl, ?_, fun x hx j hj => ?_, ?_⟩
                    · rw [rn_si_ne (by omega), c6.2.2 466 (fun z => by unfold rn_P67 at z; omega)]; exact n5
                    · rw [rn_si_gif (by omega), c6.2.2 468 (fun z => by unfold rn_P67 at z; omega)]; exact pa5 x hx j hj
                    · unfold rn_ma
                      rw [rn_si_gif (by omega), rn_si_ne (by omega), c6.2.2 472 (fun z => by unfold rn_P67 at z; omega), c6.2.2 466 (fun z => by unfold rn_P67 at z; omega)]
                      exact ma5
                | succ c ihc =>
                  intro y M6 hy c6 w6
                  have hM6 := rn_sh_ch c6 hM5
                  refine rb_Mo_load_126 hM6 ?_ ?_ ?_
                  · intro _; omega
                  · intro _
                    rw [Int.toNat_natCast, c6.2.2 475 (fun z => by unfold rn_P67 at z; omega), g475 y (by omega)]
                    have := ihc (y + 1) (rn_si M6 467 y (N1 y)) (by omega) (rn_ch_tr c6 (rn_ch_si rfl)) (fun j hj => by
                      by_cases q : j = y
                      · rw [q, rn_si_eq]
                      · rw [rn_si_ne (fun z => q z.2)]; exact w6 j (by omega))
                    rw [show ((y + 1 : Nat) : Int) = (y : Int) + 1 by omega] at this
                    exact this
                  · intro z; omega
              exact fin 562 0 M5 (by omega) rn_ch_rf (fun j hj => by omega)
          | succ c ihc =>
            intro x M3 hx c3 w3
            have q3 := rn_fq2_tr c1 (rn_fq2_ch (fun a z => by omega) c3)
            have hM3 := rn_sh_ch q3.1 hM
            refine rb_Mo_load_91 hM3 ?_ ?_ ?_
            · intro _; omega
            · intro _
              rw [Int.toNat_natCast, c3.2.2 467 (by omega), g1]
              have := ihc (x + 1) (rn_si M3 475 x (N1 x)) (by omega) (rn_ch_tr c3 (rn_ch_si rfl)) (fun j hj => by
                by_cases q : j = x
                · rw [q, rn_si_eq]
                · rw [rn_si_ne (fun z => q z.2)]; exact w3 j (by omega))
              rw [show ((x + 1 : Nat) : Int) = (x : Int) + 1 by omega] at this
              exact this
            · intro z; omega
        exact made 562 0 M1 (by omega) rn_ch_rf (fun j hj => by omega)
  exact loop 151 N 0 0 M2 _ (by omega) (by omega) (by omega) (by omega) q2 g2 a2 v ⟨g9, g10⟩ hR
end LO4
