/-! items of the reference's parser -/
theorem rn_ME_c {M : rn_M} {Q : rn_Q} {a b lo hi : Int} (h1 : lo = a) (h2 : hi = b) (h : rn_ME 196 [rn_R 466, rn_I lo, rn_I hi] M Q) : rn_ME 196 [rn_R 466, rn_I a, rn_I b] M Q := by
  rw [← h1, ← h2]; exact h
section IT2
variable {M : rn_M} {Q : rn_Q} {T : Int → Int} {n : Int} {N : Nat → Int}
theorem rn_nr_cg {L x y k h : Int} {nm nm' : Nat → Int} (hn : ∀ i : Nat, (i : Int) < L → nm i = nm' i) : rn_nr N L x y k h nm = rn_nr N L x y k h nm' := by
  funext z
  unfold rn_nr
  by_cases c0 : z = 0
  · rw [if_pos c0, if_pos c0]
  · rw [if_neg c0, if_neg c0]
    by_cases c1 : (z : Int) < 4 + 78 * N 0 ∨ 82 + 78 * N 0 ≤ (z : Int)
    · rw [if_pos c1, if_pos c1]
    · rw [if_neg c1, if_neg c1]
      unfold rn_nv
      generalize ((z : Int) - 4 - 78 * N 0).toNat = w
      by_cases c : 6 ≤ w ∧ (w : Int) < 6 + L
      · rw [hn (w - 6) (by omega)]
      · simp only [if_neg c]
theorem rn_nr_set {L x y k h v : Int} {nm : Nat → Int} {i : Nat} (n0 : 0 ≤ N 0) (hi : (i : Int) < L) (hL : L ≤ 12) : rn_up (rn_nr N L x y k h nm) (4 + 78 * N 0 + 6 + (i : Int)).toNat v = rn_nr N L x y k h (fun j => if j = i then v else nm j) := by
  funext z
  unfold rn_up
  by_cases e : z = (4 + 78 * N 0 + 6 + (i : Int)).toNat
  · rw [if_pos e]
    unfold rn_nr
    rw [if_neg (by omega), if_neg (by omega), show ((z : Int) - 4 - 78 * N 0).toNat = 6 + i by omega, rn_nv_n hi, if_pos rfl]
  · rw [if_neg e]
    unfold rn_nr
    by_cases c0 : z = 0
    · rw [if_pos c0, if_pos c0]
    · rw [if_neg c0, if_neg c0]
      by_cases c1 : (z : Int) < 4 + 78 * N 0 ∨ 82 + 78 * N 0 ≤ (z : Int)
      · rw [if_pos c1, if_pos c1]
      · rw [if_neg c1, if_neg c1]
        unfold rn_nv
        have hw : ((z : Int) - 4 - 78 * N 0).toNat ≠ 6 + i := by omega
        generalize ((z : Int) - 4 - 78 * N 0).toNat = w at *
        by_cases c : 6 ≤ w ∧ (w : Int) < 6 + L
        · have q : (if w - 6 = i then v else nm (w - 6)) = nm (w - 6) := if_neg (by omega)
          simp only [q]
        · simp only [if_neg c]
theorem rm_rstage {e j lo hi fr mn : Int} {w : rn_V} (hM : rn_sh M) (tt : rn_TT T n) (t : rn_TM M T n) (h : rn_tat M T n e) (he : 0 ≤ e ∧ e ≤ n) (hj : j = 0 ∧ lo = 0 ∧ hi = 59 ∨ j = 1 ∧ lo = 0 ∧ hi = 39 ∨ j = 2 ∧ lo = 1 ∧ hi = 9 ∨ j = 3 ∧ lo = 0 ∧ hi = 2)
    (k1 : rn_nok T n (rn_tks T n e) lo hi → ∀ M', rn_fp M M' → rn_gi M' 467 = rn_gi M 467 → rn_gi M' 473 = rn_up (rn_gi M 473) j.toNat (rn_val T (rn_tks T n e) (rn_te T n (rn_tks T n e) - rn_tks T n e).toNat) → rn_tat M' T n (rn_te T n (rn_tks T n e)) → rn_WP 199 47 [rn_R 466, rn_I fr, rn_I mn, rn_I (j + 1), w] [] M' Q)
    (k2 : ¬ rn_nok T n (rn_tks T n e) lo hi → Q (some (rn_I 0)) M) : rn_WP 199 47 [rn_R 466, rn_I fr, rn_I mn, rn_I j, w] [] M Q := by
  have go : rn_ME 196 [rn_R 466, rn_I lo, rn_I hi] M (fun r M1 => rn_WP 199 96 [rn_R 466, rn_I fr, rn_I mn, rn_I j, w] (r.toList ++ []) M1 Q) := by
    refine rm_takesNumber hM tt t h he (by omega) (fun c M1 f1 g11 a1 => ?_) (fun c => ?_)
    · have hM1 := rn_sh_ch f1.1 hM
      refine rb_Mo_takesRiver_96 hM1 (fun _ => by omega) (fun z => by omega) (fun _ => ?_)
      have c2 : rn_ch (fun a => a = 473) M1 (rn_si M1 473 j.toNat (rn_gi M1 466 11)) := rn_ch_si rfl
      refine k1 c _ (rn_fp_tr (rn_fp_ft f1) (rn_fp_ch (fun a z => by omega) c2)) ?_ ?_ (rn_tat_ch (by omega) c2 a1)
      · rw [rn_si_gif (by omega), f1.1.2.2 467 (by omega)]
      · rw [rn_si_up, g11, f1.1.2.2 473 (by omega)]
    · exact rb_Mo_takesRiver_96 hM (fun z => absurd rfl z) (fun _ => k2 c) (fun z => absurd rfl z)
  refine rb_Mo_takesRiver_47 hM ?_ ?_ ?_ ?_ ?_ ?_ ?_ ?_ ?_
  all_goals first | (intros; exfalso; omega) | (intros; exact rn_ME_c (by omega) (by omega) go)
theorem rn_r7_1 {e p : Int} (h : rn_r1 T n e = .inl p) : rn_r7 T n N e = .inl p := by
  unfold rn_r7 rn_r6 rn_r5 rn_r4 rn_r3 rn_r2; rw [h]; rfl
theorem rn_r7_2 {e p : Int} (h : rn_r2 T n e = .inl p) : rn_r7 T n N e = .inl p := by
  unfold rn_r7 rn_r6 rn_r5 rn_r4 rn_r3; rw [h]; rfl
theorem rn_r7_3 {e p : Int} (h : rn_r3 T n e = .inl p) : rn_r7 T n N e = .inl p := by
  unfold rn_r7 rn_r6 rn_r5 rn_r4; rw [h]; rfl
theorem rn_r7_4 {e p : Int} (h : rn_r4 T n e = .inl p) : rn_r7 T n N e = .inl p := by
  unfold rn_r7 rn_r6 rn_r5; rw [h]; rfl
theorem rn_r7_5 {e p : Int} (h : rn_r5 T n e = .inl p) : rn_r7 T n N e = .inl p := by
  unfold rn_r7 rn_r6; rw [h]; rfl
theorem rn_r7_6 {e p : Int} (h : rn_r6 T n N e = .inl p) : rn_r7 T n N e = .inl p := by
  unfold rn_r7; rw [h]; rfl
theorem rm_takesRiver {e0 : Int} (hM : rn_sh M) (tt : rn_TT T n) (t : rn_TM M T n) (h : rn_tat M T n e0) (he0 : 0 ≤ e0 ∧ e0 ≤ n) (hN : rn_gi M 467 = N) (v : rn_vd N)
    (k1 : ∀ e', rn_pq (N 0 = 6) (.inl (rn_tks T n e0)) (rn_r7 T n N (rn_te T n (rn_tks T n e0))) = .inr e' → ∀ M', rn_fp M M' → rn_tat M' T n e' → rn_gi M' 467 = rn_rM T n N (rn_te T n (rn_tks T n e0)) → Q (some (rn_I 1)) M')
    (k2 : ∀ p, rn_pq (N 0 = 6) (.inl (rn_tks T n e0)) (rn_r7 T n N (rn_te T n (rn_tks T n e0))) = .inl p → ∀ M', rn_fp M M' → rn_gi M' 466 9 = p → Q (some (rn_I 0)) M') : rn_ME 199 [rn_R 466] M Q := by
  have v0 := v.1
  refine re_Mo_takesRiver (rb_Mo_takesRiver_0 hM ?_ ?_) <;> rw [hN]
  · intro c; exact k2 _ (rn_pq_t c _ _) M rn_fp_rf h.1
  · intro c
    rw [rn_pq_f c] at k1 k2
    have he := rn_gs_te (T := T) he0
    refine rm_next hM tt t h he0 (fun M1 f1 _ a1 => ?_)
    generalize rn_te T n (rn_tks T n e0) = e at *
    have he : 0 ≤ e ∧ e ≤ n := by omega
    have br := rn_tks_r (T := T) he.2
    have er := rn_te_r (T := T) br.2
    have hM1 := rn_sh_ch f1.1 hM
    have t1 := rn_TM_ft t f1
    have g1 : rn_gi M1 467 = N := (f1.1.2.2 467 (by omega)).trans hN
    have p1 := rn_fp_ft f1
    have s1 := rn_srt3 (i := rn_tks T n e) t1 tt (by omega)
    refine rb_Mo_takesRiver_17 hM1 (re_Mo_isNameToken (rb_Mo_isNameToken_0 hM1 ?_ ?_ ?_ ?_ ?_)) <;> rw [a1.1] <;> (try rw [a1.2]) <;> (try simp only [s1.2.1])
    · rw [t1.1]; have := tt.1; omega
    · intro _; have := tt.1; omega
    · intro z
      refine rb_Mo_takesRiver_21 hM1 (fun z => absurd rfl z) (fun _ => ?_) (fun z => absurd rfl z)
      exact k2 _ (rn_r7_1 (rn_pq_f (fun y => z y.1) _ _)) M1 p1 a1.1
    · intro z z2
      refine rb_Mo_takesRiver_21 hM1 (fun z => absurd rfl z) (fun _ => ?_) (fun z => absurd rfl z)
      exact k2 _ (rn_r7_1 (rn_pq_f (fun y => by omega) _ _)) M1 p1 a1.1
    · intro z z2
      have R1 : rn_r1 T n e = .inr (rn_te T n (rn_tks T n e)) := rn_pq_t ⟨z, by omega⟩ _ _
      have bn : rn_tks T n e < n := by
        by_cases q : rn_tks T n e < n
        · exact q
        · have := rn_ko_1.mp z
          rw [tt.2.2 _ (by omega)] at this
          omega
      refine rb_Mo_takesRiver_21 hM1 (fun _ => by rw [a1.1, a1.2]; have := tt.1; omega) (fun z => by omega) (fun _ => ?_)
      rw [a1.1, a1.2]
      refine rm_next hM1 tt t1 a1 he (fun M2 f2 _ a2 => rb_Mo_takesRiver_45 ?_)
      have p2 := rn_fp_tr p1 (rn_fp_ft f2)
      have he1 : 0 ≤ rn_te T n (rn_tks T n e) ∧ rn_te T n (rn_tks T n e) ≤ n := by omega
      -- the first cell's column
      refine rm_rstage (j := 0) (lo := 0) (hi := 59) (rn_sh_ch p2.1 hM) tt (rn_TM_fp t p2) a2 he1 (by omega) (fun n2 M3 f3 g3 t3 a3 => ?_) (fun z => k2 _ (rn_r7_2 (by unfold rn_r2; rw [R1]; exact rn_pq_f z _ _)) M2 p2 a2.1)
      have R2 : rn_r2 T n e = .inr (rn_te T n (rn_tks T n (rn_te T n (rn_tks T n e)))) := by unfold rn_r2; rw [R1]; exact rn_pq_t n2 _ _
      have V1 : rn_nV T n 0 59 (rn_r1 T n e) = rn_val T (rn_tks T n (rn_te T n (rn_tks T n e))) (rn_te T n (rn_tks T n (rn_te T n (rn_tks T n e))) - rn_tks T n (rn_te T n (rn_tks T n e))).toNat := by rw [R1]; exact rn_pick_t n2 _ _
      rw [← V1] at t3
      have p3 := rn_fp_tr p2 f3
      have he2 : 0 ≤ rn_te T n (rn_tks T n (rn_te T n (rn_tks T n e))) ∧ rn_te T n (rn_tks T n (rn_te T n (rn_tks T n e))) ≤ n := rn_gs_te he1
      clear V1 n2
      generalize rn_te T n (rn_tks T n (rn_te T n (rn_tks T n e))) = e2 at *
      -- its row
      refine rm_rstage (j := 0 + 1) (lo := 0) (hi := 39) (rn_sh_ch p3.1 hM) tt (rn_TM_fp t p3) a3 he2 (by omega) (fun n3 M4 f4 g4 t4 a4 => ?_) (fun z => k2 _ (rn_r7_3 (by unfold rn_r3; rw [R2]; exact rn_pq_f z _ _)) M3 p3 a3.1)
      have R3 : rn_r3 T n e = .inr (rn_te T n (rn_tks T n e2)) := by unfold rn_r3; rw [R2]; exact rn_pq_t n3 _ _
      have V2 : rn_nV T n 0 39 (rn_r2 T n e) = rn_val T (rn_tks T n e2) (rn_te T n (rn_tks T n e2) - rn_tks T n e2).toNat := by rw [R2]; exact rn_pick_t n3 _ _
      rw [← V2] at t4
      have p4 := rn_fp_tr p3 f4
      have he3 : 0 ≤ rn_te T n (rn_tks T n e2) ∧ rn_te T n (rn_tks T n e2) ≤ n := rn_gs_te he2
      clear V2 n3
      generalize rn_te T n (rn_tks T n e2) = e3 at *
      -- the rank
      refine rm_rstage (j := 0 + 1 + 1) (lo := 1) (hi := 9) (rn_sh_ch p4.1 hM) tt (rn_TM_fp t p4) a4 he3 (by omega) (fun n4 M5 f5 g5 t5 a5 => ?_) (fun z => k2 _ (rn_r7_4 (by unfold rn_r4; rw [R3]; exact rn_pq_f z _ _)) M4 p4 a4.1)
      have R4 : rn_r4 T n e = .inr (rn_te T n (rn_tks T n e3)) := by unfold rn_r4; rw [R3]; exact rn_pq_t n4 _ _
      have V3 : rn_nV T n 1 9 (rn_r3 T n e) = rn_val T (rn_tks T n e3) (rn_te T n (rn_tks T n e3) - rn_tks T n e3).toNat := by rw [R3]; exact rn_pick_t n4 _ _
      rw [← V3] at t5
      have p5 := rn_fp_tr p4 f5
      have he4 : 0 ≤ rn_te T n (rn_tks T n e3) ∧ rn_te T n (rn_tks T n e3) ≤ n := rn_gs_te he3
      clear V3 n4
      generalize rn_te T n (rn_tks T n e3) = e4 at *
      -- the halo
      refine rm_rstage (j := 0 + 1 + 1 + 1) (lo := 0) (hi := 2) (rn_sh_ch p5.1 hM) tt (rn_TM_fp t p5) a5 he4 (by omega) (fun n5 M6 f6 g6 t6 a6 => ?_) (fun z => k2 _ (rn_r7_5 (by unfold rn_r5; rw [R4]; exact rn_pq_f z _ _)) M5 p5 a5.1)
      have R5 : rn_r5 T n e = .inr (rn_te T n (rn_tks T n e4)) := by unfold rn_r5; rw [R4]; exact rn_pq_t n5 _ _
      have V4 : rn_nV T n 0 2 (rn_r4 T n e) = rn_val T (rn_tks T n e4) (rn_te T n (rn_tks T n e4) - rn_tks T n e4).toNat := by rw [R4]; exact rn_pick_t n5 _ _
      rw [← V4] at t6
      have p6 := rn_fp_tr p5 f6
      have he5 : 0 ≤ rn_te T n (rn_tks T n e4) ∧ rn_te T n (rn_tks T n e4) ≤ n := rn_gs_te he4
      clear V4 n5
      generalize rn_te T n (rn_tks T n e4) = e5 at *
      obtain ⟨rg, nmr, _⟩ := rn_r5_i tt he R5
      have hM6 := rn_sh_ch p6.1 hM
      have g6' : rn_gi M6 467 = N := by rw [g6, g5, g4, g3, f2.1.2.2 467 (by omega)]; exact g1
      have w0 : rn_gi M6 473 0 = rn_nV T n 0 59 (rn_r1 T n e) := by rw [t6, rn_up_ne (by omega), t5, rn_up_ne (by omega), t4, rn_up_ne (by omega), t3]; exact rn_up_eq
      have w1 : rn_gi M6 473 1 = rn_nV T n 0 39 (rn_r2 T n e) := by rw [t6, rn_up_ne (by omega), t5, rn_up_ne (by omega), t4]; exact rn_up_eq
      have w2 : rn_gi M6 473 2 = rn_nV T n 1 9 (rn_r3 T n e) := by rw [t6, rn_up_ne (by omega), t5]; exact rn_up_eq
      have w3 : rn_gi M6 473 3 = rn_nV T n 0 2 (rn_r4 T n e) := by rw [t6]; exact rn_up_eq
      refine rb_Mo_takesRiver_47 hM6 ?_ ?_ ?_ ?_ ?_ ?_ ?_ ?_ ?_
      all_goals first | (intros; exfalso; omega) | skip
      intro _
      rw [w0, w1, w2, w3]
      have rN : rn_rN T n N e = rn_nr N (rn_te T n (rn_tks T n e) - rn_tks T n e) (rn_nV T n 0 59 (rn_r1 T n e)) (rn_nV T n 0 39 (rn_r2 T n e)) (rn_nV T n 1 9 (rn_r3 T n e)) (rn_nV T n 0 2 (rn_r4 T n e)) (fun i => T (rn_tks T n e + i)) := rfl
      have vN : rn_vR (rn_rN T n N e) (N 0) := rn_nr_vR v0.1 rg nmr
      have eL : rn_o (rn_rN T n N e) (N 0) 5 = 0 := (rn_nr_o v0.1 (by omega) (by omega)).trans rn_nv_5
      have e0c : rn_rN T n N e 0 = N 0 + 1 := rn_nr_0
      unfold rn_rg at rg
      refine rm_comesRiver hM6 g6' (by omega) (by omega) (fun M7 c7 g7 => rb_Mo_takesRiver_146 ?_)
      have p7 := rn_fp_tr p6 (rn_fp_ch (fun a z => Or.inl z) c7)
      have a7 : rn_tat M7 T n e5 := rn_tat_ch (fun z => by unfold rn_P67 at z; omega) c7 a6
      have loop : ∀ (m i : Nat) (M8 : rn_M) (nm : Nat → Int), (i : Int) + m = rn_te T n (rn_tks T n e) - rn_tks T n e → rn_ch rn_P67 M7 M8 → rn_gi M8 467 = rn_nr N (rn_te T n (rn_tks T n e) - rn_tks T n e) (rn_nV T n 0 59 (rn_r1 T n e)) (rn_nV T n 0 39 (rn_r2 T n e)) (rn_nV T n 1 9 (rn_r3 T n e)) (rn_nV T n 0 2 (rn_r4 T n e)) nm → (∀ j : Nat, j < i → nm j = T (rn_tks T n e + j)) → rn_WP 199 150 [rn_R 466, rn_I (rn_tks T n e), rn_I (rn_te T n (rn_tks T n e) - rn_tks T n e), rn_I (N 0), rn_I (i : Int)] [] M8 Q := by
        intro m
        induction m with
        | zero =>
          intro i M8 nm hij c8 g8 d8
          have p8 := rn_fp_tr p7 (rn_fp_ch (fun a z => Or.inl z) c8)
          have hM8 := rn_sh_ch p8.1 hM
          have a8 : rn_tat M8 T n e5 := rn_tat_ch (fun z => by unfold rn_P67 at z; omega) c8 a7
          have g8' : rn_gi M8 467 = rn_rN T n N e := by rw [g8, rN]; exact rn_nr_cg (fun j hj => d8 j (by omega))
          refine rb_Mo_takesRiver_150 hM8 ?_ ?_ ?_
          · intro z; omega
          · intro z; omega
          · intro _
            have on0 : rn_onm (rn_rN T n N e) (N 0) 0 := by
              have := vN.2.2.2.2.2.2 0 (by omega) (by omega)
              exact this
            refine rm_takesMoves hM8 tt (rn_TM_fp t p8) a8 he5 g8' e0c (by omega) eL on0 (fun ok M9 p9 a9 g9 => ?_) (fun ok M9 p9 h9 => ?_)
            · have p9 := rn_fp_tr p8 p9
              have hM9 := rn_sh_ch p9.1 hM
              have R6 : rn_r6 T n N e = .inr (rn_te T n (rn_tks T n e5)) := by unfold rn_r6; rw [R5]; exact rn_pq_t ok _ _
              have rM : rn_rM T n N e = rn_mvs T (rn_tks T n e5) (N 0) (rn_te T n (rn_tks T n e5) - rn_tks T n e5).toNat (rn_rN T n N e) := by unfold rn_rM; rw [R5]
              have he6 : 0 ≤ rn_te T n (rn_tks T n e5) ∧ rn_te T n (rn_tks T n e5) ≤ n := rn_gs_te he5
              refine rb_Mo_takesRiver_190 hM9 (fun z => by omega) (fun _ => ?_)
              refine rm_takesSemicolon hM9 tt (rn_TM_fp t p9) a9 he6 (fun c59 M10 f10 a10 => ?_) (fun c59 => ?_)
              · refine rb_Mo_takesRiver_197 (fun z => by omega) (fun _ => ?_)
                refine k1 _ (by unfold rn_r7; rw [R6]; exact rn_pq_t c59 _ _) M10 (rn_fp_tr p9 (rn_fp_ft f10)) a10 ?_
                rw [f10.1.2.2 467 (by omega), g9, rM]
              · refine rb_Mo_takesRiver_197 (fun _ => ?_) (fun z => absurd rfl z)
                exact k2 _ (by unfold rn_r7; rw [R6]; exact rn_pq_f c59 _ _) M9 p9 a9.1
            · have p9 := rn_fp_tr p8 p9
              refine rb_Mo_takesRiver_190 (rn_sh_ch p9.1 hM) (fun _ => ?_) (fun z => absurd rfl z)
              exact k2 _ (rn_r7_6 (by unfold rn_r6; rw [R5]; exact rn_pq_f ok _ _)) M9 p9 h9
        | succ m ih =>
          intro i M8 nm hij c8 g8 d8
          have p8 := rn_fp_tr p7 (rn_fp_ch (fun a z => Or.inl z) c8)
          have hM8 := rn_sh_ch p8.1 hM
          have t8 := rn_TM_fp t p8
          refine rb_Mo_takesRiver_150 hM8 ?_ ?_ ?_
          · intro _; have := tt.1; omega
          · intro _
            rw [t8.2 (rn_tks T n e + i) (by omega) (by omega)]
            have := ih (i + 1) (rn_si M8 467 (4 + 78 * N 0 + 6 + (i : Int)).toNat (T (rn_tks T n e + i))) (fun j => if j = i then T (rn_tks T n e + i) else nm j) (by omega) (rn_ch_tr c8 (rn_ch_si rfl)) (by rw [rn_si_up, g8]; exact rn_nr_set v0.1 (by omega) (by omega)) (fun j hj => by
              by_cases q : j = i
              · subst q; exact if_pos rfl
              · show (if j = i then T (rn_tks T n e + i) else nm j) = _
                rw [if_neg q]; exact d8 j (by omega))
            rw [show ((i + 1 : Nat) : Int) = (i : Int) + 1 by omega] at this
            exact this
          · intro z; omega
      exact loop (rn_te T n (rn_tks T n e) - rn_tks T n e).toNat 0 M7 _ (by omega) rn_ch_rf g7 (fun j hj => by omega)
end IT2
