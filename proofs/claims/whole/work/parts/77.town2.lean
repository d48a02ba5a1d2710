/-! takesTown and load of the reference -/
section LO3
variable {M : rn_M} {Q : rn_Q} {T : Int → Int} {n : Int} {N : Nat → Int}
set_option maxHeartbeats 2000000 in
theorem rm_tstage {e j lo hi : Int} {w2 w3 : rn_V} (hM : rn_sh M) (tt : rn_TT T n) (t : rn_TM M T n) (h : rn_tat M T n e) (he : 0 ≤ e ∧ e ≤ n) (h0 : 1 ≤ j → 0 ≤ rn_gi M 473 0 ∧ rn_gi M 473 0 ≤ 59) (h1 : 2 ≤ j → 0 ≤ rn_gi M 473 1 ∧ rn_gi M 473 1 ≤ 39)
    (hj : j = 0 ∧ lo = 0 ∧ hi = 59 ∨ j = 1 ∧ lo = 0 ∧ hi = 39 ∨ j = 2 ∧ lo = 1 ∧ hi = min 12 (60 - rn_gi M 473 0) ∨ j = 3 ∧ lo = 1 ∧ hi = min 3 (40 - rn_gi M 473 1) ∨ j = 4 ∧ lo = 1 ∧ hi = 9)
    (k1 : rn_nok T n (rn_tks T n e) lo hi → ∀ M' w2 w3, rn_fp M M' → rn_gi M' 467 = rn_gi M 467 → rn_gi M' 473 = rn_up (rn_gi M 473) j.toNat (rn_val T (rn_tks T n e) (rn_te T n (rn_tks T n e) - rn_tks T n e).toNat) → rn_tat M' T n (rn_te T n (rn_tks T n e)) → rn_WP 200 19 [rn_R 466, rn_I (j + 1), w2, w3] [] M' Q)
    (k2 : ¬ rn_nok T n (rn_tks T n e) lo hi → Q (some (rn_I 0)) M) : rn_WP 200 19 [rn_R 466, rn_I j, w2, w3] [] M Q := by
  have go : ∀ w2 w3 : rn_V, rn_ME 196 [rn_R 466, rn_I lo, rn_I hi] M (fun r M1 => rn_WP 200 126 [rn_R 466, rn_I j, w2, w3] (r.toList ++ []) M1 Q) := by
    intro w2 w3
    refine rm_takesNumber hM tt t h he (by omega) (fun c M1 f1 g11 a1 => ?_) (fun c => ?_)
    · have hM1 := rn_sh_ch f1.1 hM
      refine rb_Mo_takesTown_126 hM1 (fun _ => by omega) (fun z => by omega) (fun _ => ?_)
      have c2 : rn_ch (fun a => a = 473) M1 (rn_si M1 473 j.toNat (rn_gi M1 466 11)) := rn_ch_si rfl
      refine k1 c _ w2 w3 (rn_fp_tr (rn_fp_ft f1) (rn_fp_ch (fun a z => by omega) c2)) ?_ ?_ (rn_tat_ch (by omega) c2 a1)
      · rw [rn_si_gif (by omega), f1.1.2.2 467 (by omega)]
      · rw [rn_si_up, g11, f1.1.2.2 473 (by omega)]
    · exact rb_Mo_takesTown_126 hM (fun z => absurd rfl z) (fun _ => k2 c) (fun z => absurd rfl z)
  refine rb_Mo_takesTown_19 hM ?_ ?_ ?_ ?_ ?_ ?_ ?_ ?_ ?_ ?_ ?_ ?_ ?_ ?_ ?_ ?_ ?_ ?_ ?_ ?_ ?_ ?_ ?_ ?_ ?_ ?_ ?_ ?_ ?_ ?_ ?_ ?_ ?_ ?_ ?_ ?_ ?_ ?_ ?_ ?_ ?_ ?_ ?_ ?_ ?_ ?_ ?_ ?_ ?_ ?_ ?_ ?_ ?_ ?_ ?_
  all_goals first | (intros; exfalso; omega) | (intros; exact rn_ME_c (by omega) (by omega) (go _ _)) | (intros; omega)
theorem rn_t6_1 {e p : Int} (h : rn_ta1 T n e = .inl p) : rn_ta6 T n e = .inl p := by
  unfold rn_ta6 rn_ta5 rn_ta4 rn_ta3 rn_ta2; rw [h]; rfl
theorem rn_t6_2 {e p : Int} (h : rn_ta2 T n e = .inl p) : rn_ta6 T n e = .inl p := by
  unfold rn_ta6 rn_ta5 rn_ta4 rn_ta3; rw [h]; rfl
theorem rn_t6_3 {e p : Int} (h : rn_ta3 T n e = .inl p) : rn_ta6 T n e = .inl p := by
  unfold rn_ta6 rn_ta5 rn_ta4; rw [h]; rfl
theorem rn_t6_4 {e p : Int} (h : rn_ta4 T n e = .inl p) : rn_ta6 T n e = .inl p := by
  unfold rn_ta6 rn_ta5; rw [h]; rfl
theorem rn_t6_5 {e p : Int} (h : rn_ta5 T n e = .inl p) : rn_ta6 T n e = .inl p := by
  unfold rn_ta6; rw [h]; rfl
theorem rm_takesTown {e0 : Int} (hM : rn_sh M) (tt : rn_TT T n) (t : rn_TM M T n) (h : rn_tat M T n e0) (he0 : 0 ≤ e0 ∧ e0 ≤ n) (hN : rn_gi M 467 = N) (v : rn_vd N)
    (k1 : ∀ e', rn_pq (N 1 = 10) (.inl (rn_tks T n e0)) (rn_ta6 T n (rn_te T n (rn_tks T n e0))) = .inr e' → ∀ M', rn_fp M M' → rn_tat M' T n e' → rn_gi M' 467 = rn_tM T n N (rn_te T n (rn_tks T n e0)) → Q (some (rn_I 1)) M')
    (k2 : ∀ p, rn_pq (N 1 = 10) (.inl (rn_tks T n e0)) (rn_ta6 T n (rn_te T n (rn_tks T n e0))) = .inl p → ∀ M', rn_fp M M' → rn_gi M' 466 9 = p → Q (some (rn_I 0)) M') : rn_ME 200 [rn_R 466] M Q := by
  have v1 := v.2.1
  refine re_Mo_takesTown (rb_Mo_takesTown_0 hM ?_ ?_) <;> rw [hN]
  · intro c; exact k2 _ (rn_pq_t c _ _) M rn_fp_rf h.1
  · intro c
    rw [rn_pq_f c] at k1 k2
    have he := rn_gs_te (T := T) he0
    refine rm_next hM tt t h he0 (fun M1 f1 _ a1 => rb_Mo_takesTown_17 ?_)
    generalize rn_te T n (rn_tks T n e0) = e at *
    have he : 0 ≤ e ∧ e ≤ n := by omega
    have hM1 := rn_sh_ch f1.1 hM
    have t1 := rn_TM_ft t f1
    have g1 : rn_gi M1 467 = N := (f1.1.2.2 467 (by omega)).trans hN
    have p1 := rn_fp_ft f1
    have rx : 0 ≤ rn_tax T n e ∧ rn_tax T n e ≤ 59 := rn_nV_r (T := T) (n := n) (S := .inr e) (by omega)
    have ry : 0 ≤ rn_tay T n e ∧ rn_tay T n e ≤ 39 := rn_nV_r (T := T) (n := n) (S := rn_ta1 T n e) (by omega)
    refine rm_tstage (j := 0) (lo := 0) (hi := 59) hM1 tt t1 a1 he (by omega) (by omega) (by omega) (fun n2 M2 w2 w3 f2 g2 t2 a2 => ?_) (fun z => k2 _ (rn_t6_1 (rn_pq_f z _ _)) M1 p1 a1.1)
    have R1 : rn_ta1 T n e = .inr (rn_te T n (rn_tks T n e)) := rn_pq_t n2 _ _
    have V1 : rn_tax T n e = rn_val T (rn_tks T n e) (rn_te T n (rn_tks T n e) - rn_tks T n e).toNat := rn_pick_t n2 _ _
    rw [← V1] at t2
    have p2 := rn_fp_tr p1 f2
    have he1 : 0 ≤ rn_te T n (rn_tks T n e) ∧ rn_te T n (rn_tks T n e) ≤ n := rn_gs_te he
    clear V1 n2
    generalize rn_te T n (rn_tks T n e) = e1 at *
    have x2 : rn_gi M2 473 0 = rn_tax T n e := by rw [t2]; exact rn_up_eq
    refine rm_tstage (j := 0 + 1) (lo := 0) (hi := 39) (rn_sh_ch p2.1 hM) tt (rn_TM_fp t p2) a2 he1 (by omega) (by omega) (by omega) (fun n3 M3 w2 w3 f3 g3 t3 a3 => ?_) (fun z => k2 _ (rn_t6_2 (by unfold rn_ta2; rw [R1]; exact rn_pq_f z _ _)) M2 p2 a2.1)
    have R2 : rn_ta2 T n e = .inr (rn_te T n (rn_tks T n e1)) := by unfold rn_ta2; rw [R1]; exact rn_pq_t n3 _ _
    have V2 : rn_tay T n e = rn_val T (rn_tks T n e1) (rn_te T n (rn_tks T n e1) - rn_tks T n e1).toNat := by unfold rn_tay; rw [R1]; exact rn_pick_t n3 _ _
    rw [← V2] at t3
    have p3 := rn_fp_tr p2 f3
    have he2 : 0 ≤ rn_te T n (rn_tks T n e1) ∧ rn_te T n (rn_tks T n e1) ≤ n := rn_gs_te he1
    clear V2 n3
    generalize rn_te T n (rn_tks T n e1) = e2 at *
    have x3 : rn_gi M3 473 0 = rn_tax T n e := by rw [t3, rn_up_ne (by omega)]; exact x2
    have y3 : rn_gi M3 473 1 = rn_tay T n e := by rw [t3]; exact rn_up_eq
    refine rm_tstage (j := 0 + 1 + 1) (lo := 1) (hi := min 12 (60 - rn_tax T n e)) (rn_sh_ch p3.1 hM) tt (rn_TM_fp t p3) a3 he2 (by omega) (by omega) (by omega) (fun n4 M4 w2 w3 f4 g4 t4 a4 => ?_) (fun z => k2 _ (rn_t6_3 (by unfold rn_ta3; rw [R2]; exact rn_pq_f z _ _)) M3 p3 a3.1)
    have R3 : rn_ta3 T n e = .inr (rn_te T n (rn_tks T n e2)) := by unfold rn_ta3; rw [R2]; exact rn_pq_t n4 _ _
    have V3 : rn_twd T n e = rn_val T (rn_tks T n e2) (rn_te T n (rn_tks T n e2) - rn_tks T n e2).toNat := by unfold rn_twd; rw [R2]; exact rn_pick_t n4 _ _
    rw [← V3] at t4
    have p4 := rn_fp_tr p3 f4
    have he3 : 0 ≤ rn_te T n (rn_tks T n e2) ∧ rn_te T n (rn_tks T n e2) ≤ n := rn_gs_te he2
    clear V3 n4
    generalize rn_te T n (rn_tks T n e2) = e3 at *
    have x4 : rn_gi M4 473 0 = rn_tax T n e := by rw [t4, rn_up_ne (by omega)]; exact x3
    have y4 : rn_gi M4 473 1 = rn_tay T n e := by rw [t4, rn_up_ne (by omega)]; exact y3
    refine rm_tstage (j := 0 + 1 + 1 + 1) (lo := 1) (hi := min 3 (40 - rn_tay T n e)) (rn_sh_ch p4.1 hM) tt (rn_TM_fp t p4) a4 he3 (by omega) (by omega) (by omega) (fun n5 M5 w2 w3 f5 g5 t5 a5 => ?_) (fun z => k2 _ (rn_t6_4 (by unfold rn_ta4; rw [R3]; exact rn_pq_f z _ _)) M4 p4 a4.1)
    have R4 : rn_ta4 T n e = .inr (rn_te T n (rn_tks T n e3)) := by unfold rn_ta4; rw [R3]; exact rn_pq_t n5 _ _
    have V4 : rn_tht T n e = rn_val T (rn_tks T n e3) (rn_te T n (rn_tks T n e3) - rn_tks T n e3).toNat := by unfold rn_tht; rw [R3]; exact rn_pick_t n5 _ _
    rw [← V4] at t5
    have p5 := rn_fp_tr p4 f5
    have he4 : 0 ≤ rn_te T n (rn_tks T n e3) ∧ rn_te T n (rn_tks T n e3) ≤ n := rn_gs_te he3
    clear V4 n5
    generalize rn_te T n (rn_tks T n e3) = e4 at *
    have x5 : rn_gi M5 473 0 = rn_tax T n e := by rw [t5, rn_up_ne (by omega)]; exact x4
    have y5 : rn_gi M5 473 1 = rn_tay T n e := by rw [t5, rn_up_ne (by omega)]; exact y4
    refine rm_tstage (j := 0 + 1 + 1 + 1 + 1) (lo := 1) (hi := 9) (rn_sh_ch p5.1 hM) tt (rn_TM_fp t p5) a5 he4 (by omega) (by omega) (by omega) (fun n6 M6 w2 w3 f6 g6 t6 a6 => ?_) (fun z => k2 _ (rn_t6_5 (by unfold rn_ta5; rw [R4]; exact rn_pq_f z _ _)) M5 p5 a5.1)
    have R5 : rn_ta5 T n e = .inr (rn_te T n (rn_tks T n e4)) := by unfold rn_ta5; rw [R4]; exact rn_pq_t n6 _ _
    have V5 : rn_trk T n e = rn_val T (rn_tks T n e4) (rn_te T n (rn_tks T n e4) - rn_tks T n e4).toNat := by unfold rn_trk; rw [R4]; exact rn_pick_t n6 _ _
    rw [← V5] at t6
    have p6 := rn_fp_tr p5 f6
    have he5 : 0 ≤ rn_te T n (rn_tks T n e4) ∧ rn_te T n (rn_tks T n e4) ≤ n := rn_gs_te he4
    clear V5 n6
    generalize rn_te T n (rn_tks T n e4) = e5 at *
    have hM6 := rn_sh_ch p6.1 hM
    have tm6 := rn_TM_fp t p6
    have x6 : rn_gi M6 473 0 = rn_tax T n e := by rw [t6, rn_up_ne (by omega)]; exact x5
    have y6 : rn_gi M6 473 1 = rn_tay T n e := by rw [t6, rn_up_ne (by omega)]; exact y5
    have z6 : rn_gi M6 473 2 = rn_twd T n e := by rw [t6, rn_up_ne (by omega), t5, rn_up_ne (by omega), t4]; exact rn_up_eq
    have h6 : rn_gi M6 473 3 = rn_tht T n e := by rw [t6, rn_up_ne (by omega), t5]; exact rn_up_eq
    have k6 : rn_gi M6 473 4 = rn_trk T n e := by rw [t6]; exact rn_up_eq
    have g6' : rn_gi M6 467 = N := by rw [g6, g5, g4, g3, g2]; exact g1
    have br5 := rn_tks_r (T := T) he5.2
    have s6 := rn_srt3 (i := rn_tks T n e5) tm6 tt (by omega)
    refine rb_Mo_takesTown_19 hM6 ?_ ?_ ?_ ?_ ?_ ?_ ?_ ?_ ?_ ?_ ?_ ?_ ?_ ?_ ?_ ?_ ?_ ?_ ?_ ?_ ?_ ?_ ?_ ?_ ?_ ?_ ?_ ?_ ?_ ?_ ?_ ?_ ?_ ?_ ?_ ?_ ?_ ?_ ?_ ?_ ?_ ?_ ?_ ?_ ?_ ?_ ?_ ?_ ?_ ?_ ?_ ?_ ?_ ?_ ?_
    all_goals first | (intros; exfalso; omega) | skip
    · intro _; rw [a6.1, tm6.1]; have := tt.1; omega
    · intro _; rw [a6.1]; simp only [s6.2.2.2]
      intro z
      exact k2 _ (by unfold rn_ta6; rw [R5]; exact rn_pq_f z _ _) M6 p6 a6.1
    · intro _; rw [a6.1]; simp only [s6.2.2.2]
      intro z
      rw [x6, y6, z6, h6, k6]
      refine rm_comesTown hM6 g6' (by omega) (fun M7 c7 g7 => rb_Mo_takesTown_198 (rn_sh_ch c7 hM6) ?_)
      have p7 := rn_fp_tr p6 (rn_fp_ch (fun a z => Or.inl z) c7)
      have a7 : rn_tat M7 T n e5 := rn_tat_ch (fun z => by unfold rn_P67 at z; omega) c7 a6
      refine rm_next (rn_sh_ch p7.1 hM) tt (rn_TM_fp t p7) a7 he5 (fun M8 f8 _ a8 => rb_Mo_takesTown_203 ?_)
      refine k1 _ (by unfold rn_ta6; rw [R5]; exact rn_pq_t z _ _) M8 (rn_fp_tr p7 (rn_fp_ft f8)) a8 ?_
      rw [f8.1.2.2 467 (by omega), g7]; rfl
end LO3
