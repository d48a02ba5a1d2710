/-! place and tidy, on a board -/
noncomputable def rn_pk (P : Prop) (a b : Nat → Int) : Nat → Int := @ite (Nat → Int) P (Classical.propDecidable P) a b
theorem rn_pk_t {P : Prop} (h : P) (a b : Nat → Int) : rn_pk P a b = a := by unfold rn_pk; rw [if_pos h]
theorem rn_pk_f {P : Prop} (h : ¬ P) (a b : Nat → Int) : rn_pk P a b = b := by unfold rn_pk; rw [if_neg h]
/-- n labels from k on are looked at, and go if they do not stand any more -/
noncomputable def rn_tdf : Nat → (Nat → Int) → Int → (Nat → Int)
  | 0, N, _ => N
  | n + 1, N, k => rn_pk (rn_mf N k) (rn_tdf n (rn_dl N k) k) (rn_tdf n N (k + 1))
noncomputable def rn_lrv (r : Int) : Nat → (Nat → Int) → (Nat → Int)
  | 0, N => N
  | n + 1, N => rn_pk (N 2 < 20 ∧ rn_best N r ≠ -9) (rn_lrv r n (rn_nl N r (rn_best N r))) N
/-- the rivers below j that have a rank get their labels -/
noncomputable def rn_lar (rank : Int) (n : Nat) : Nat → (Nat → Int) → (Nat → Int)
  | 0, N => N
  | j + 1, N => rn_pk (rn_o (rn_lar rank n j N) j 1 = rank) (rn_lrv j n (rn_lar rank n j N)) (rn_lar rank n j N)
noncomputable def rn_laa (n : Nat) : Nat → (Nat → Int) → (Nat → Int)
  | 0, N => N
  | j + 1, N => rn_lar (9 - j) n (rn_laa n j N 0).toNat (rn_laa n j N)
def rn_cj (b : Nat) (M M' : rn_M) : Prop := M'.1 = M.1 ∧ ∀ a, a < b ∨ b + 64 ≤ a → a ≠ 463 → rn_gi M' a = rn_gi M a ∧ ∀ k, rn_gr M' a k = rn_gr M a k
theorem rn_cj_rf {b : Nat} {M : rn_M} : rn_cj b M M := ⟨rfl, fun _ _ _ => ⟨rfl, fun _ => rfl⟩⟩
theorem rn_cj_tr {b : Nat} {M M1 M2 : rn_M} (h1 : rn_cj b M M1) (h2 : rn_cj b M1 M2) : rn_cj b M M2 :=
  ⟨h2.1.trans h1.1, fun a h g => ⟨(h2.2 a h g).1.trans (h1.2 a h g).1, fun k => ((h2.2 a h g).2 k).trans ((h1.2 a h g).2 k)⟩⟩
theorem rn_cj_cb {b : Nat} {M M1 : rn_M} (h : rn_cb b M M1) : rn_cj b M M1 := ⟨h.1, fun a ha _ => h.2 a ha⟩
theorem rn_cj_ch {b : Nat} {M M1 : rn_M} (h : rn_ch rn_P3 M M1) : rn_cj b M M1 := ⟨h.1, fun a _ g => ⟨h.2.2 a g, fun k => h.2.1 a k⟩⟩
theorem rn_Bw_ch {P : Nat → Prop} {M M' : rn_M} (hP : ∀ a, 14 ≤ a → a < 462 → ¬ P a) (c : rn_ch P M M') {b : Nat} (p : rn_isB b) (h : rn_Bw M b) : rn_Bw M' b := by
  have := rn_bdB p
  exact rn_Bw_eq (fun i hi => by rw [c.2.2 _ (hP _ (by omega) (by omega))]) (fun k => c.2.1 _ k) h
section PLC
variable {M : rn_M} {Q : rn_Q} {b : Nat} {N : Nat → Int}
theorem rs_dropMisfits (hM : rn_sh M) (p : rn_isB b) (w : rn_Bw M b) (h : rn_Rp M b N) (v : rn_vd N) (k : ∀ M', rn_cb b M M' → rn_sh M' → rn_Bw M' b → rn_Rp M' b (rn_tdf (N 2).toNat N 0) → rn_vd (rn_tdf (N 2).toNat N 0) → Q (some (rn_I (N 2 - rn_tdf (N 2).toNat N 0 2))) M') : rn_ME 39 [rn_R 462, rn_R b] M Q := by
  have v2 := v.2.2.1
  refine re_Ju_dropMisfits (rb_Ju_dropMisfits_0 hM p ?_)
  rw [h.1.2.2.1]
  have loop : ∀ (m : Nat) (N1 : Nat → Int) (j : Int) (M1 : rn_M), N1 2 - j = m → 0 ≤ j → m ≤ N 2 → rn_cb b M M1 → rn_sh M1 → rn_Bw M1 b → rn_Rp M1 b N1 → rn_vd N1 → rn_tdf m N1 j = rn_tdf (N 2).toNat N 0 → rn_WP 39 10 [rn_R 462, rn_R b, rn_I (N 2), rn_I j, rn_I (N 2 - m)] [] M1 Q := by
    intro m
    induction m with
    | zero =>
      intro N1 j M1 hj j0 _ c1 s1 w1 r1 v1 e1
      have w2 := v1.2.2.1
      refine rb_Ju_dropMisfits_10 s1 p ?_ ?_ ?_ <;> (try rw [r1.1.2.2.1])
      · omega
      · intro c; omega
      · intro _
        have e2 : N1 = rn_tdf (N 2).toNat N 0 := e1
        rw [e2] at r1 v1 ⊢
        exact k M1 c1 s1 w1 r1 v1
    | succ m ih =>
      intro N1 j M1 hj j0 hm c1 s1 w1 r1 v1 e1
      have w2 := v1.2.2.1
      have ee : N 2 - ((m + 1 : Nat) : Int) + 1 = N 2 - (m : Int) := by omega
      refine rb_Ju_dropMisfits_10 s1 p ?_ ?_ ?_ <;> (try rw [r1.1.2.2.1])
      · omega
      · intro _
        refine rs_isMisfit s1 p r1 v1 j0 (by omega) ?_
        refine rb_Ju_dropMisfits_22 s1 p ?_ ?_ ?_
        · omega
        · intro c
          have c := rn_b0 c
          have e2 : rn_tdf (m + 1) N1 j = rn_tdf m N1 (j + 1) := rn_pk_f c _ _
          rw [ee]
          exact ih N1 (j + 1) M1 (by omega) (by omega) (by omega) c1 s1 w1 r1 v1 (e2.symm.trans e1)
        · intro c
          have c := rn_b1 c
          have e2 : rn_tdf (m + 1) N1 j = rn_tdf m (rn_dl N1 j) j := rn_pk_t c _ _
          refine rs_dropLabel s1 p w1 v1 r1 (fun _ _ M2 c2 s2 w2 r2 => rb_Ju_dropMisfits_30 (by omega) ?_) (fun c => by omega)
          rw [ee]
          exact ih (rn_dl N1 j) j M2 (by rw [rn_dl_2]; omega) j0 (by omega) (rn_cb_tr c1 c2) s2 w2 r2 (rn_dl_vd v1 j0 (by omega)) (e2.symm.trans e1)
      · intro c; omega
  have := loop (N 2).toNat N 0 M (by omega) (by omega) (by omega) rn_cb_rf hM w h v rfl
  rw [show N 2 - ((N 2).toNat : Int) = 0 by omega] at this
  exact this
theorem rn_nt_nl {r s x t : Int} (v : rn_vd N) (r0 : 0 ≤ r) (r1 : r < N 0) (x1 : x ≤ 60) (t0 : 0 ≤ t) (t1 : t < N 1) : rn_nt (rn_nl N r s) r x t ↔ rn_nt N r x t := by
  have v0 := v.1
  have v1 := v.2.1
  have v2 := v.2.2.1.1
  have e := rn_nl_eqR (N := N) (r := r) (s := s) v2 r0 (by omega)
  have px := rn_px_eq e x.toNat (by omega)
  unfold rn_nt
  rw [px.1, px.2, rn_nl_tw v2 t0 (by omega) (by omega) (by omega), rn_nl_tw v2 t0 (by omega) (by omega) (by omega), rn_nl_tw v2 t0 (by omega) (by omega) (by omega), rn_nl_tw v2 t0 (by omega) (by omega) (by omega), e 2 (by omega) (by omega)]
theorem rn_tq_nl {r s x z : Int} (v : rn_vd N) (r0 : 0 ≤ r) (r1 : r < N 0) (x1 : x ≤ 60) : rn_tq (rn_nl N r s) r x z ↔ rn_tq N r x z := by
  have v0 := v.1
  have v1 := v.2.1
  have v2 := v.2.2.1.1
  have e1 : rn_nl N r s 1 = N 1 := rn_nl_lo (by omega) (by omega) v2
  unfold rn_tq
  rw [e1]
  constructor
  · rintro ⟨t, t0, t1, t2, t3⟩
    rw [rn_nl_tw v2 t0 (by omega) (by omega) (by omega)] at t2
    exact ⟨t, t0, t1, t2, (rn_nt_nl v r0 r1 x1 t0 t1).mp t3⟩
  · rintro ⟨t, t0, t1, t2, t3⟩
    refine ⟨t, t0, t1, ?_, (rn_nt_nl v r0 r1 x1 t0 t1).mpr t3⟩
    rw [rn_nl_tw v2 t0 (by omega) (by omega) (by omega)]; exact t2
theorem rn_kl_nl {r s x l : Int} (v : rn_vd N) (r0 : 0 ≤ r) (r1 : r < N 0) (x1 : x ≤ 60) (l0 : 0 ≤ l) (l1 : l < N 2) : rn_kl (rn_nl N r s) r x l ↔ rn_kl N r x l := by
  have v0 := v.1
  have v2 := v.2.2.1.1
  have vl := v.2.2.2.2.2.2 l l0 l1
  have vl1 := vl.1.2
  have vr := v.2.2.2.2.1 _ vl.1.1 vl.1.2
  have v5 := vr.2.2.2.1
  have vl2 := vl.2.2
  have e := rn_nl_eqR (N := N) (r := r) (s := s) v2 r0 (by omega)
  have eq := rn_nl_eqR (N := N) (r := r) (s := s) v2 vl.1.1 (by omega)
  have px := rn_px_eq e x.toNat (by omega)
  unfold rn_kl
  rw [rn_nl_lb l0 l1 (by omega) (by omega), rn_nl_lb l0 l1 (by omega) (by omega), eq 0 (by omega) (by omega), eq 2 (by omega) (by omega), e 2 (by omega) (by omega)]
  unfold rn_near
  rw [px.1, px.2]
  constructor
  · rintro ⟨j, j0, j1, j2⟩
    have pj := rn_px_eq eq j.toNat (by omega)
    rw [pj.1, pj.2] at j2
    exact ⟨j, j0, j1, j2⟩
  · rintro ⟨j, j0, j1, j2⟩
    have pj := rn_px_eq eq j.toNat (by omega)
    refine ⟨j, j0, j1, ?_⟩
    rw [pj.1, pj.2]
    exact j2
theorem rn_lq_nl {r s x z : Int} (v : rn_vd N) (r0 : 0 ≤ r) (r1 : r < N 0) (x1 : x ≤ 60) : rn_lq (rn_nl N r s) r x z ↔ rn_lq N r x z := by
  have v0 := v.1
  have v2 := v.2.2.1.1
  unfold rn_lq
  rw [rn_nl_2]
  constructor
  · rintro ⟨l, l0, l1, l2, l3, l4⟩
    by_cases c : l = N 2
    · subst c; rw [rn_nl_lb0 v2] at l2; exact absurd rfl l2
    · have vl := v.2.2.2.2.2.2 l l0 (by omega)
      have vl1 := vl.1.2
      rw [rn_nl_lb l0 (by omega) (by omega) (by omega)] at l2 l3
      rw [rn_nl_eqR v2 vl.1.1 (by omega) 1 (by omega) (by omega)] at l3
      exact ⟨l, l0, by omega, l2, l3, (rn_kl_nl v r0 r1 x1 l0 (by omega)).mp l4⟩
  · rintro ⟨l, l0, l1, l2, l3, l4⟩
    have vl := v.2.2.2.2.2.2 l l0 (by omega)
    have vl1 := vl.1.2
    refine ⟨l, l0, by omega, ?_, ?_, (rn_kl_nl v r0 r1 x1 l0 (by omega)).mpr l4⟩
    · rw [rn_nl_lb l0 (by omega) (by omega) (by omega)]; exact l2
    · rw [rn_nl_lb l0 (by omega) (by omega) (by omega), rn_nl_eqR v2 vl.1.1 (by omega) 1 (by omega) (by omega)]; exact l3
theorem rn_best_r (v : rn_vd N) {r : Int} (r0 : 0 ≤ r) (r1 : r < N 0) (h : rn_best N r ≠ -9) : (0 ≤ rn_best N r ∧ rn_best N r ≤ 60) ∧ rn_best N r + rn_o N r 0 ≤ rn_o N r 5 + 1 := by
  have vr := v.2.2.2.2.1 r r0 r1
  have v5 := vr.2.2.2.1
  rcases rn_bsn_r (N := N) r (rn_o N r 5 + 1).toNat with q | ⟨q1, q2, q3⟩
  · exact absurd q h
  · have := (rn_why0.mp q3).1
    unfold rn_best
    omega
theorem rn_lrv_ok {r : Int} (r0 : 0 ≤ r) : ∀ (n : Nat) (N : Nat → Int), rn_vd N → r < N 0 → rn_vd (rn_lrv r n N) ∧ rn_lrv r n N 0 = N 0
  | 0, N, v, _ => ⟨v, rfl⟩
  | n + 1, N, v, r1 => by
    unfold rn_lrv
    by_cases c : N 2 < 20 ∧ rn_best N r ≠ -9
    · rw [rn_pk_t c]
      have br := rn_best_r v r0 r1 c.2
      have e0 : rn_nl N r (rn_best N r) 0 = N 0 := rn_nl_lo (by omega) (by omega) v.2.2.1.1
      have := rn_lrv_ok r0 n _ (rn_nl_vd v (by omega) r0 r1 br.1 br.2) (by rw [e0]; exact r1)
      rw [e0] at this
      exact this
    · rw [rn_pk_f c]; exact ⟨v, rfl⟩
theorem rs_letterRiver (hM : rn_sh M) (p : rn_isB b) (w : rn_Bw M b) (h : rn_Rp M b N) (v : rn_vd N) {r n : Int} (r0 : 0 ≤ r) (r1 : r < N 0) (n0 : 0 ≤ n ∧ n ≤ 5) (k : ∀ M', rn_cj b M M' → rn_sh M' → rn_Bw M' b → rn_Rp M' b (rn_lrv r n.toNat N) → Q none M') : rn_ME 36 [rn_R 462, rn_R b, rn_R (b + 4 + 5 * r.toNat), rn_I n] M Q := by
  refine re_Ju_letterRiver (rb_Ju_letterRiver_0 hM (rs_noteRivals hM p h v r0 r1 (fun M1 c1 n1 => rb_Ju_letterRiver_6 ?_)))
  have loop : ∀ (m : Nat) (N1 : Nat → Int) (M1 : rn_M) (w0 : rn_V), (m : Int) ≤ n → rn_cj b M M1 → rn_sh M1 → rn_Bw M1 b → rn_Rp M1 b N1 → rn_vd N1 → r < N1 0 → rn_No M1 N1 r (rn_o N1 r 5 + 1) → rn_lrv r m N1 = rn_lrv r n.toNat N → rn_WP 36 9 [rn_R 462, rn_R b, rn_R (b + 4 + 5 * r.toNat), rn_I n, rn_I (n - m), w0] [] M1 Q := by
    intro m
    induction m with
    | zero =>
      intro N1 M1 w0 hm c1 s1 w1 r1 v1 _ n1 e1
      refine rb_Ju_letterRiver_9 s1 ?_ ?_
      · intro c; omega
      · intro _
        have e2 : N1 = rn_lrv r n.toNat N := e1
        rw [e2] at r1
        exact k M1 c1 s1 w1 r1
    | succ m ih =>
      intro N1 M1 w0 hm c1 s1 w1 r1 v1 q1 n1 e1
      have v0 := v1.1
      have v2 := v1.2.2.1
      have v5 := (v1.2.2.2.2.1 r r0 q1).2.2.2.1
      refine rb_Ju_letterRiver_9 s1 ?_ ?_
      · intro _
        refine rs_bestStartAsNoted s1 p r1 v1 r0 q1 n1 ?_
        have stop : ¬ (N1 2 < 20 ∧ rn_best N1 r ≠ -9) → Q none M1 := by
          intro c
          have e2 : rn_lrv r (m + 1) N1 = N1 := rn_pk_f c _ _
          rw [e2.symm.trans e1] at r1
          exact k M1 c1 s1 w1 r1
        refine rb_Ju_letterRiver_21 s1 p ?_ ?_
        · intro c; exact stop (fun z => z.2 c)
        · intro c
          refine rs_addLabel s1 p w1 v1 r1 r0 q1 (fun c2 M2 c3 s3 w3 r3 _ => ?_) (fun c2 => ?_)
          · refine rb_Ju_letterRiver_37 ?_ ?_ ?_
            · omega
            · intro z; omega
            · intro _
              have e2 : rn_lrv r (m + 1) N1 = rn_lrv r m (rn_nl N1 r (rn_best N1 r)) := rn_pk_t ⟨by omega, c⟩ _ _
              have br := rn_best_r v1 r0 q1 c
              have e0 : rn_nl N1 r (rn_best N1 r) 0 = N1 0 := rn_nl_lo (by omega) (by omega) v2.1
              rw [show n - ((m + 1 : Nat) : Int) + 1 = n - (m : Int) by omega]
              have bb := rn_bdB p
              refine ih _ M2 _ (by omega) (rn_cj_tr c1 (rn_cj_cb c3)) s3 w3 r3 (rn_nl_vd v1 (by omega) r0 q1 br.1 br.2) (by rw [e0]; exact q1) ?_ (e2.symm.trans e1)
              rw [rn_nl_eqR v2.1 r0 (by omega) 5 (by omega) (by omega)]
              intro x x0 x1
              rw [(c3.2 463 (by omega)).1]
              have := n1 x x0 x1
              refine ⟨this.1, fun z z1 => ?_⟩
              rw [rn_tq_nl v1 r0 q1 (by omega), rn_lq_nl v1 r0 q1 (by omega)]
              exact this.2 z z1
          · exact rb_Ju_letterRiver_37 (fun z => absurd rfl z) (fun _ => stop (fun z => by omega)) (fun z => absurd rfl z)
      · intro c; omega
  have := loop n.toNat N M1 rn_J (by omega) (rn_cj_ch c1) (rn_sh_ch c1 hM) (rn_Bw_ch rn_P3_b c1 p w) (rn_Rp_ch rn_P3_b c1 p v h) v r1 n1 rfl
  rw [show n - (n.toNat : Int) = 0 by omega] at this
  exact this
theorem rn_lar_ok {rank : Int} {n : Nat} (v : rn_vd N) : ∀ j : Nat, (j : Int) ≤ N 0 → rn_vd (rn_lar rank n j N) ∧ rn_lar rank n j N 0 = N 0
  | 0, _ => ⟨v, rfl⟩
  | j + 1, h => by
    have ih := rn_lar_ok (rank := rank) (n := n) v j (by omega)
    unfold rn_lar
    by_cases c : rn_o (rn_lar rank n j N) j 1 = rank
    · rw [rn_pk_t c]
      have := rn_lrv_ok (r := (j : Int)) (by omega) n _ ih.1 (by omega)
      exact ⟨this.1, this.2.trans ih.2⟩
    · rw [rn_pk_f c]; exact ih
theorem rn_laa_ok {n : Nat} (v : rn_vd N) : ∀ j : Nat, rn_vd (rn_laa n j N) ∧ rn_laa n j N 0 = N 0
  | 0 => ⟨v, rfl⟩
  | j + 1 => by
    have ih := rn_laa_ok (n := n) v j
    have v0 := v.1
    have := rn_lar_ok (rank := 9 - (j : Int)) (n := n) ih.1 (rn_laa n j N 0).toNat (by omega)
    unfold rn_laa
    exact ⟨this.1, this.2.trans ih.2⟩
theorem rs_letterAll (hM : rn_sh M) (p : rn_isB b) (w : rn_Bw M b) (h : rn_Rp M b N) (v : rn_vd N) {n : Int} (n0 : 0 ≤ n ∧ n ≤ 5) (k : ∀ M', rn_cj b M M' → rn_sh M' → rn_Bw M' b → rn_Rp M' b (rn_laa n.toNat 9 N) → Q none M') : rn_ME 35 [rn_R 462, rn_R b, rn_I n] M Q := by
  refine re_Ju_letterAll (rb_Ju_letterAll_0 ?_)
  have outer : ∀ (m j : Nat) (M1 : rn_M) (w1 w2 : rn_V), m + j = 9 → rn_cj b M M1 → rn_sh M1 → rn_Bw M1 b → rn_Rp M1 b (rn_laa n.toNat j N) → rn_WP 35 3 [rn_R 462, rn_R b, rn_I n, rn_I (9 - j), w1, w2] [] M1 Q := by
    intro m
    induction m with
    | zero =>
      intro j M1 w1 w2 hj c1 s1 b1 r1
      refine rb_Ju_letterAll_3 ?_ ?_
      · intro _
        rw [show j = 9 by omega] at r1
        exact k M1 c1 s1 b1 r1
      · intro c; omega
    | succ m ih =>
      intro j M1 w1 w2 hj c1 s1 b1 r1
      have va := rn_laa_ok (n := n.toNat) v j
      refine rb_Ju_letterAll_3 ?_ ?_
      · intro c; omega
      · intro _
        have inner : ∀ (m2 i : Nat) (M2 : rn_M) (w2 : rn_V), m2 + i = (rn_laa n.toNat j N 0).toNat → rn_cj b M M2 → rn_sh M2 → rn_Bw M2 b → rn_Rp M2 b (rn_lar (9 - j) n.toNat i (rn_laa n.toNat j N)) → rn_WP 35 11 [rn_R 462, rn_R b, rn_I n, rn_I (9 - j), rn_I (i : Int), w2] [] M2 Q := by
          intro m2
          induction m2 with
          | zero =>
            intro i M2 w2 hi c2 s2 b2 r2
            have v0 := va.1.1
            have vi := rn_lar_ok (rank := 9 - (j : Int)) (n := n.toNat) va.1 i (by omega)
            refine rb_Ju_letterAll_11 s2 p ?_ ?_ ?_ <;> (try rw [r2.1.1])
            · omega
            · intro c; omega
            · intro _
              rw [show i = (rn_laa n.toNat j N 0).toNat by omega] at r2
              have := ih (j + 1) M2 (rn_I (i : Int)) w2 (by omega) c2 s2 b2 r2
              rw [show (9 : Int) - ((j + 1 : Nat) : Int) = 9 - (j : Int) + (-1) by omega] at this
              exact this
          | succ m2 ihi =>
            intro i M2 w2 hi c2 s2 b2 r2
            have v0 := va.1.1
            have vi := rn_lar_ok (rank := 9 - (j : Int)) (n := n.toNat) va.1 i (by omega)
            have i1 : (i : Int) < rn_lar (9 - (j : Int)) n.toNat i (rn_laa n.toNat j N) 0 := by rw [vi.2]; omega
            refine rb_Ju_letterAll_11 s2 p ?_ ?_ ?_ <;> (try rw [r2.1.1])
            · omega
            · intro _
              refine rs_riverAt s2 p r2 vi.1 (fun _ _ => ?_) (fun c => by omega)
              have hr := r2.2.2.1 i (by omega) i1
              have pr := rn_isR_i p vi.1 (r := (i : Int)) (by omega) i1
              refine rb_Ju_letterAll_26s s2 pr ?_ ?_ ?_ <;> (try rw [hr.1])
              · omega
              · intro c
                refine rs_letterRiver s2 p b2 r2 vi.1 (by omega) i1 n0 (fun M3 c3 s3 b3 r3 => rb_Ju_letterAll_50 (by omega) ?_)
                have e : rn_lar (9 - (j : Int)) n.toNat (i + 1) (rn_laa n.toNat j N) = rn_lrv i n.toNat (rn_lar (9 - (j : Int)) n.toNat i (rn_laa n.toNat j N)) := rn_pk_t c _ _
                have := ihi (i + 1) M3 (rn_R (b + 4 + 5 * (i : Int).toNat)) (by omega) (rn_cj_tr c2 c3) s3 b3 (by rw [e]; exact r3)
                rw [show ((i + 1 : Nat) : Int) = (i : Int) + 1 by omega] at this
                exact this
              · intro c
                have e : rn_lar (9 - (j : Int)) n.toNat (i + 1) (rn_laa n.toNat j N) = rn_lar (9 - (j : Int)) n.toNat i (rn_laa n.toNat j N) := rn_pk_f c _ _
                have := ihi (i + 1) M2 (rn_R (b + 4 + 5 * (i : Int).toNat)) (by omega) c2 s2 b2 (by rw [e]; exact r2)
                rw [show ((i + 1 : Nat) : Int) = (i : Int) + 1 by omega] at this
                exact this
            · intro c; omega
        exact inner (rn_laa n.toNat j N 0).toNat 0 M1 w2 (by omega) c1 s1 b1 r1
  exact outer 9 0 M rn_J rn_J (by omega) rn_cj_rf hM w h
end PLC
