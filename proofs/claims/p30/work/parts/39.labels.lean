/-! labels come and go; a whole copy -/
section LBL
variable {M : rn_M} {Q : rn_Q} {b d : Nat} {N : Nat → Int}
theorem rn_nl_lo {r s : Int} {k : Nat} (h : k < 522) (h2 : k ≠ 2) (v : 0 ≤ N 2) : rn_nl N r s k = N k := by
  unfold rn_nl; rw [rn_up_ne h2, rn_up_ne (by omega), rn_up_ne (by omega)]
theorem rn_nl_2 {r s : Int} : rn_nl N r s 2 = N 2 + 1 := rn_up_eq
theorem rn_nl_eqR {r s i : Int} (v : 0 ≤ N 2) (i0 : 0 ≤ i) (i1 : i < 6) : rn_eqR N (rn_nl N r s) i := fun w w0 w1 => by unfold rn_o; exact rn_nl_lo (by omega) (by omega) v
theorem rn_nl_tw {r s t w : Int} (v : 0 ≤ N 2) (t0 : 0 ≤ t) (t1 : t < 10) (w0 : 0 ≤ w) (w1 : w < 5) : rn_tw (rn_nl N r s) t w = rn_tw N t w := by unfold rn_tw; exact rn_nl_lo (by omega) (by omega) v
theorem rn_nl_lb {r s l w : Int} (l0 : 0 ≤ l) (l1 : l < N 2) (w0 : 0 ≤ w) (w1 : w < 2) : rn_lb (rn_nl N r s) l w = rn_lb N l w := by
  unfold rn_lb rn_nl; rw [rn_up_ne (by omega), rn_up_ne (by omega), rn_up_ne (by omega)]
theorem rn_nl_lb0 {r s : Int} (v : 0 ≤ N 2) : rn_lb (rn_nl N r s) (N 2) 0 = r := by
  unfold rn_lb rn_nl; rw [rn_up_ne (by omega), rn_up_ne (by omega), show (522 + 2 * N 2 + 0).toNat = (522 + 2 * N 2).toNat by omega, rn_up_eq]
theorem rn_nl_lb1 {r s : Int} (v : 0 ≤ N 2) : rn_lb (rn_nl N r s) (N 2) 1 = s := by
  unfold rn_lb rn_nl; rw [rn_up_ne (by omega), show (522 + 2 * N 2 + 1).toNat = (523 + 2 * N 2).toNat by omega, rn_up_eq]
theorem rn_nl_vd {r s : Int} (v : rn_vd N) (c : N 2 ≤ 19) (r0 : 0 ≤ r) (r1 : r < N 0) (s0 : 0 ≤ s ∧ s ≤ 60) (s1 : s + rn_o N r 0 ≤ rn_o N r 5 + 1) : rn_vd (rn_nl N r s) := by
  obtain ⟨v0, v1, v2, v3, v4, v5, v6⟩ := v
  have e0 : rn_nl N r s 0 = N 0 := rn_nl_lo (by omega) (by omega) v2.1
  have e1 : rn_nl N r s 1 = N 1 := rn_nl_lo (by omega) (by omega) v2.1
  have e3 : rn_nl N r s 3 = N 3 := rn_nl_lo (by omega) (by omega) v2.1
  refine ⟨by omega, by omega, by rw [rn_nl_2]; omega, by omega, fun i i0 i1 => ?_, fun t t0 t1 => ?_, fun l l0 l1 => ?_⟩
  · exact rn_vR_cg (rn_nl_eqR v2.1 i0 (by omega)) (v4 i i0 (by omega))
  · have := v5 t t0 (by omega)
    unfold rn_vT at *
    rw [rn_nl_tw v2.1 t0 (by omega) (by omega) (by omega), rn_nl_tw v2.1 t0 (by omega) (by omega) (by omega), rn_nl_tw v2.1 t0 (by omega) (by omega) (by omega), rn_nl_tw v2.1 t0 (by omega) (by omega) (by omega), rn_nl_tw v2.1 t0 (by omega) (by omega) (by omega)]
    exact this
  · rw [rn_nl_2] at l1
    unfold rn_vL
    by_cases e : l = N 2
    · subst e
      rw [rn_nl_lb0 v2.1, rn_nl_lb1 v2.1, e0, rn_nl_eqR v2.1 r0 (by omega) 0 (by omega) (by omega), rn_nl_eqR v2.1 r0 (by omega) 5 (by omega) (by omega)]
      exact ⟨⟨r0, r1⟩, s0, s1⟩
    · have := v6 l l0 (by omega)
      unfold rn_vL at this
      have t1 := this.1.2
      rw [rn_nl_lb l0 (by omega) (by omega) (by omega), rn_nl_lb l0 (by omega) (by omega) (by omega), e0, rn_nl_eqR v2.1 this.1.1 (by omega) 0 (by omega) (by omega), rn_nl_eqR v2.1 this.1.1 (by omega) 5 (by omega) (by omega)]
      exact this
theorem rs_addLabel (hM : rn_sh M) (p : rn_isB d) (wd : rn_Bw M d) (v : rn_vd N) (hd : rn_Rp M d N) {r s : Int} (r0 : 0 ≤ r) (r1 : r < N 0) (k1 : N 2 ≤ 19 → ∀ M', rn_cb d M M' → rn_sh M' → rn_Bw M' d → rn_Rp M' d (rn_nl N r s) → rn_gi M' (d + 4 + 5 * r.toNat) = rn_gi M (d + 4 + 5 * r.toNat) → Q (some (rn_I 1)) M') (k2 : ¬ (N 2 ≤ 19) → Q (some (rn_I 0)) M) : rn_ME 10 [rn_R d, rn_R (d + 4 + 5 * r.toNat), rn_I s] M Q := by
  have v0 := v.1
  have v1 := v.2.1
  have v2 := v.2.2.1
  obtain ⟨⟨q0, q1, q2, q3⟩, p2, p3, p4, p5⟩ := hd
  have wd' := wd
  obtain ⟨w1, π, w2, w3⟩ := wd
  have key : ∀ l : Nat, l < 20 → rn_isL (d + 44 + π l) := fun l hl => rn_isL_of p (w2 l hl).2
  refine re_Bo_addLabel (rb_Bo_addLabel_0s hM p ?_ ?_ ?_) <;> rw [q2]
  · intro c
    have := w2 (N 2).toNat (by omega)
    unfold rn_go
    rw [this.1]
    exact ⟨by omega, by omega, rfl, key _ (by omega)⟩
  · intro c; exact k2 (by omega)
  · intro c
    have hq := w2 (N 2).toNat (by omega)
    have go : rn_go M (d + 3) (N 2).toNat = d + 44 + π (N 2).toNat := by unfold rn_go; rw [hq.1]; rfl
    have hL := key (N 2).toNat (by omega)
    have hp := hq.2
    rw [go]
    refine rb_La_put_0 hM hL ?_
    have s1 : rn_sh (rn_si (rn_sr M (d + 44 + π (N 2).toNat) 0 (some (d + 4 + 5 * r.toNat))) (d + 44 + π (N 2).toNat) 1 s) := rn_sh_rf (M := M) rfl (fun a k _ h2 _ _ => rn_sr_ne (M := M) (fun z => h2 (by rw [z.1]; exact hL))) hM
    have e2 : rn_gi (rn_si (rn_sr M (d + 44 + π (N 2).toNat) 0 (some (d + 4 + 5 * r.toNat))) (d + 44 + π (N 2).toNat) 1 s) d 2 = N 2 := by rw [rn_si_gif (by omega)]; exact q2
    refine rb_Bo_addLabel_41 s1 p ?_ ?_ <;> rw [e2]
    · omega
    have f : ∀ x, x ≠ d → x ≠ d + 44 + π (N 2).toNat → rn_gi (rn_si (rn_si (rn_sr M (d + 44 + π (N 2).toNat) 0 (some (d + 4 + 5 * r.toNat))) (d + 44 + π (N 2).toNat) 1 s) d 2 (N 2 + 1)) x = rn_gi M x := fun x h1 h2 => by rw [rn_si_gif (by omega), rn_si_gif (by omega)]; rfl
    have fr : ∀ x k, x ≠ d + 44 + π (N 2).toNat → rn_gr (rn_si (rn_si (rn_sr M (d + 44 + π (N 2).toNat) 0 (some (d + 4 + 5 * r.toNat))) (d + 44 + π (N 2).toNat) 1 s) d 2 (N 2 + 1)) x k = rn_gr M x k := fun x k h1 => rn_sr_ne (fun z => h1 z.1)
    have g : ∀ w, w ≠ 2 → rn_gi (rn_si (rn_si (rn_sr M (d + 44 + π (N 2).toNat) 0 (some (d + 4 + 5 * r.toNat))) (d + 44 + π (N 2).toNat) 1 s) d 2 (N 2 + 1)) d w = rn_gi M d w := fun w h1 => by rw [rn_si_ne (by omega), rn_si_gif (by omega)]; rfl
    have g2 : rn_gi (rn_si (rn_si (rn_sr M (d + 44 + π (N 2).toNat) 0 (some (d + 4 + 5 * r.toNat))) (d + 44 + π (N 2).toNat) 1 s) d 2 (N 2 + 1)) d 2 = N 2 + 1 := rn_si_eq
    have gl : rn_gi (rn_si (rn_si (rn_sr M (d + 44 + π (N 2).toNat) 0 (some (d + 4 + 5 * r.toNat))) (d + 44 + π (N 2).toNat) 1 s) d 2 (N 2 + 1)) (d + 44 + π (N 2).toNat) 1 = s := by rw [rn_si_gif (by omega), rn_si_eq]
    have gq : rn_gr (rn_si (rn_si (rn_sr M (d + 44 + π (N 2).toNat) 0 (some (d + 4 + 5 * r.toNat))) (d + 44 + π (N 2).toNat) 1 s) d 2 (N 2 + 1)) (d + 44 + π (N 2).toNat) 0 = some (d + 4 + 5 * r.toNat) := rn_sr_eq
    have s2 : rn_sh (rn_si (rn_si (rn_sr M (d + 44 + π (N 2).toNat) 0 (some (d + 4 + 5 * r.toNat))) (d + 44 + π (N 2).toNat) 1 s) d 2 (N 2 + 1)) := rn_sh_rf (M := M) rfl (fun a k _ h2 _ _ => fr a k (fun z => h2 (by rw [z]; exact hL))) hM
    have cb : rn_cb d M (rn_si (rn_si (rn_sr M (d + 44 + π (N 2).toNat) 0 (some (d + 4 + 5 * r.toNat))) (d + 44 + π (N 2).toNat) 1 s) d 2 (N 2 + 1)) := ⟨rfl, fun x hx => ⟨f x (by omega) (by omega), fun k => fr x k (by omega)⟩⟩
    refine k1 (by omega) _ cb s2 ?_ ?_ (f _ (by omega) (by omega))
    · exact rn_Bw_eq (fun j hj => by rw [f _ (by omega) (by omega)]) (fun x => fr _ _ (by omega)) wd'
    · have e0 : rn_nl N r s 0 = N 0 := rn_nl_lo (by omega) (by omega) v2.1
      have e1 : rn_nl N r s 1 = N 1 := rn_nl_lo (by omega) (by omega) v2.1
      have e3 : rn_nl N r s 3 = N 3 := rn_nl_lo (by omega) (by omega) v2.1
      refine ⟨⟨?_, ?_, ?_, ?_⟩, fun r r0 r1 => ?_, fun i i0 i1 => ?_, fun t t0 t1 => ?_, fun l l0 l1 => ?_⟩
      · rw [g 0 (by omega), e0]; exact q0
      · rw [g 1 (by omega), e1]; exact q1
      · rw [g2, rn_nl_2]
      · rw [g 3 (by omega), e3]; exact q3
      · rw [f _ (by omega) (by omega)]; exact p2 r r0 r1
      · rw [e0] at i1
        refine rn_Rv_cg (rn_nl_eqR v2.1 i0 (by omega)) (v.2.2.2.2.1 i i0 i1) ?_
        exact rn_Rv_eq (f _ (by omega) (by omega)) (f _ (by omega) (by omega)) (f _ (by omega) (by omega)) (f _ (by omega) (by omega)) (f _ (by omega) (by omega)) (p3 i i0 i1)
      · rw [e1] at t1
        have := p4 t t0 t1
        unfold rn_Tw at *
        rw [rn_nl_tw v2.1 t0 (by omega) (by omega) (by omega), rn_nl_tw v2.1 t0 (by omega) (by omega) (by omega), rn_nl_tw v2.1 t0 (by omega) (by omega) (by omega), rn_nl_tw v2.1 t0 (by omega) (by omega) (by omega), rn_nl_tw v2.1 t0 (by omega) (by omega) (by omega), f _ (by omega) (by omega)]
        exact this
      · rw [rn_nl_2] at l1
        by_cases e : l = N 2
        · subst e
          refine ⟨d + 44 + π (N 2).toNat, ?_, hL, ?_, ?_⟩
          · rw [fr _ _ (by omega)]; exact hq.1
          · rw [rn_nl_lb0 v2.1]; exact gq
          · rw [rn_nl_lb1 v2.1]; exact gl
        · obtain ⟨q, z1, z2, z3, z4⟩ := p5 l l0 (by omega)
          have hl := w2 l.toNat (by omega)
          have eq : q = d + 44 + π l.toNat := by rw [z1] at hl; exact Option.some.inj hl.1
          have hl2 := hl.2
          have ne : π l.toNat ≠ π (N 2).toNat := fun z => by have := w3 _ _ (by omega) (by omega) z; omega
          refine ⟨q, ?_, z2, ?_, ?_⟩
          · rw [fr _ _ (by omega)]; exact z1
          · rw [fr _ _ (by omega), rn_nl_lb l0 (by omega) (by omega) (by omega)]; exact z3
          · rw [f _ (by omega) (by omega), rn_nl_lb l0 (by omega) (by omega) (by omega)]; exact z4
theorem rn_tr_nl {i : Int} (i0 : 0 ≤ i) : rn_nl (rn_tr N (N 0) (N 1) i) (rn_lb N i 0) (rn_lb N i 1) = rn_tr N (N 0) (N 1) (i + 1) := by
  funext k
  have e2 : rn_tr N (N 0) (N 1) i 2 = i := rfl
  unfold rn_nl
  rw [e2]
  by_cases h2 : k = 2
  · subst h2; rw [rn_up_eq]; rfl
  · rw [rn_up_ne h2]
    by_cases h3 : k = (523 + 2 * i).toNat
    · subst h3; rw [rn_up_eq, rn_tr_ge (by omega)]; unfold rn_lb; congr 1; omega
    · rw [rn_up_ne h3]
      by_cases h4 : k = (522 + 2 * i).toNat
      · subst h4; rw [rn_up_eq, rn_tr_ge (by omega)]; unfold rn_lb; congr 1; omega
      · rw [rn_up_ne h4]
        unfold rn_tr
        rw [if_neg h2, if_neg h2]
theorem rs_copyLabel (hM : rn_sh M) (p : rn_isB d) (q : rn_isB b) (e : b ≠ d) (wb : rn_Bw M b) (wd : rn_Bw M d) (v : rn_vd N) (hb : rn_Rp M b N) {i : Int} (i0 : 0 ≤ i) (i1 : i < N 2) {a : Nat} (ha : rn_Lb M b a N i) (hd : rn_Rp M d (rn_tr N (N 0) (N 1) i)) (k : ∀ M', rn_cb d M M' → rn_sh M' → rn_Bw M' d → rn_Rp M' d (rn_tr N (N 0) (N 1) (i + 1)) → Q none M') : rn_ME 4 [rn_R d, rn_R a] M Q := by
  have v0 := v.1
  have v1 := v.2.1
  have v2 := v.2.2.1
  have vl := v.2.2.2.2.2.2 i i0 i1
  have vl1 := vl.1.2
  have go := rn_Lb_go ha
  have vt := rn_tr_vd v (c0 := N 0) (c1 := N 1) (c2 := i) (by omega) (by omega) (Or.inr (by omega))
  refine re_Bo_copyLabel (rb_Bo_copyLabel_0s hM ha.1 p ?_ ?_)
  · rw [go]; exact ⟨ha.2.1, rn_isR_i q v vl.1.1 vl.1.2⟩
  · rw [go, hb.2.1 _ vl.1.1 (by omega)]
    refine rs_riverAt hM p hd vt (fun _ _ => ?_) (fun c => absurd ⟨vl.1.1, vl.1.2⟩ c)
    refine rb_Bo_copyLabel_16 hM ha.1 p ?_
    rw [ha.2.2]
    refine rs_addLabel hM p wd vt hd vl.1.1 vl.1.2 (fun _ M' c1 s1 w1 r1 _ => rb_Bo_copyLabel_23 (k M' c1 s1 w1 ?_)) (fun c => absurd (show i ≤ 19 by omega) c)
    rw [rn_tr_nl i0] at r1
    exact r1
theorem rs_copyFrom (hM : rn_sh M) (p : rn_isB d) (q : rn_isB b) (e : b ≠ d) (wb : rn_Bw M b) (wd : rn_Bw M d) (v : rn_vd N) (hb : rn_Rp M b N) (k : ∀ M', rn_cb d M M' → rn_sh M' → rn_Bw M' d → rn_Rp M' d N → Q none M') : rn_ME 1 [rn_R d, rn_R b] M Q := by
  have v0 := v.1
  have v1 := v.2.1
  have v2 := v.2.2.1
  have ne := rn_isB_ne q p e
  have w6 := wd.1
  have all : ∀ M1, rn_cb d M M1 → rn_Bw M1 b ∧ rn_Rp M1 b N := fun M1 c => ⟨rn_Bw_cb q p e c wb, rn_Rp_cb q p e c wb v hb⟩
  refine re_Bo_copyFrom (rb_Bo_copyFrom_0 hM p q ?_)
  rw [show rn_gi (rn_si (rn_si (rn_si M d 0 0) d 1 0) d 2 0) b 3 = N 3 by rw [rn_si_gif (by omega), rn_si_gif (by omega), rn_si_gif (by omega)]; exact hb.1.2.2.2]
  have c1 : rn_cb d M (rn_si (rn_si (rn_si (rn_si M d 0 0) d 1 0) d 2 0) d 3 (N 3)) := rn_cb_tr (rn_cb_tr (rn_cb_tr (rn_cb_si (by omega)) (rn_cb_si (by omega))) (rn_cb_si (by omega))) (rn_cb_si (by omega))
  have s1 : rn_sh (rn_si (rn_si (rn_si (rn_si M d 0 0) d 1 0) d 2 0) d 3 (N 3)) := rn_sh_rf rfl (fun _ _ _ _ _ _ => rfl) hM
  have f1 : ∀ x, x ≠ d → rn_gi (rn_si (rn_si (rn_si (rn_si M d 0 0) d 1 0) d 2 0) d 3 (N 3)) x = rn_gi M x := fun x h => by rw [rn_si_gif (by omega), rn_si_gif (by omega), rn_si_gif (by omega), rn_si_gif (by omega)]
  have r1 : rn_Rp (rn_si (rn_si (rn_si (rn_si M d 0 0) d 1 0) d 2 0) d 3 (N 3)) d (rn_tr N 0 0 0) := by
    refine ⟨⟨?_, ?_, ?_, ?_⟩, fun r r0 r1 => ?_, fun r r0 r1 => ?_, fun t t0 t1 => ?_, fun l l0 l1 => ?_⟩
    · rw [rn_si_ne (by omega), rn_si_ne (by omega), rn_si_ne (by omega), rn_si_eq]; rfl
    · rw [rn_si_ne (by omega), rn_si_ne (by omega), rn_si_eq]; rfl
    · rw [rn_si_ne (by omega), rn_si_eq]; rfl
    · rw [rn_si_eq]; rfl
    · rw [f1 _ (by omega), w6 _ (by omega)]; omega
    · have r1 : r < 0 := r1
      omega
    · have t1 : t < 0 := t1
      omega
    · have l1 : l < 0 := l1
      omega
  have w1 : rn_Bw (rn_si (rn_si (rn_si (rn_si M d 0 0) d 1 0) d 2 0) d 3 (N 3)) d := rn_Bw_eq (M := M) (fun j hj => by rw [f1 _ (by omega)]) (fun _ => rfl) wd
  generalize rn_si (rn_si (rn_si (rn_si M d 0 0) d 1 0) d 2 0) d 3 (N 3) = M1 at *
  have loop3 : ∀ (m : Nat) (i : Int) (M2 : rn_M), i + m = N 2 → 0 ≤ i → rn_cb d M M2 → rn_sh M2 → rn_Bw M2 d → rn_Rp M2 d (rn_tr N (N 0) (N 1) i) → rn_WP 1 75 [rn_R d, rn_R b, rn_I i] [] M2 Q := by
    intro m
    induction m with
    | zero =>
      intro i M2 hi i0 c2 s2 w2 r2
      have hb2 := (all M2 c2).2
      refine rb_Bo_copyFrom_75 s2 q ?_ ?_ <;> rw [hb2.1.2.2.1]
      · intro c; omega
      · intro _
        rw [show i = N 2 by omega, rn_tr_id] at r2
        exact k M2 c2 s2 w2 r2
    | succ m ih =>
      intro i M2 hi i0 c2 s2 w2 r2
      have hb2 := all M2 c2
      refine rb_Bo_copyFrom_75 s2 q ?_ ?_ <;> rw [hb2.2.1.2.2.1]
      · intro _
        refine rs_labelAt s2 q hb2.2 v (fun a a0 a1 ha => ?_) (fun c => by omega)
        refine rb_Bo_copyFrom_89 s2 p (rs_copyLabel s2 p q e hb2.1 w2 v hb2.2 a0 a1 ha r2 (fun M3 c3 s3 w3 r3 => rb_Bo_copyFrom_92 (by omega) ?_))
        exact ih (i + 1) M3 (by omega) (by omega) (rn_cb_tr c2 c3) s3 w3 r3
      · intro c; omega
  have loop2 : ∀ (m : Nat) (i : Int) (M2 : rn_M), i + m = N 1 → 0 ≤ i → rn_cb d M M2 → rn_sh M2 → rn_Bw M2 d → rn_Rp M2 d (rn_tr N (N 0) i 0) → rn_WP 1 50 [rn_R d, rn_R b, rn_I i] [] M2 Q := by
    intro m
    induction m with
    | zero =>
      intro i M2 hi i0 c2 s2 w2 r2
      have hb2 := (all M2 c2).2
      refine rb_Bo_copyFrom_50 s2 q ?_ ?_ <;> rw [hb2.1.2.1]
      · intro c; omega
      · intro _
        rw [show i = N 1 by omega] at r2
        exact loop3 (N 2).toNat 0 M2 (by omega) (by omega) c2 s2 w2 r2
    | succ m ih =>
      intro i M2 hi i0 c2 s2 w2 r2
      have hb2 := all M2 c2
      refine rb_Bo_copyFrom_50 s2 q ?_ ?_ <;> rw [hb2.2.1.2.1]
      · intro _
        refine rs_townAt s2 q hb2.2 v (fun a0 a1 => ?_) (fun c => by omega)
        refine rb_Bo_copyFrom_64 s2 p (rs_copyTown s2 p q e hb2.1 w2 v hb2.2 a0 a1 r2 (fun M3 c3 s3 w3 r3 => rb_Bo_copyFrom_67 (by omega) ?_))
        exact ih (i + 1) M3 (by omega) (by omega) (rn_cb_tr c2 c3) s3 w3 r3
      · intro c; omega
  have loop1 : ∀ (m : Nat) (i : Int) (M2 : rn_M), i + m = N 0 → 0 ≤ i → rn_cb d M M2 → rn_sh M2 → rn_Bw M2 d → rn_Rp M2 d (rn_tr N i 0 0) → rn_WP 1 25 [rn_R d, rn_R b, rn_I i] [] M2 Q := by
    intro m
    induction m with
    | zero =>
      intro i M2 hi i0 c2 s2 w2 r2
      have hb2 := (all M2 c2).2
      refine rb_Bo_copyFrom_25 s2 q ?_ ?_ <;> rw [hb2.1.1]
      · intro c; omega
      · intro _
        rw [show i = N 0 by omega] at r2
        exact loop2 (N 1).toNat 0 M2 (by omega) (by omega) c2 s2 w2 r2
    | succ m ih =>
      intro i M2 hi i0 c2 s2 w2 r2
      have hb2 := all M2 c2
      refine rb_Bo_copyFrom_25 s2 q ?_ ?_ <;> rw [hb2.2.1.1]
      · intro _
        refine rs_riverAt s2 q hb2.2 v (fun a0 a1 => ?_) (fun c => by omega)
        refine rb_Bo_copyFrom_39 s2 p (rs_copyRiver s2 p q e hb2.1 w2 v hb2.2 a0 a1 r2 (fun M3 c3 s3 w3 r3 => rb_Bo_copyFrom_42 (by omega) ?_))
        exact ih (i + 1) M3 (by omega) (by omega) (rn_cb_tr c2 c3) s3 w3 r3
      · intro c; omega
  exact loop1 (N 0).toNat 0 M1 (by omega) (by omega) c1 s1 w1 r1
end LBL
