/-! flow and addTown of the class -/
section GRW
variable {M : rn_M} {Q : rn_Q} {N : Nat → Int} {n : Int} {K : Nat → Nat → Int}
theorem rn_St_fc {M' : rn_M} (c : rn_fc M M') (h : rn_St M) : rn_St M' := fun k k0 k1 => by
  rw [(c.2 1 (by omega)).1, (c.2 2 (by omega)).1]; exact h k k0 k1
theorem rs_enter2 {M0 : rn_M} {pr dr : Nat} {kp : Nat → Nat} {N' : Nat → Int} (hM : rn_sh M) (h : rn_Ct M0 N n K pr dr kp) (c : rn_cj dr M0 M) (w : rn_Bw M dr) (r : rn_Rp M dr N') (v : rn_vd N') (k : ∀ M', rn_fc M M' → rn_sh M' → rn_Cs M' N' (min (n + 1) 5) (rn_nK n K N) → rn_fb M M' → Q none M') : rn_ME 22 [rn_R 12] M Q := by
  have h := rn_Ct_cj h c w
  obtain ⟨h1, h2, h3, h4, h5, h6⟩ := h
  have hB := h1.2.1
  have bd := rn_bdB hB.2.1.1
  refine rs_enterDraft hM h1 h4 h5 (fun M' dr' kp' f1 s1 g1 g2 g3 g4 => k M' (rn_fc_fh f1) s1 ?_ (rn_fh_fb f1))
  have fb := rn_fh_fb f1
  refine ⟨dr, dr', kp', g1, rn_Rp_fb fb hB.2.1.1 v r, v, g2, by omega, fun i hi => ?_⟩
  unfold rn_nK
  by_cases e : i = (min n 4).toNat
  · rw [if_pos e, e, g3]
    exact ⟨rn_Rp_fb fb hB.1.1 h3 h2, h3⟩
  · rw [if_neg e, g4 i (by omega)]
    have := h6 (if n = 5 then i + 1 else i) (by split <;> omega)
    refine ⟨rn_Rp_fb fb (hB.2.2 _ (by split <;> omega)).1 this.2 this.1, this.2⟩
theorem rq_flow (hM : rn_sh M) (st : rn_St M) (h : rn_Cs M N n K) {r d : Int} (k0 : ¬ ((0 ≤ r ∧ r < N 0) ∧ 0 ≤ d ∧ d ≤ 7) → ∀ M', rn_fc M M' → rn_sh M' → rn_Cs M' N n K → Q (some (rn_I (-1))) M')
    (k1 : (0 ≤ r ∧ r < N 0) ∧ 0 ≤ d ∧ d ≤ 7 → ¬ rn_om N r d → ∀ M', rn_fc M M' → rn_sh M' → rn_Cs M' N n K → Q (some (rn_I (-2))) M')
    (k2 : (0 ≤ r ∧ r < N 0) ∧ 0 ≤ d ∧ d ≤ 7 → rn_om N r d → rn_o N r 5 = 60 → ∀ M', rn_fc M M' → rn_sh M' → rn_Cs M' N n K → Q (some (rn_I (-3))) M')
    (k3 : (0 ≤ r ∧ r < N 0) ∧ 0 ≤ d ∧ d ≤ 7 → rn_om N r d → rn_o N r 5 ≠ 60 → ∀ M', rn_fc M M' → rn_sh M' → rn_Cs M' (rn_fl N r d) (min (n + 1) 5) (rn_nK n K N) → Q (some (rn_I (rn_o N r 5 + 1))) M') : rn_ME 96 [rn_R 8, rn_I r, rn_I d] M Q := by
  refine re_RN_flow (rb_RN_flow_0 hM (rs_draft hM h (fun M1 pr dr kp f1 s1 h1 p w rp => ?_)))
  have bd := rn_bdB p
  have v := h1.2.2.1
  have v0 := v.1
  have st1 := rn_St_fc f1 st
  refine rb_RN_flow_7 s1 p (rs_riverAt s1 p rp v (fun r0 r1 => ?_) (fun c => rb_RN_flow_11n (k0 (fun z => c z.1) M1 f1 s1 (rn_Cs_of h1))))
  have pa := rn_isR_i p v r0 r1
  have vr := v.2.2.2.2.1 r r0 r1
  have v5 := vr.2.2.2.1
  refine rb_RN_flow_11s s1 pa (fun c => k0 (fun z => c z.2) M1 f1 s1 (rn_Cs_of h1)) (fun c => ?_)
  refine rs_leavesMap s1 st1 pa (rp.2.2.1 r r0 r1) vr c ?_
  refine rb_RN_flow_33 s1 pa (fun c2 => ?_) (fun c2 => k1 ⟨⟨r0, r1⟩, c⟩ (rn_b1 c2) M1 f1 s1 (rn_Cs_of h1))
  have om : rn_om N r d := Classical.byContradiction (rn_b0 c2)
  refine rs_lengthen s1 st1 p rp v r0 r1 c (fun l1 _ M2 c3 z3 r3 => ?_) (fun c3 => ?_)
  · have s2 := rn_sh_ch c3 s1
    have cb : rn_cb dr M1 M2 := rn_cb_ch c3 (fun a ha => by unfold rn_PR at ha; omega)
    have w2 : rn_Bw M2 dr := by
      refine rn_Bw_eq (fun i hi => ?_) (fun k => c3.2.1 _ k) w
      by_cases e : i = r.toNat
      · rw [e, z3]
      · rw [c3.2.2 _ (by unfold rn_PR; omega)]
    refine rb_RN_flow_44 s2 (fun z => by omega) (fun _ => ?_)
    refine rs_enter2 s2 h1 (rn_cj_cb cb) w2 r3 (rn_fl_vd v r0 r1 l1 c om) (fun M' f2 s3 c5 g => rb_RN_flow_57 s3 pa ?_)
    have hr3 := r3.2.2.1 r r0 (by rw [rn_fl_lo r0 v5.1 (by omega)]; exact r1)
    rw [(g.2 _ (by omega) (by omega)).1, hr3.2.2.2.1, rn_fl_5 v5.1]
    exact k3 ⟨⟨r0, r1⟩, c⟩ om (by omega) M' (rn_fc_tr f1 (rn_fc_tr (rn_fc_cj p (rn_cj_cb cb)) f2)) s3 c5
  · exact rb_RN_flow_44 s1 (fun _ => k2 ⟨⟨r0, r1⟩, c⟩ om (by have : ¬ rn_o N r 5 < 60 := fun z => c3 ⟨z, om⟩; omega) M1 f1 s1 (rn_Cs_of h1)) (fun z => absurd rfl z)
/-- one more town -/
def rn_at5 (N : Nat → Int) (x y w h k : Int) : Nat → Int := rn_up (rn_up (rn_up (rn_up (rn_up (rn_up N (472 + 5 * N 1).toNat x) (472 + 5 * N 1 + 1).toNat y) (472 + 5 * N 1 + 2).toNat w) (472 + 5 * N 1 + 3).toNat h) (472 + 5 * N 1 + 4).toNat k) 1 (N 1 + 1)
theorem rn_at5_ne {x y w h k : Int} {j : Nat} (v : 0 ≤ N 1) (h1 : j ≠ 1) (h2 : (j : Int) < 472 + 5 * N 1 ∨ 472 + 5 * N 1 + 5 ≤ (j : Int)) : rn_at5 N x y w h k j = N j := by
  unfold rn_at5
  rw [rn_up_ne h1, rn_up_ne (by omega), rn_up_ne (by omega), rn_up_ne (by omega), rn_up_ne (by omega), rn_up_ne (by omega)]
theorem rn_at5_1 {x y w h k : Int} : rn_at5 N x y w h k 1 = N 1 + 1 := rn_up_eq
theorem rn_at5_tw {x y w h k : Int} (v : 0 ≤ N 1) : rn_tw (rn_at5 N x y w h k) (N 1) 0 = x ∧ rn_tw (rn_at5 N x y w h k) (N 1) 1 = y ∧ rn_tw (rn_at5 N x y w h k) (N 1) 2 = w ∧ rn_tw (rn_at5 N x y w h k) (N 1) 3 = h ∧ rn_tw (rn_at5 N x y w h k) (N 1) 4 = k := by
  unfold rn_tw rn_at5
  refine ⟨?_, ?_, ?_, ?_, ?_⟩
  · rw [rn_up_ne (by omega), rn_up_ne (by omega), rn_up_ne (by omega), rn_up_ne (by omega), rn_up_ne (by omega), Int.add_zero, rn_up_eq]
  · rw [rn_up_ne (by omega), rn_up_ne (by omega), rn_up_ne (by omega), rn_up_ne (by omega), rn_up_eq]
  · rw [rn_up_ne (by omega), rn_up_ne (by omega), rn_up_ne (by omega), rn_up_eq]
  · rw [rn_up_ne (by omega), rn_up_ne (by omega), rn_up_eq]
  · rw [rn_up_ne (by omega), rn_up_eq]
theorem rn_at5_vd {x y w h k : Int} (v : rn_vd N) (c : N 1 ≤ 9) (hv : (0 ≤ x ∧ x + w ≤ 60) ∧ (0 ≤ y ∧ y + h ≤ 40) ∧ (1 ≤ w ∧ w ≤ 12) ∧ (1 ≤ h ∧ h ≤ 3) ∧ 1 ≤ k ∧ k ≤ 9) : rn_vd (rn_at5 N x y w h k) := by
  obtain ⟨u0, u1, u2, u3, u4, u5, u6⟩ := v
  have ne : ∀ j : Nat, j ≠ 1 → ((j : Int) < 472 + 5 * N 1 ∨ 472 + 5 * N 1 + 5 ≤ (j : Int)) → rn_at5 N x y w h k j = N j := fun j a b => rn_at5_ne u1.1 a b
  have tw := rn_at5_tw (x := x) (y := y) (w := w) (h := h) (k := k) u1.1
  have lb : ∀ l w' : Int, 0 ≤ l → 0 ≤ w' → rn_lb (rn_at5 N x y w h k) l w' = rn_lb N l w' := fun l w' a b => by unfold rn_lb; exact ne _ (by omega) (by omega)
  have eqR : ∀ r' : Int, 0 ≤ r' → r' < 6 → rn_eqR N (rn_at5 N x y w h k) r' := fun r' a0 a1 w' b0 b1 => by unfold rn_o; exact ne _ (by omega) (by omega)
  refine ⟨by rw [ne 0 (by omega) (by omega)]; exact u0, by rw [rn_at5_1]; omega, by rw [ne 2 (by omega) (by omega)]; exact u2, by rw [ne 3 (by omega) (by omega)]; exact u3, fun s s0 s1 => ?_, fun t t0 t1 => ?_, fun l j0 j1 => ?_⟩
  · rw [ne 0 (by omega) (by omega)] at s1; exact rn_vR_cg (eqR s s0 (by omega)) (u4 s s0 s1)
  · rw [rn_at5_1] at t1
    unfold rn_vT
    by_cases e : t = N 1
    · rw [e, tw.1, tw.2.1, tw.2.2.1, tw.2.2.2.1, tw.2.2.2.2]; exact hv
    · have := u5 t t0 (by omega)
      unfold rn_vT rn_tw at *
      rw [ne (472 + 5 * t + 0).toNat (by omega) (by omega), ne (472 + 5 * t + 1).toNat (by omega) (by omega), ne (472 + 5 * t + 2).toNat (by omega) (by omega), ne (472 + 5 * t + 3).toNat (by omega) (by omega), ne (472 + 5 * t + 4).toNat (by omega) (by omega)]
      exact this
  · rw [ne 2 (by omega) (by omega)] at j1
    have := u6 l j0 j1
    have t2 := this.1.2
    unfold rn_vL at *
    rw [lb l 0 j0 (by omega), lb l 1 j0 (by omega), ne 0 (by omega) (by omega), eqR _ this.1.1 (by omega) 0 (by omega) (by omega), eqR _ this.1.1 (by omega) 5 (by omega) (by omega)]
    exact this
/-- a board with one more town, built -/
theorem rn_Rp_at5 {M' : rn_M} {b : Nat} {x y w h k : Int} (p : rn_isB b) (hb : rn_Rp M b N) (v : rn_vd N) (c : N 1 ≤ 9) (f : ∀ z, z ≠ b → z ≠ b + 34 + (N 1).toNat → rn_gi M' z = rn_gi M z) (fr : ∀ z k, rn_gr M' z k = rn_gr M z k) (g : ∀ j, j ≠ 1 → rn_gi M' b j = rn_gi M b j) (g1 : rn_gi M' b 1 = N 1 + 1)
    (gt : rn_gi M' (b + 34 + (N 1).toNat) 0 = x ∧ rn_gi M' (b + 34 + (N 1).toNat) 1 = y ∧ rn_gi M' (b + 34 + (N 1).toNat) 2 = w ∧ rn_gi M' (b + 34 + (N 1).toNat) 3 = h ∧ rn_gi M' (b + 34 + (N 1).toNat) 4 = k) : rn_Rp M' b (rn_at5 N x y w h k) := by
  have v0 := v.1
  have v1 := v.2.1
  have v2 := v.2.2.1
  have ne : ∀ j : Nat, j ≠ 1 → ((j : Int) < 472 + 5 * N 1 ∨ 472 + 5 * N 1 + 5 ≤ (j : Int)) → rn_at5 N x y w h k j = N j := fun j a b => rn_at5_ne v1.1 a b
  have tw := rn_at5_tw (x := x) (y := y) (w := w) (h := h) (k := k) v1.1
  have lb : ∀ l w' : Int, 0 ≤ l → 0 ≤ w' → rn_lb (rn_at5 N x y w h k) l w' = rn_lb N l w' := fun l w' a b => by unfold rn_lb; exact ne _ (by omega) (by omega)
  have eqR : ∀ r' : Int, 0 ≤ r' → r' < 6 → rn_eqR N (rn_at5 N x y w h k) r' := fun r' a0 a1 w' b0 b1 => by unfold rn_o; exact ne _ (by omega) (by omega)
  obtain ⟨⟨q0, q1, q2, q3⟩, p2, p3, p4, p5⟩ := hb
  refine ⟨⟨?_, ?_, ?_, ?_⟩, fun s s0 s1 => ?_, fun s s0 s1 => ?_, fun t t0 t1 => ?_, fun l j0 j1 => ?_⟩
  · rw [g 0 (by omega), ne 0 (by omega) (by omega)]; exact q0
  · rw [g1, rn_at5_1]
  · rw [g 2 (by omega), ne 2 (by omega) (by omega)]; exact q2
  · rw [g 3 (by omega), ne 3 (by omega) (by omega)]; exact q3
  · rw [f _ (by omega) (by omega)]; exact p2 s s0 s1
  · rw [ne 0 (by omega) (by omega)] at s1
    exact rn_Rv_cg (eqR s s0 (by omega)) (v.2.2.2.2.1 s s0 s1) (rn_Rv_eq (f _ (by omega) (by omega)) (f _ (by omega) (by omega)) (f _ (by omega) (by omega)) (f _ (by omega) (by omega)) (f _ (by omega) (by omega)) (p3 s s0 s1))
  · rw [rn_at5_1] at t1
    unfold rn_Tw
    by_cases e : t = N 1
    · rw [e, tw.1, tw.2.1, tw.2.2.1, tw.2.2.2.1, tw.2.2.2.2]; exact gt
    · have := p4 t t0 (by omega)
      unfold rn_Tw rn_tw at *
      rw [f _ (by omega) (by omega), ne (472 + 5 * t + 0).toNat (by omega) (by omega), ne (472 + 5 * t + 1).toNat (by omega) (by omega), ne (472 + 5 * t + 2).toNat (by omega) (by omega), ne (472 + 5 * t + 3).toNat (by omega) (by omega), ne (472 + 5 * t + 4).toNat (by omega) (by omega)]
      exact this
  · rw [ne 2 (by omega) (by omega)] at j1
    obtain ⟨q, z1, z2, z3, z4⟩ := p5 l j0 j1
    have nq : q ≠ b ∧ q ≠ b + 34 + (N 1).toNat := by
      obtain ⟨j, hj, rfl⟩ := p
      obtain ⟨j', i', a1, a2, a3⟩ := z2
      rcases Nat.lt_trichotomy j j' with h | h | h <;> omega
    refine ⟨q, (fr _ _).trans z1, z2, ?_, ?_⟩
    · rw [lb l 0 j0 (by omega), fr]; exact z3
    · rw [f q nq.1 nq.2, lb l 1 j0 (by omega)]; exact z4
end GRW
