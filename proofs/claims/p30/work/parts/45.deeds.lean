/-! the class's actions -/
section DEE
variable {M : rn_M} {Q : rn_Q} {N : Nat → Int} {n : Int} {K : Nat → Nat → Int}
theorem rn_Rp_23 {d : Nat} (p : rn_isB d) (hd : rn_Rp M d N) (v : rn_vd N) {x : Int} {w : Nat} (hw : w = 3 ∧ 0 ≤ x ∧ x ≤ 60 ∨ w = 2 ∧ x = 0) : rn_Rp (rn_si M d w x) d (rn_up N w x) ∧ rn_vd (rn_up N w x) := by
  have v0 := v.1
  have v1 := v.2.1
  have v2 := v.2.2.1
  have f : ∀ y, y ≠ d → rn_gi (rn_si M d w x) y = rn_gi M y := fun y hy => rn_si_gif (by omega)
  have hi : ∀ k : Nat, 4 ≤ k → rn_up N w x k = N k := fun k hk => rn_up_ne (by omega)
  have eqR : ∀ r' : Int, 0 ≤ r' → rn_eqR N (rn_up N w x) r' := fun r' a0 w' b0 b1 => by unfold rn_o; exact hi _ (by omega)
  have e0 : rn_up N w x 0 = N 0 := rn_up_ne (by omega)
  have e1 : rn_up N w x 1 = N 1 := rn_up_ne (by omega)
  have e2 : rn_up N w x 2 = N 2 ∧ w = 3 ∨ rn_up N w x 2 = 0 ∧ w = 2 := by
    rcases hw with ⟨c, _⟩ | ⟨c, d⟩
    · exact Or.inl ⟨rn_up_ne (by omega), c⟩
    · subst c; subst d; exact Or.inr ⟨rn_up_eq, rfl⟩
  have cnt : ∀ k : Nat, rn_gi M d k = N k → rn_gi (rn_si M d w x) d k = rn_up N w x k := fun k hk => by
    by_cases c : k = w
    · subst c; rw [rn_si_eq, rn_up_eq]
    · rw [rn_si_ne (by omega), rn_up_ne c]; exact hk
  obtain ⟨⟨q0, q1, q2, q3⟩, p2, p3, p4, p5⟩ := hd
  refine ⟨⟨⟨cnt 0 q0, cnt 1 q1, cnt 2 q2, cnt 3 q3⟩, fun s s0 s1 => ?_, fun s s0 s1 => ?_, fun t t0 t1 => ?_, fun l l0 l1 => ?_⟩, ?_⟩
  · rw [f _ (by omega)]; exact p2 s s0 s1
  · rw [e0] at s1
    exact rn_Rv_cg (eqR s s0) (v.2.2.2.2.1 s s0 s1) (rn_Rv_eq (f _ (by omega)) (f _ (by omega)) (f _ (by omega)) (f _ (by omega)) (f _ (by omega)) (p3 s s0 s1))
  · rw [e1] at t1
    have := p4 t t0 t1
    unfold rn_Tw rn_tw at *
    rw [f _ (by omega), hi _ (by omega), hi _ (by omega), hi _ (by omega), hi _ (by omega), hi _ (by omega)]
    exact this
  · obtain ⟨q, z1, z2, z3, z4⟩ := p5 l l0 (by omega)
    have nq : q ≠ d := fun e => by
      obtain ⟨j, hj, rfl⟩ := p
      obtain ⟨j', i', a1, a2, a3⟩ := z2
      rcases Nat.lt_trichotomy j j' with h | h | h <;> omega
    refine ⟨q, z1, z2, ?_, ?_⟩
    · unfold rn_lb; rw [hi _ (by omega)]; exact z3
    · unfold rn_lb; rw [f q nq, hi _ (by omega)]; exact z4
  · obtain ⟨u0, u1, u2, u3, u4, u5, u6⟩ := v
    have e3 : 0 ≤ rn_up N w x 3 ∧ rn_up N w x 3 ≤ 60 := by
      rcases hw with ⟨c, d⟩ | ⟨c, d⟩
      · subst c; rw [rn_up_eq]; exact d
      · rw [rn_up_ne (by omega)]; exact u3
    refine ⟨by omega, by omega, by omega, e3, fun s s0 s1 => ?_, fun t t0 t1 => ?_, fun l l0 l1 => ?_⟩
    · exact rn_vR_cg (eqR s s0) (u4 s s0 (by omega))
    · have := u5 t t0 (by omega)
      unfold rn_vT rn_tw at *
      rw [hi _ (by omega), hi _ (by omega), hi _ (by omega), hi _ (by omega), hi _ (by omega)]
      exact this
    · have := u6 l l0 (by omega)
      have t1 := this.1.1
      have t2 := this.1.2
      unfold rn_vL at *
      have b0 : rn_lb (rn_up N w x) l 0 = rn_lb N l 0 := by unfold rn_lb; exact hi _ (by omega)
      have b1 : rn_lb (rn_up N w x) l 1 = rn_lb N l 1 := by unfold rn_lb; exact hi _ (by omega)
      rw [b0, b1, e0, eqR _ t1 0 (by omega) (by omega), eqR _ t1 5 (by omega) (by omega)]
      exact this
theorem rn_Rp_tfld {d : Nat} (p : rn_isB d) (hd : rn_Rp M d N) (v : rn_vd N) {t x : Int} (t0 : 0 ≤ t) (t1 : t < N 1) (hx : 1 ≤ x ∧ x ≤ 9) : rn_Rp (rn_si M (d + 34 + t.toNat) 4 x) d (rn_up N (472 + 5 * t + 4).toNat x) ∧ rn_vd (rn_up N (472 + 5 * t + 4).toNat x) := by
  have v0 := v.1
  have v1 := v.2.1
  have v2 := v.2.2.1
  have f : ∀ y, y ≠ d + 34 + t.toNat → rn_gi (rn_si M (d + 34 + t.toNat) 4 x) y = rn_gi M y := fun y hy => rn_si_gif (by omega)
  have lo : ∀ k : Nat, k < 472 → rn_up N (472 + 5 * t + 4).toNat x k = N k := fun k hk => rn_up_ne (by omega)
  have hi : ∀ k : Nat, 522 ≤ k → rn_up N (472 + 5 * t + 4).toNat x k = N k := fun k hk => rn_up_ne (by omega)
  have eqR : ∀ r' : Int, 0 ≤ r' → r' < 6 → rn_eqR N (rn_up N (472 + 5 * t + 4).toNat x) r' := fun r' a0 a1 w' b0 b1 => by unfold rn_o; exact lo _ (by omega)
  have tw : ∀ s w : Int, 0 ≤ s → 0 ≤ w → w < 5 → ¬ (s = t ∧ w = 4) → rn_tw (rn_up N (472 + 5 * t + 4).toNat x) s w = rn_tw N s w := fun s w a b c e => by unfold rn_tw; exact rn_up_ne (by omega)
  have tw4 : rn_tw (rn_up N (472 + 5 * t + 4).toNat x) t 4 = x := by unfold rn_tw; exact rn_up_eq
  have lb : ∀ l w : Int, 0 ≤ l → 0 ≤ w → rn_lb (rn_up N (472 + 5 * t + 4).toNat x) l w = rn_lb N l w := fun l w a b => by unfold rn_lb; exact hi _ (by omega)
  obtain ⟨⟨q0, q1, q2, q3⟩, p2, p3, p4, p5⟩ := hd
  refine ⟨⟨?_, fun s s0 s1 => ?_, fun s s0 s1 => ?_, fun s s0 s1 => ?_, fun l l0 l1 => ?_⟩, ?_⟩
  · rw [f d (by omega), lo 0 (by omega), lo 1 (by omega), lo 2 (by omega), lo 3 (by omega)]; exact ⟨q0, q1, q2, q3⟩
  · rw [f _ (by omega)]; exact p2 s s0 s1
  · rw [lo 0 (by omega)] at s1
    exact rn_Rv_cg (eqR s s0 (by omega)) (v.2.2.2.2.1 s s0 s1) (rn_Rv_eq (f _ (by omega)) (f _ (by omega)) (f _ (by omega)) (f _ (by omega)) (f _ (by omega)) (p3 s s0 s1))
  · rw [lo 1 (by omega)] at s1
    have := p4 s s0 s1
    unfold rn_Tw at *
    rw [tw s 0 s0 (by omega) (by omega) (by omega), tw s 1 s0 (by omega) (by omega) (by omega), tw s 2 s0 (by omega) (by omega) (by omega), tw s 3 s0 (by omega) (by omega) (by omega)]
    by_cases e : s = t
    · subst e
      rw [tw4, rn_si_ne (by omega), rn_si_ne (by omega), rn_si_ne (by omega), rn_si_ne (by omega), rn_si_eq]
      exact ⟨this.1, this.2.1, this.2.2.1, this.2.2.2.1, rfl⟩
    · rw [tw s 4 s0 (by omega) (by omega) (by omega), f _ (by omega)]; exact this
  · rw [lo 2 (by omega)] at l1
    obtain ⟨q, z1, z2, z3, z4⟩ := p5 l l0 l1
    have nq : q ≠ d + 34 + t.toNat := fun e => by
      obtain ⟨j, hj, rfl⟩ := p
      obtain ⟨j', i', a1, a2, a3⟩ := z2
      rcases Nat.lt_trichotomy j j' with h | h | h <;> omega
    refine ⟨q, z1, z2, ?_, ?_⟩
    · rw [lb l 0 l0 (by omega)]; exact z3
    · rw [f q nq, lb l 1 l0 (by omega)]; exact z4
  · obtain ⟨u0, u1, u2, u3, u4, u5, u6⟩ := v
    refine ⟨by rw [lo 0 (by omega)]; exact u0, by rw [lo 1 (by omega)]; exact u1, by rw [lo 2 (by omega)]; exact u2, by rw [lo 3 (by omega)]; exact u3, fun s s0 s1 => ?_, fun s s0 s1 => ?_, fun l l0 l1 => ?_⟩
    · rw [lo 0 (by omega)] at s1; exact rn_vR_cg (eqR s s0 (by omega)) (u4 s s0 s1)
    · rw [lo 1 (by omega)] at s1
      have := u5 s s0 s1
      unfold rn_vT at *
      rw [tw s 0 s0 (by omega) (by omega) (by omega), tw s 1 s0 (by omega) (by omega) (by omega), tw s 2 s0 (by omega) (by omega) (by omega), tw s 3 s0 (by omega) (by omega) (by omega)]
      by_cases e : s = t
      · subst e; rw [tw4]; exact ⟨this.1, this.2.1, this.2.2.1, this.2.2.2.1, hx⟩
      · rw [tw s 4 s0 (by omega) (by omega) (by omega)]; exact this
    · rw [lo 2 (by omega)] at l1
      have := u6 l l0 l1
      have t2 := this.1.2
      unfold rn_vL at *
      rw [lb l 0 l0 (by omega), lb l 1 l0 (by omega), lo 0 (by omega), eqR _ this.1.1 (by omega) 0 (by omega) (by omega), eqR _ this.1.1 (by omega) 5 (by omega) (by omega)]
      exact this
/-- a write of a number into a board keeps what stands apart from the row -/
theorem rn_Bw_si {d a k : Nat} {x : Int} (h : ∀ i, i < 6 → ¬ (a = d + 4 + 5 * i ∧ k = 0)) (w : rn_Bw M d) : rn_Bw (rn_si M a k x) d :=
  rn_Bw_eq (fun i hi => rn_si_ne (fun z => h i hi ⟨z.1.symm, z.2.symm⟩)) (fun _ => rfl) w
theorem rn_sh_si {a k : Nat} {x : Int} (hM : rn_sh M) : rn_sh (rn_si M a k x) := rn_sh_rf (M := M) rfl (fun _ _ _ _ _ _ => rfl) hM
theorem rq_setGap (hM : rn_sh M) (h : rn_Cs M N n K) {x : Int} (k1 : 0 ≤ x ∧ x ≤ 60 → ∀ M', rn_fc M M' → rn_sh M' → rn_Cs M' (rn_up N 3 x) (min (n + 1) 5) (rn_nK n K N) → Q (some (rn_I (N 3))) M') (k2 : ¬ (0 ≤ x ∧ x ≤ 60) → Q (some (rn_I (-1))) M) : rn_ME 100 [rn_R 8, rn_I x] M Q := by
  refine re_RN_setGap (rb_RN_setGap_0 hM k2 (fun c => rs_draft hM h (fun M1 pr dr kp f1 s1 h1 p w r => ?_)))
  have bd := rn_bdB p
  refine rb_RN_setGap_19 s1 p ?_
  rw [r.1.2.2.2]
  have rv := rn_Rp_23 p r h1.2.2.1 (w := 3) (x := x) (Or.inl ⟨rfl, c⟩)
  have cb : rn_cb dr M1 (rn_si M1 dr 3 x) := rn_cb_si (by omega)
  refine rs_enter (rn_sh_si s1) h1 (rn_cj_cb cb) (rn_Bw_si (by omega) w) rv.1 rv.2 (fun M' f2 s2 c2 _ => rb_RN_setGap_37 (k1 c M' (rn_fc_tr f1 (rn_fc_tr (rn_fc_cj p (rn_cj_cb cb)) f2)) s2 c2))
theorem rq_setRank (hM : rn_sh M) (h : rn_Cs M N n K) {r x : Int} (k1 : (0 ≤ r ∧ r < N 0) ∧ 1 ≤ x ∧ x ≤ 9 → ∀ M', rn_fc M M' → rn_sh M' → rn_Cs M' (rn_up N (4 + 78 * r + 1).toNat x) (min (n + 1) 5) (rn_nK n K N) → Q (some (rn_I (rn_o N r 1))) M') (k2 : ¬ ((0 ≤ r ∧ r < N 0) ∧ 1 ≤ x ∧ x ≤ 9) → ∀ M', rn_fc M M' → rn_sh M' → rn_Cs M' N n K → Q (some (rn_I (-1))) M') : rn_ME 97 [rn_R 8, rn_I r, rn_I x] M Q := by
  refine re_RN_setRank (rb_RN_setRank_0 hM (rs_draft hM h (fun M1 pr dr kp f1 s1 h1 p w rp => ?_)))
  have bd := rn_bdB p
  have v0 := h1.2.2.1.1
  refine rb_RN_setRank_7 s1 p (rs_riverAt s1 p rp h1.2.2.1 (fun r0 r1 => ?_) (fun c => rb_RN_setRank_11n (k2 (fun z => c z.1) M1 f1 s1 (rn_Cs_of h1))))
  refine rb_RN_setRank_11s s1 (rn_isR_i p h1.2.2.1 r0 r1) (fun c => k2 (fun z => c z.2) M1 f1 s1 (rn_Cs_of h1)) (fun c => ?_)
  have rv := rn_Rp_fld p rp h1.2.2.1 (w := 1) (x := x) r0 r1 (Or.inl rfl) (by omega)
  have cb : rn_cb dr M1 (rn_si M1 (dr + 4 + 5 * r.toNat) 1 x) := rn_cb_si (by omega)
  rw [(rp.2.2.1 r r0 r1).1]
  exact rs_enter (rn_sh_si s1) h1 (rn_cj_cb cb) (rn_Bw_si (by omega) w) rv.1 rv.2 (fun M' f2 s2 c2 _ => rb_RN_setRank_43 (k1 ⟨⟨r0, r1⟩, c⟩ M' (rn_fc_tr f1 (rn_fc_tr (rn_fc_cj p (rn_cj_cb cb)) f2)) s2 c2))
theorem rq_setHalo (hM : rn_sh M) (h : rn_Cs M N n K) {r x : Int} (k1 : (0 ≤ r ∧ r < N 0) ∧ 0 ≤ x ∧ x ≤ 2 → ∀ M', rn_fc M M' → rn_sh M' → rn_Cs M' (rn_up N (4 + 78 * r + 2).toNat x) (min (n + 1) 5) (rn_nK n K N) → Q (some (rn_I (rn_o N r 2))) M') (k2 : ¬ ((0 ≤ r ∧ r < N 0) ∧ 0 ≤ x ∧ x ≤ 2) → ∀ M', rn_fc M M' → rn_sh M' → rn_Cs M' N n K → Q (some (rn_I (-1))) M') : rn_ME 98 [rn_R 8, rn_I r, rn_I x] M Q := by
  refine re_RN_setHalo (rb_RN_setHalo_0 hM (rs_draft hM h (fun M1 pr dr kp f1 s1 h1 p w rp => ?_)))
  have bd := rn_bdB p
  have v0 := h1.2.2.1.1
  refine rb_RN_setHalo_7 s1 p (rs_riverAt s1 p rp h1.2.2.1 (fun r0 r1 => ?_) (fun c => rb_RN_setHalo_11n (k2 (fun z => c z.1) M1 f1 s1 (rn_Cs_of h1))))
  refine rb_RN_setHalo_11s s1 (rn_isR_i p h1.2.2.1 r0 r1) (fun c => k2 (fun z => c z.2) M1 f1 s1 (rn_Cs_of h1)) (fun c => ?_)
  have rv := rn_Rp_fld p rp h1.2.2.1 (w := 2) (x := x) r0 r1 (Or.inr rfl) (by omega)
  have cb : rn_cb dr M1 (rn_si M1 (dr + 4 + 5 * r.toNat) 2 x) := rn_cb_si (by omega)
  rw [(rp.2.2.1 r r0 r1).2.1]
  exact rs_enter (rn_sh_si s1) h1 (rn_cj_cb cb) (rn_Bw_si (by omega) w) rv.1 rv.2 (fun M' f2 s2 c2 _ => rb_RN_setHalo_43 (k1 ⟨⟨r0, r1⟩, c⟩ M' (rn_fc_tr f1 (rn_fc_tr (rn_fc_cj p (rn_cj_cb cb)) f2)) s2 c2))
theorem rq_setTownRank (hM : rn_sh M) (h : rn_Cs M N n K) {t x : Int} (k1 : (0 ≤ t ∧ t < N 1) ∧ 1 ≤ x ∧ x ≤ 9 → ∀ M', rn_fc M M' → rn_sh M' → rn_Cs M' (rn_up N (472 + 5 * t + 4).toNat x) (min (n + 1) 5) (rn_nK n K N) → Q (some (rn_I (rn_tw N t 4))) M') (k2 : ¬ ((0 ≤ t ∧ t < N 1) ∧ 1 ≤ x ∧ x ≤ 9) → ∀ M', rn_fc M M' → rn_sh M' → rn_Cs M' N n K → Q (some (rn_I (-1))) M') : rn_ME 99 [rn_R 8, rn_I t, rn_I x] M Q := by
  refine re_RN_setTownRank (rb_RN_setTownRank_0 hM (rs_draft hM h (fun M1 pr dr kp f1 s1 h1 p w rp => ?_)))
  have bd := rn_bdB p
  have v1 := h1.2.2.1.2.1
  refine rb_RN_setTownRank_7 s1 p (rs_townAt s1 p rp h1.2.2.1 (fun t0 t1 => ?_) (fun c => rb_RN_setTownRank_11n (k2 (fun z => c z.1) M1 f1 s1 (rn_Cs_of h1))))
  refine rb_RN_setTownRank_11s s1 (rn_isT_of p (by omega)) (fun c => k2 (fun z => c z.2) M1 f1 s1 (rn_Cs_of h1)) (fun c => ?_)
  have rv := rn_Rp_tfld p rp h1.2.2.1 (x := x) t0 t1 c
  have cb : rn_cb dr M1 (rn_si M1 (dr + 34 + t.toNat) 4 x) := rn_cb_si (by omega)
  rw [(rp.2.2.2.1 t t0 t1).2.2.2.2]
  exact rs_enter (rn_sh_si s1) h1 (rn_cj_cb cb) (rn_Bw_si (by omega) w) rv.1 rv.2 (fun M' f2 s2 c2 _ => rb_RN_setTownRank_43 (k1 ⟨⟨t0, t1⟩, c⟩ M' (rn_fc_tr f1 (rn_fc_tr (rn_fc_cj p (rn_cj_cb cb)) f2)) s2 c2))
theorem rq_set (hM : rn_sh M) (h : rn_Cs M N n K) {r s : Int} (k0 : ¬ ((0 ≤ r ∧ r < N 0) ∧ 0 ≤ s ∧ s ≤ 60) → ∀ M', rn_fc M M' → rn_sh M' → rn_Cs M' N n K → Q (some (rn_I (-1))) M')
    (k1 : (0 ≤ r ∧ r < N 0) ∧ 0 ≤ s ∧ s ≤ 60 → rn_why N r s (rn_o N r 1) (-9) ≠ 0 → ∀ M', rn_fc M M' → rn_sh M' → rn_Cs M' N n K → Q (some (rn_I (-2))) M')
    (k2 : (0 ≤ r ∧ r < N 0) ∧ 0 ≤ s ∧ s ≤ 60 → rn_why N r s (rn_o N r 1) (-9) = 0 → N 2 = 20 → ∀ M', rn_fc M M' → rn_sh M' → rn_Cs M' N n K → Q (some (rn_I (-3))) M')
    (k3 : (0 ≤ r ∧ r < N 0) ∧ 0 ≤ s ∧ s ≤ 60 → rn_why N r s (rn_o N r 1) (-9) = 0 → N 2 ≠ 20 → ∀ M', rn_fc M M' → rn_sh M' → rn_Cs M' (rn_nl N r s) (min (n + 1) 5) (rn_nK n K N) → Q (some (rn_I (N 2))) M') : rn_ME 101 [rn_R 8, rn_I r, rn_I s] M Q := by
  refine re_RN_set (rb_RN_set_0 hM (rs_draft hM h (fun M1 pr dr kp f1 s1 h1 p w rp => ?_)))
  have bd := rn_bdB p
  have v := h1.2.2.1
  have v2 := v.2.2.1
  refine rb_RN_set_7 s1 p (rs_riverAt s1 p rp v (fun r0 r1 => ?_) (fun c => rb_RN_set_13n (k0 (fun z => c z.1) M1 f1 s1 (rn_Cs_of h1))))
  refine rb_RN_set_13s s1 (fun c => k0 (fun z => c z.2) M1 f1 s1 (rn_Cs_of h1)) (fun c => ?_)
  refine rs_reasonAgainst s1 p rp v r0 r1 c (fun q => by omega) ?_
  rw [rn_why_neg (by omega)]
  refine rb_RN_set_41 s1 p (fun c2 => ?_) (fun c2 => k1 ⟨⟨r0, r1⟩, c⟩ c2 M1 f1 s1 (rn_Cs_of h1))
  have fits := (rn_why0.mp c2).1
  refine rs_addLabel s1 p w v rp r0 r1 (fun c3 M2 c4 s2 w2 r2 _ => ?_) (fun c3 => ?_)
  · refine rb_RN_set_54 s2 (fun z => by omega) (fun _ => ?_)
    refine rs_enter s2 h1 (rn_cj_cb c4) w2 r2 (rn_nl_vd v c3 r0 r1 c fits) (fun M' f2 s3 c5 g => ?_)
    have e : rn_gi M' dr 2 = N 2 + 1 := by rw [g, r2.1.2.2.1, rn_nl_2]
    refine rb_RN_set_67 s3 p (by omega) ?_
    rw [e, show N 2 + 1 - 1 = N 2 by omega]
    exact k3 ⟨⟨r0, r1⟩, c⟩ c2 (by omega) M' (rn_fc_tr f1 (rn_fc_tr (rn_fc_cj p (rn_cj_cb c4)) f2)) s3 c5
  · exact rb_RN_set_54 s1 (fun _ => k2 ⟨⟨r0, r1⟩, c⟩ c2 (by omega) M1 f1 s1 (rn_Cs_of h1)) (fun z => absurd rfl z)
theorem rq_remove (hM : rn_sh M) (h : rn_Cs M N n K) {l : Int} (k1 : 0 ≤ l ∧ l < N 2 → ∀ M', rn_fc M M' → rn_sh M' → rn_Cs M' (rn_dl N l) (min (n + 1) 5) (rn_nK n K N) → Q (some (rn_I (N 2 - 1))) M') (k2 : ¬ (0 ≤ l ∧ l < N 2) → ∀ M', rn_fc M M' → rn_sh M' → rn_Cs M' N n K → Q (some (rn_I (-1))) M') : rn_ME 102 [rn_R 8, rn_I l] M Q := by
  refine re_RN_remove (rb_RN_remove_0 hM (rs_draft hM h (fun M1 pr dr kp f1 s1 h1 p w rp => ?_)))
  have v := h1.2.2.1
  refine rb_RN_remove_7 s1 p (rs_dropLabel s1 p w v rp (fun l0 l1 M2 c2 s2 w2 r2 => ?_) (fun c => rb_RN_remove_13 s1 (fun _ => k2 c M1 f1 s1 (rn_Cs_of h1)) (fun z => absurd rfl z)))
  refine rb_RN_remove_13 s2 (fun z => by omega) (fun _ => ?_)
  refine rs_enter s2 h1 (rn_cj_cb c2) w2 r2 (rn_dl_vd v l0 l1) (fun M' f2 s3 c5 g => rb_RN_remove_25 s3 p ?_)
  rw [g, r2.1.2.2.1, rn_dl_2]
  exact k1 ⟨l0, l1⟩ M' (rn_fc_tr f1 (rn_fc_tr (rn_fc_cj p (rn_cj_cb c2)) f2)) s3 c5
theorem rq_place (hM : rn_sh M) (h : rn_Cs M N n K) {x : Int} (k1 : 1 ≤ x ∧ x ≤ 5 → ∀ M', rn_fc M M' → rn_sh M' → rn_Cs M' (rn_laa x.toNat 9 (rn_up N 2 0)) (min (n + 1) 5) (rn_nK n K N) → Q (some (rn_I (rn_laa x.toNat 9 (rn_up N 2 0) 2))) M') (k2 : ¬ (1 ≤ x ∧ x ≤ 5) → Q (some (rn_I (-1))) M) : rn_ME 103 [rn_R 8, rn_I x] M Q := by
  refine re_RN_place (rb_RN_place_0 hM k2 (fun c => rs_draft hM h (fun M1 pr dr kp f1 s1 h1 p w r => ?_)))
  have bd := rn_bdB p
  have rv := rn_Rp_23 p r h1.2.2.1 (w := 2) (x := 0) (Or.inr ⟨rfl, rfl⟩)
  have cb : rn_cb dr M1 (rn_si M1 dr 2 0) := rn_cb_si (by omega)
  refine rb_RN_place_18 s1 p (rs_letterAll (rn_sh_si s1) p (rn_Bw_si (by omega) w) rv.1 rv.2 (by omega) (fun M2 c2 s2 w2 r2 => rb_RN_place_33 s2 ?_))
  refine rs_enter s2 h1 (rn_cj_tr (rn_cj_cb cb) c2) w2 r2 (rn_laa_ok rv.2 9).1 (fun M' f2 s3 c5 g => rb_RN_place_40 s3 p ?_)
  rw [g, r2.1.2.2.1]
  exact k1 c M' (rn_fc_tr f1 (rn_fc_tr (rn_fc_cj p (rn_cj_tr (rn_cj_cb cb) c2)) f2)) s3 c5
theorem rq_tidy (hM : rn_sh M) (h : rn_Cs M N n K) (k1 : ∀ M', rn_fc M M' → rn_sh M' → rn_Cs M' (rn_tdf (N 2).toNat N 0) (min (n + 1) 5) (rn_nK n K N) → Q (some (rn_I (N 2 - rn_tdf (N 2).toNat N 0 2))) M') : rn_ME 104 [rn_R 8] M Q := by
  refine re_RN_tidy (rb_RN_tidy_0 hM (rs_draft hM h (fun M1 pr dr kp f1 s1 h1 p w r => rb_RN_tidy_11 s1 ?_)))
  refine rs_dropMisfits s1 p w r h1.2.2.1 (fun M2 c2 s2 w2 r2 v2 => rb_RN_tidy_14 s2 ?_)
  exact rs_enter s2 h1 (rn_cj_cb c2) w2 r2 v2 (fun M' f2 s3 c5 g => rb_RN_tidy_22 (k1 M' (rn_fc_tr f1 (rn_fc_tr (rn_fc_cj p (rn_cj_cb c2)) f2)) s3 c5))
theorem rq_undo (hM : rn_sh M) (h : rn_Cs M N n K) (k1 : 1 ≤ n → ∀ M', rn_fc M M' → rn_sh M' → rn_Cs M' (K (n - 1).toNat) (n - 1) K → Q (some (rn_I (n - 1))) M') (k2 : n = 0 → Q (some (rn_I (-2))) M) : rn_ME 105 [rn_R 8] M Q := by
  obtain ⟨pr, dr, kp, g1, g2, g3, g4, g5, g6⟩ := h
  refine re_RN_undo (rb_RN_undo_0 hM (rs_stepBack hM g1 g4 g5 (fun c M' kp' f s h' e q => rb_RN_undo_7 (k1 c M' (rn_fc_fh f) s ?_)) (fun c => rb_RN_undo_7 (k2 c))))
  have fb := rn_fh_fb f
  have hB := g1.2.1
  have last := g6 (n - 1).toNat (by omega)
  refine ⟨kp (n - 1).toNat, dr, kp', h', rn_Rp_fb fb (hB.2.2 _ (by omega)).1 last.2 last.1, last.2, e, by omega, fun i hi => ?_⟩
  rw [q i hi]
  exact ⟨rn_Rp_fb fb (hB.2.2 i (by omega)).1 (g6 i (by omega)).2 (g6 i (by omega)).1, (g6 i (by omega)).2⟩
end DEE
