/-! the class's state against rows; an action enters its draft -/
/-- the class shows the row N, and n earlier ones K -/
def rn_Cs (M : rn_M) (N : Nat → Int) (n : Int) (K : Nat → Nat → Int) : Prop := ∃ pr dr kp, rn_Hs M pr dr kp ∧ rn_Rp M pr N ∧ rn_vd N ∧ rn_gi M 12 0 = n ∧ (0 ≤ n ∧ n ≤ 5) ∧ ∀ i : Nat, (i : Int) < n → rn_Rp M (kp i) (K i) ∧ rn_vd (K i)
/-- only the class's boards, history, judge and sheet differ -/
def rn_fc (M M' : rn_M) : Prop := M'.1 = M.1 ∧ ∀ x, x ≤ 11 ∨ 466 ≤ x → rn_gi M' x = rn_gi M x ∧ ∀ k, rn_gr M' x k = rn_gr M x k
theorem rn_fc_rf {M : rn_M} : rn_fc M M := ⟨rfl, fun _ _ => ⟨rfl, fun _ => rfl⟩⟩
theorem rn_fc_tr {M M1 M2 : rn_M} (h1 : rn_fc M M1) (h2 : rn_fc M1 M2) : rn_fc M M2 :=
  ⟨h2.1.trans h1.1, fun a h => ⟨(h2.2 a h).1.trans (h1.2 a h).1, fun k => ((h2.2 a h).2 k).trans ((h1.2 a h).2 k)⟩⟩
theorem rn_fc_fh {M M1 : rn_M} (h : rn_fh M M1) : rn_fc M M1 := ⟨h.1, fun x hx => ⟨h.2.1 x (by omega), fun k => h.2.2 x k (by omega) (by omega)⟩⟩
theorem rn_fc_cj {M M1 : rn_M} {b : Nat} (p : rn_isB b) (h : rn_cj b M M1) : rn_fc M M1 := by
  have := rn_bdB p
  exact ⟨h.1, fun x hx => h.2 x (by omega) (by omega)⟩
theorem rn_fc_ch {M M1 : rn_M} {P : Nat → Prop} (hP : ∀ a, P a → 12 ≤ a ∧ a < 466) (h : rn_ch P M M1) : rn_fc M M1 :=
  ⟨h.1, fun x hx => ⟨h.2.2 x (fun z => by have := hP x z; omega), fun k => h.2.1 x k⟩⟩
/-- the earlier rows, when N is kept, too -/
def rn_nK (n : Int) (K : Nat → Nat → Int) (N : Nat → Int) : Nat → Nat → Int := fun i => if i = (min n 4).toNat then N else K (if n = 5 then i + 1 else i)
theorem rn_Rp_cj {b d : Nat} {M M' : rn_M} {N : Nat → Int} (h : rn_isB b) (g : rn_isB d) (e : b ≠ d) (c : rn_cj d M M') (hw : rn_Bw M b) (v : rn_vd N) (hp : rn_Rp M b N) : rn_Rp M' b N ∧ rn_Bw M' b := by
  have := rn_isB_ne h g e
  have hb := rn_bdB h
  have v0 := v.1
  have v1 := v.2.1
  have v2 := v.2.2.1
  have f : ∀ a, b ≤ a → a < b + 64 → rn_gi M' a = rn_gi M a ∧ ∀ k, rn_gr M' a k = rn_gr M a k := fun a h1 h2 => c.2 a (by omega) (by omega)
  refine ⟨?_, rn_Bw_eq (fun i hi => by rw [(f _ (by omega) (by omega)).1]) (fun k => (f _ (by omega) (by omega)).2 k) hw⟩
  obtain ⟨p1, p2, p3, p4, p5⟩ := hp
  refine ⟨?_, fun r r0 r1 => ?_, fun r r0 r1 => ?_, fun t t0 t1 => ?_, fun l l0 l1 => ?_⟩
  · rw [(f b (by omega) (by omega)).1]; exact p1
  · rw [(f _ (by omega) (by omega)).1]; exact p2 r r0 r1
  · exact rn_Rv_eq (f _ (by omega) (by omega)).1 (f _ (by omega) (by omega)).1 (f _ (by omega) (by omega)).1 (f _ (by omega) (by omega)).1 (f _ (by omega) (by omega)).1 (p3 r r0 r1)
  · have := p4 t t0 t1
    unfold rn_Tw at *
    rw [(f _ (by omega) (by omega)).1]; exact this
  · obtain ⟨q, q1, q2, q3, q4⟩ := p5 l l0 l1
    have := rn_Bw_q hw (by omega) q1
    refine ⟨q, by rw [(f _ (by omega) (by omega)).2]; exact q1, q2, by rw [(f _ (by omega) (by omega)).2]; exact q3, by rw [(f _ (by omega) (by omega)).1]; exact q4⟩
section ACT
variable {M : rn_M} {Q : rn_Q} {N : Nat → Int} {n : Int} {K : Nat → Nat → Int}
theorem rn_Bw_cj {b d : Nat} {M M' : rn_M} (h : rn_isB b) (g : rn_isB d) (e : b ≠ d) (c : rn_cj d M M') (hw : rn_Bw M b) : rn_Bw M' b := by
  have := rn_isB_ne h g e
  have hb := rn_bdB h
  exact rn_Bw_eq (fun i hi => by rw [(c.2 _ (by omega) (by omega)).1]) (fun k => (c.2 _ (by omega) (by omega)).2 k) hw
theorem rn_Hs_cj {M' : rn_M} {pr dr : Nat} {kp : Nat → Nat} (h : rn_Hs M pr dr kp) (c : rn_cj dr M M') (w : rn_Bw M' dr) : rn_Hs M' pr dr kp := by
  obtain ⟨⟨h1, h2, h3⟩, ⟨b1, b2, b3⟩, d1, d2, d3⟩ := h
  have := rn_bdB b2.1
  refine ⟨⟨?_, ?_, fun i hi => ?_⟩, ⟨⟨b1.1, rn_Bw_cj b1.1 b2.1 d1 c b1.2⟩, ⟨b2.1, w⟩, fun i hi => ⟨(b3 i hi).1, rn_Bw_cj (b3 i hi).1 b2.1 (d2 i hi).2 c (b3 i hi).2⟩⟩, d1, d2, d3⟩
  · rw [(c.2 12 (by omega) (by omega)).2]; exact h1
  · rw [(c.2 12 (by omega) (by omega)).2]; exact h2
  · rw [(c.2 13 (by omega) (by omega)).2]; exact h3 i hi
/-- the class's state, its objects named -/
def rn_Ct (M : rn_M) (N : Nat → Int) (n : Int) (K : Nat → Nat → Int) (pr dr : Nat) (kp : Nat → Nat) : Prop := rn_Hs M pr dr kp ∧ rn_Rp M pr N ∧ rn_vd N ∧ rn_gi M 12 0 = n ∧ (0 ≤ n ∧ n ≤ 5) ∧ ∀ i : Nat, (i : Int) < n → rn_Rp M (kp i) (K i) ∧ rn_vd (K i)
theorem rn_Ct_cj {M' : rn_M} {pr dr : Nat} {kp : Nat → Nat} (h : rn_Ct M N n K pr dr kp) (c : rn_cj dr M M') (w : rn_Bw M' dr) : rn_Ct M' N n K pr dr kp := by
  obtain ⟨h1, h2, h3, h4, h5, h6⟩ := h
  have hB := h1.2.1
  have bd := rn_bdB hB.2.1.1
  refine ⟨rn_Hs_cj h1 c w, (rn_Rp_cj hB.1.1 hB.2.1.1 h1.2.2.1 c hB.1.2 h3 h2).1, h3, ?_, h5, fun i hi => ⟨?_, (h6 i hi).2⟩⟩
  · rw [(c.2 12 (by omega) (by omega)).1]; exact h4
  · exact (rn_Rp_cj (hB.2.2 i (by omega)).1 hB.2.1.1 (h1.2.2.2.1 i (by omega)).2 c (hB.2.2 i (by omega)).2 (h6 i hi).2 (h6 i hi).1).1
/-- an action's draft -/
theorem rs_draft (hM : rn_sh M) (h : rn_Cs M N n K) (k : ∀ M' pr dr kp, rn_fc M M' → rn_sh M' → rn_Ct M' N n K pr dr kp → rn_isB dr → rn_Bw M' dr → rn_Rp M' dr N → Q (some (rn_R dr)) M') : rn_ME 21 [rn_R 12] M Q := by
  obtain ⟨pr, dr, kp, hc⟩ := h
  refine rs_newDraft hM hc.1 hc.2.2.1 hc.2.1 (fun M' c1 s1 h1 r1 => ?_)
  have hB := hc.1.2.1
  exact k M' pr dr kp (rn_fc_cj hB.2.1.1 (rn_cj_cb c1)) s1 (rn_Ct_cj hc (rn_cj_cb c1) h1.2.1.2.1.2) hB.2.1.1 h1.2.1.2.1.2 r1
/-- the draft, changed, is entered -/
theorem rs_enter {M0 : rn_M} {pr dr : Nat} {kp : Nat → Nat} {N' : Nat → Int} (hM : rn_sh M) (h : rn_Ct M0 N n K pr dr kp) (c : rn_cj dr M0 M) (w : rn_Bw M dr) (r : rn_Rp M dr N') (v : rn_vd N') (k : ∀ M', rn_fc M M' → rn_sh M' → rn_Cs M' N' (min (n + 1) 5) (rn_nK n K N) → rn_gi M' dr = rn_gi M dr → Q none M') : rn_ME 22 [rn_R 12] M Q := by
  have h := rn_Ct_cj h c w
  obtain ⟨h1, h2, h3, h4, h5, h6⟩ := h
  have hB := h1.2.1
  have bd := rn_bdB hB.2.1.1
  refine rs_enterDraft hM h1 h4 h5 (fun M' dr' kp' f1 s1 g1 g2 g3 g4 => k M' (rn_fc_fh f1) s1 ?_ (f1.2.1 dr (by omega)))
  have fb := rn_fh_fb f1
  refine ⟨dr, dr', kp', g1, rn_Rp_fb fb hB.2.1.1 v r, v, g2, by omega, fun i hi => ?_⟩
  unfold rn_nK
  by_cases e : i = (min n 4).toNat
  · rw [if_pos e, e, g3]
    exact ⟨rn_Rp_fb fb hB.1.1 h3 h2, h3⟩
  · rw [if_neg e, g4 i (by omega)]
    have := h6 (if n = 5 then i + 1 else i) (by split <;> omega)
    refine ⟨rn_Rp_fb fb (hB.2.2 _ (by split <;> omega)).1 this.2 this.1, this.2⟩
theorem rn_Cs_of {pr dr : Nat} {kp : Nat → Nat} (h : rn_Ct M N n K pr dr kp) : rn_Cs M N n K := ⟨pr, dr, kp, h⟩
/-- a field of a river on a board -/
theorem rn_Rp_fld {d : Nat} (p : rn_isB d) (hd : rn_Rp M d N) (v : rn_vd N) {r x : Int} {w : Nat} (r0 : 0 ≤ r) (r1 : r < N 0) (hw : w = 1 ∨ w = 2) (hx : 0 ≤ x ∧ x ≤ 9 ∧ (w = 1 → 1 ≤ x) ∧ (w = 2 → x ≤ 2)) : rn_Rp (rn_si M (d + 4 + 5 * r.toNat) w x) d (rn_up N (4 + 78 * r + w).toNat x) ∧ rn_vd (rn_up N (4 + 78 * r + w).toNat x) := by
  have v0 := v.1
  have v1 := v.2.1
  have v2 := v.2.2.1
  have lo : ∀ k : Nat, k < 4 → rn_up N (4 + 78 * r + w).toNat x k = N k := fun k hk => rn_up_ne (by omega)
  have hi : ∀ k : Nat, 472 ≤ k → rn_up N (4 + 78 * r + w).toNat x k = N k := fun k hk => rn_up_ne (by omega)
  have o : ∀ (r' w' : Int), 0 ≤ r' → 0 ≤ w' → w' < 78 → ¬ (r' = r ∧ w' = w) → rn_o (rn_up N (4 + 78 * r + w).toNat x) r' w' = rn_o N r' w' := fun r' w' a0 a1 a2 a3 => by
    unfold rn_o
    rw [rn_up_ne (by omega)]
  have o1 : rn_o (rn_up N (4 + 78 * r + w).toNat x) r w = x := by unfold rn_o; rw [rn_up_eq]
  have px : ∀ k : Nat, k ≤ 60 → rn_px (rn_up N (4 + 78 * r + w).toNat x) r k = rn_px N r k ∧ rn_py (rn_up N (4 + 78 * r + w).toNat x) r k = rn_py N r k := by
    intro k
    induction k with
    | zero => intro _; exact ⟨o r 3 r0 (by omega) (by omega) (by omega), o r 4 r0 (by omega) (by omega) (by omega)⟩
    | succ k ih =>
      intro hk
      have ih := ih (by omega)
      unfold rn_px rn_py
      rw [ih.1, ih.2, o r (18 + k) r0 (by omega) (by omega) (by omega)]
      exact ⟨rfl, rfl⟩
  have eqR : ∀ r' : Int, 0 ≤ r' → r' ≠ r → rn_eqR N (rn_up N (4 + 78 * r + w).toNat x) r' := fun r' a0 a1 w' b0 b1 => o r' w' a0 b0 b1 (by omega)
  obtain ⟨⟨q0, q1, q2, q3⟩, p2, p3, p4, p5⟩ := hd
  have vr := v.2.2.2.2.1 r r0 r1
  have vr5 := vr.2.2.2.1
  have vr0 := vr.1
  have f : ∀ y, y ≠ d + 4 + 5 * r.toNat → rn_gi (rn_si M (d + 4 + 5 * r.toNat) w x) y = rn_gi M y := fun y hy => rn_si_gif (by omega)
  refine ⟨⟨?_, fun s s0 s1 => ?_, fun s s0 s1 => ?_, fun t t0 t1 => ?_, fun l l0 l1 => ?_⟩, ?_⟩
  · rw [f d (by omega), lo 0 (by omega), lo 1 (by omega), lo 2 (by omega), lo 3 (by omega)]; exact ⟨q0, q1, q2, q3⟩
  · by_cases e : s = r
    · rw [e, rn_si_ne (by omega), ← e]; exact p2 s s0 s1
    · rw [f _ (by omega)]; exact p2 s s0 s1
  · rw [lo 0 (by omega)] at s1
    have h3 := p3 s s0 s1
    by_cases e : s = r
    · subst e
      obtain ⟨h1, h2, h3, h4, h5, h6, h7⟩ := h3
      refine ⟨?_, ?_, ?_, ?_, fun y y0 y1 => ?_, fun y y0 y1 => ?_, fun y y0 y1 => ?_⟩
      · by_cases c : w = 1
        · subst c; rw [rn_si_eq]; exact o1.symm
        · rw [rn_si_ne (by omega), o s 1 s0 (by omega) (by omega) (by omega)]; exact h1
      · by_cases c : w = 2
        · subst c; rw [rn_si_eq]; exact o1.symm
        · rw [rn_si_ne (by omega), o s 2 s0 (by omega) (by omega) (by omega)]; exact h2
      · rw [rn_si_ne (by omega), o s 0 s0 (by omega) (by omega) (by omega)]; exact h3
      · rw [rn_si_ne (by omega), o s 5 s0 (by omega) (by omega) (by omega)]; exact h4
      · rw [o s 0 s0 (by omega) (by omega) (by omega)] at y1
        rw [f _ (by omega), o s (6 + y) s0 (by omega) (by omega) (by omega)]; exact h5 y y0 y1
      · rw [o s 5 s0 (by omega) (by omega) (by omega)] at y1
        rw [f _ (by omega), o s (18 + y) s0 (by omega) (by omega) (by omega)]; exact h6 y y0 y1
      · rw [o s 5 s0 (by omega) (by omega) (by omega)] at y1
        have := px y.toNat (by omega)
        rw [f _ (by omega), f _ (by omega), this.1, this.2]; exact h7 y y0 y1
    · exact rn_Rv_cg (eqR s s0 e) (v.2.2.2.2.1 s s0 s1) (rn_Rv_eq (f _ (by omega)) (f _ (by omega)) (f _ (by omega)) (f _ (by omega)) (f _ (by omega)) h3)
  · rw [lo 1 (by omega)] at t1
    have := p4 t t0 t1
    unfold rn_Tw rn_tw at *
    rw [f _ (by omega), hi _ (by omega), hi _ (by omega), hi _ (by omega), hi _ (by omega), hi _ (by omega)]
    exact this
  · rw [lo 2 (by omega)] at l1
    obtain ⟨q, z1, z2, z3, z4⟩ := p5 l l0 l1
    have nq : q ≠ d + 4 + 5 * r.toNat := fun e => by
      obtain ⟨j, hj, rfl⟩ := p
      rw [e, show 14 + 64 * j + 4 + 5 * r.toNat = 18 + 64 * j + 5 * r.toNat by omega] at z2
      exact rn_nL (by omega) z2
    refine ⟨q, z1, z2, ?_, ?_⟩
    · unfold rn_lb; rw [hi _ (by omega)]; exact z3
    · unfold rn_lb; rw [f q nq, hi _ (by omega)]; exact z4
  · obtain ⟨u0, u1, u2, u3, u4, u5, u6⟩ := v
    refine ⟨by rw [lo 0 (by omega)]; exact u0, by rw [lo 1 (by omega)]; exact u1, by rw [lo 2 (by omega)]; exact u2, by rw [lo 3 (by omega)]; exact u3, fun s s0 s1 => ?_, fun t t0 t1 => ?_, fun l l0 l1 => ?_⟩
    · rw [lo 0 (by omega)] at s1
      by_cases e : s = r
      · subst e
        obtain ⟨h1, h2, h3, h4, h5, h6, h7⟩ := vr
        refine ⟨?_, ?_, ?_, ?_, fun y y0 y1 => ?_, fun y y0 y1 => ?_, fun y y0 y1 => ?_⟩
        · rw [o s 0 s0 (by omega) (by omega) (by omega)]; exact h1
        · by_cases c : w = 1
          · subst c; rw [show rn_o (rn_up N (4 + 78 * s + ((1 : Nat) : Int)).toNat x) s 1 = x from o1]; omega
          · rw [o s 1 s0 (by omega) (by omega) (by omega)]; exact h2
        · by_cases c : w = 2
          · subst c; rw [show rn_o (rn_up N (4 + 78 * s + ((2 : Nat) : Int)).toNat x) s 2 = x from o1]; omega
          · rw [o s 2 s0 (by omega) (by omega) (by omega)]; exact h3
        · rw [o s 5 s0 (by omega) (by omega) (by omega)]; exact h4
        · rw [o s (18 + y) s0 (by omega) (by omega) (by omega)]; exact h5 y y0 y1
        · rw [o s (6 + y) s0 (by omega) (by omega) (by omega)]; exact h6 y y0 y1
        · rw [o s 5 s0 (by omega) (by omega) (by omega)] at y1
          have := px y.toNat (by omega)
          rw [this.1, this.2]; exact h7 y y0 y1
      · exact rn_vR_cg (eqR s s0 e) (u4 s s0 s1)
    · rw [lo 1 (by omega)] at t1
      have := u5 t t0 t1
      unfold rn_vT rn_tw at *
      rw [hi _ (by omega), hi _ (by omega), hi _ (by omega), hi _ (by omega), hi _ (by omega)]
      exact this
    · rw [lo 2 (by omega)] at l1
      have := u6 l l0 l1
      have t1 := this.1.2
      unfold rn_vL rn_lb at *
      rw [hi (522 + 2 * l + 0).toNat (by omega), hi (522 + 2 * l + 1).toNat (by omega), lo 0 (by omega), o _ 0 this.1.1 (by omega) (by omega) (by omega), o _ 5 this.1.1 (by omega) (by omega) (by omega)]
      exact this
end ACT
