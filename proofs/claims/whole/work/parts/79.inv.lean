/-! the law: what holds between two calls; the loop -/
def rn_Tx (M : rn_M) : Prop := (0 ≤ rn_gi M 10 0 ∧ rn_gi M 10 0 ≤ 150) ∧ rn_gi M 466 4 = rn_gi M 10 0 ∧ ∀ i : Int, 0 ≤ i → i < rn_gi M 10 0 → rn_gi M 469 i.toNat = rn_gi M 11 i.toNat ∧ 1 ≤ rn_gi M 11 i.toNat ∧ rn_gi M 11 i.toNat ≤ 255
def rn_Iv (M : rn_M) (L : Nat) (N : Nat → Int) (n : Int) (K : Nat → Nat → Int) (B : Int) : Prop := rn_sh M ∧ rn_St M ∧ rn_Cs M N n K ∧ rn_Ms M N n K B ∧ rn_Tx M ∧ rn_fa M 0 L ∧ rn_wrd M 3 5 5 rn_wR ∧ rn_wrd M 4 6 4 rn_wT
/-- what no call changes -/
def rn_kp (M M' : rn_M) : Prop := M'.1 = M.1 ∧ ∀ x, x ≤ 8 → rn_gi M' x = rn_gi M x ∧ ∀ k, rn_gr M' x k = rn_gr M x k
section LAW
variable {M M1 M2 : rn_M} {Q : rn_Q} {N N' : Nat → Int} {n n' B B' : Int} {K K' : Nat → Nat → Int} {L : Nat}
theorem rn_kp_tr (h : rn_kp M M1) (g : rn_kp M1 M2) : rn_kp M M2 := ⟨g.1.trans h.1, fun x hx => ⟨(g.2 x hx).1.trans (h.2 x hx).1, fun k => ((g.2 x hx).2 k).trans ((h.2 x hx).2 k)⟩⟩
theorem rn_kp_fg (h : rn_fg M M1) : rn_kp M M1 := ⟨h.1, fun x hx => h.2 x (by omega)⟩
theorem rn_kp_fc (h : rn_fc M M1) : rn_kp M M1 := rn_kp_fg (rn_fg_fc h)
theorem rn_kp_ch {P : Nat → Prop} (hP : ∀ x, x ≤ 8 → ¬ P x) (h : rn_ch P M M1) : rn_kp M M1 := ⟨h.1, fun x hx => ⟨h.2.2 x (hP x hx), fun k => h.2.1 x k⟩⟩
theorem rn_fa_kp (h : rn_kp M M1) (g : rn_fa M 0 L) : rn_fa M1 0 L := by
  unfold rn_fa rn_kd rn_ln at *; rw [h.1]; exact g
theorem rn_wrd_kp {a c L : Nat} {w : Nat → Int} (h : rn_wrd M a c L w) (k : rn_kp M M1) (h1 : a ≤ 8) (h2 : c ≤ 8) : rn_wrd M1 a c L w := by
  obtain ⟨w1, w2, w3, w4, w5, w6, w7⟩ := h
  have ka := k.2 a h1
  have kc := k.2 c h2
  refine ⟨?_, (ka.2 0).trans w2, by rw [ka.1]; exact w3, ?_, w5, w6, fun i hi => by rw [kc.1]; exact w7 i hi⟩
  · unfold rn_kd at *; rw [k.1]; exact w1
  · unfold rn_ba rn_kd rn_ln at *; rw [k.1]; exact w4
theorem rn_St_kp (k : rn_kp M M1) (h : rn_St M) : rn_St M1 := fun x x0 x1 => by
  rw [(k.2 1 (by omega)).1, (k.2 2 (by omega)).1]; exact h x x0 x1
/-- rows that agree on all of the reference's cells -/
theorem rn_vd_62 (e : ∀ j : Nat, j < 562 → N' j = N j) (v : rn_vd N) : rn_vd N' := by
  obtain ⟨u0, u1, u2, u3, u4, u5, u6⟩ := v
  have eqR : ∀ r : Int, 0 ≤ r → r < 6 → rn_eqR N N' r := fun r a b w c d => by unfold rn_o; exact e _ (by omega)
  refine ⟨by rw [e 0 (by omega)]; exact u0, by rw [e 1 (by omega)]; exact u1, by rw [e 2 (by omega)]; exact u2, by rw [e 3 (by omega)]; exact u3, fun s s0 s1 => ?_, fun t t0 t1 => ?_, fun l l0 l1 => ?_⟩
  · rw [e 0 (by omega)] at s1; exact rn_vR_cg (eqR s s0 (by omega)) (u4 s s0 s1)
  · rw [e 1 (by omega)] at t1
    have := u5 t t0 t1
    unfold rn_vT rn_tw at *
    rw [e (472 + 5 * t + 0).toNat (by omega), e (472 + 5 * t + 1).toNat (by omega), e (472 + 5 * t + 2).toNat (by omega), e (472 + 5 * t + 3).toNat (by omega), e (472 + 5 * t + 4).toNat (by omega)]
    exact this
  · rw [e 2 (by omega)] at l1
    have := u6 l l0 l1
    have t2 := this.1.2
    have lb : ∀ w : Int, 0 ≤ w → w ≤ 1 → rn_lb N' l w = rn_lb N l w := fun w a b => by unfold rn_lb; exact e _ (by omega)
    unfold rn_vL at *
    rw [lb 0 (by omega) (by omega), lb 1 (by omega) (by omega), e 0 (by omega), eqR _ this.1.1 (by omega) 0 (by omega) (by omega), eqR _ this.1.1 (by omega) 5 (by omega) (by omega)]
    exact this
theorem rn_Rp_62 {b : Nat} (e : ∀ j : Nat, j < 562 → N' j = N j) (v : rn_vd N) (h : rn_Rp M b N) : rn_Rp M b N' := by
  have u0 := v.1
  have u1 := v.2.1
  have u2 := v.2.2.1
  have eqR : ∀ r : Int, 0 ≤ r → r < 6 → rn_eqR N N' r := fun r a b w c d => by unfold rn_o; exact e _ (by omega)
  obtain ⟨⟨q0, q1, q2, q3⟩, p2, p3, p4, p5⟩ := h
  refine ⟨⟨by rw [e 0 (by omega)]; exact q0, by rw [e 1 (by omega)]; exact q1, by rw [e 2 (by omega)]; exact q2, by rw [e 3 (by omega)]; exact q3⟩, p2, fun s s0 s1 => ?_, fun t t0 t1 => ?_, fun l l0 l1 => ?_⟩
  · rw [e 0 (by omega)] at s1; exact rn_Rv_cg (eqR s s0 (by omega)) (v.2.2.2.2.1 s s0 s1) (p3 s s0 s1)
  · rw [e 1 (by omega)] at t1
    have := p4 t t0 t1
    unfold rn_Tw rn_tw at *
    rw [e (472 + 5 * t + 0).toNat (by omega), e (472 + 5 * t + 1).toNat (by omega), e (472 + 5 * t + 2).toNat (by omega), e (472 + 5 * t + 3).toNat (by omega), e (472 + 5 * t + 4).toNat (by omega)]
    exact this
  · rw [e 2 (by omega)] at l1
    obtain ⟨q, z1, z2, z3, z4⟩ := p5 l l0 l1
    have lb : ∀ w : Int, 0 ≤ w → w ≤ 1 → rn_lb N' l w = rn_lb N l w := fun w a b => by unfold rn_lb; exact e _ (by omega)
    refine ⟨q, z1, z2, ?_, ?_⟩
    · rw [lb 0 (by omega) (by omega)]; exact z3
    · rw [lb 1 (by omega) (by omega)]; exact z4
theorem rn_Cs_62 (e : ∀ j : Nat, j < 562 → N' j = N j) (h : rn_Cs M N n K) : rn_Cs M N' n K := by
  obtain ⟨pr, dr, kp, h1, h2, h3, h4, h5, h6⟩ := h
  exact ⟨pr, dr, kp, h1, rn_Rp_62 e h3 h2, rn_vd_62 e h3, h4, h5, h6⟩
theorem rn_Cs_vd (h : rn_Cs M N n K) : rn_vd N ∧ 0 ≤ n ∧ n ≤ 5 := by
  obtain ⟨pr, dr, kp, h1, h2, h3, h4, h5, h6⟩ := h
  exact ⟨h3, h5⟩
theorem rn_Ms_fg (c : rn_fg M M1) (h : rn_Ms M N n K B) : rn_Ms M1 N n K B := by
  obtain ⟨h1, h2, h3, h4⟩ := h
  have p : ∀ a, 466 ≤ a → rn_gi M1 a = rn_gi M a := fun a ha => (c.2 a (by omega)).1
  refine ⟨(p 467 (by omega)).trans h1, by rw [p 466 (by omega)]; exact h2, fun i hi j hj => by rw [p 468 (by omega)]; exact h3 i hi j hj, ?_⟩
  unfold rn_ma; rw [p 472 (by omega), p 466 (by omega)]; exact h4
theorem rn_Ms_le (h : rn_Ms M N n K B) (g : B ≤ B') : rn_Ms M N n K B' := ⟨h.1, h.2.1, h.2.2.1, rn_ma_le h.2.2.2 g⟩
theorem rn_P5_fc (h : rn_ch rn_P5 M M1) : rn_fc M M1 := rn_fc_ch (fun a z => by unfold rn_P5 at z; omega) h
theorem rn_Iv_step (iv : rn_Iv M L N n K B) (f1 : rn_fc M M1) (s1 : rn_sh M1) (c1 : rn_Cs M1 N' n' K') (f2 : rn_fm M1 M2) (m2 : rn_Ms M2 N' n' K' B') : rn_Iv M2 L N' n' K' B' := by
  obtain ⟨i1, i2, i3, i4, i5, i6, i7, i8⟩ := iv
  have k1 := rn_kp_fc f1
  have k2 : rn_kp M1 M2 := rn_kp_ch (fun x hx z => by omega) f2.1
  have kk := rn_kp_tr k1 k2
  refine ⟨rn_sh_ch f2.1 s1, rn_St_kp kk i2, rn_Cs_ch (fun a q1 q2 z => by omega) f2.1 c1, m2, ?_, rn_fa_kp kk i6, rn_wrd_kp i7 kk (by omega) (by omega), rn_wrd_kp i8 kk (by omega) (by omega)⟩
  have e10 : rn_gi M2 10 = rn_gi M 10 := (f2.1.2.2 10 (by omega)).trans (f1.2 10 (by omega)).1
  have e11 : rn_gi M2 11 = rn_gi M 11 := (f2.1.2.2 11 (by omega)).trans (f1.2 11 (by omega)).1
  have e69 : rn_gi M2 469 = rn_gi M 469 := f2.2.1.trans (f1.2 469 (by omega)).1
  have e4 : rn_gi M2 466 4 = rn_gi M 466 4 := by rw [f2.2.2, (f1.2 466 (by omega)).1]
  unfold rn_Tx
  rw [e10, e11, e69, e4]; exact i5
end LAW
