/-! a river flows on -/
def rn_St (M : rn_M) : Prop := ∀ k : Int, 0 ≤ k → k < 8 → rn_gi M 1 k.toNat = rn_sx k ∧ rn_gi M 2 k.toNat = rn_sy k
def rn_fl (N : Nat → Int) (r d : Int) : Nat → Int := rn_up (rn_up N (4 + 78 * r + 18 + rn_o N r 5).toNat d) (4 + 78 * r + 5).toNat (rn_o N r 5 + 1)
/-- the next cell lies on the map -/
def rn_om (N : Nat → Int) (r d : Int) : Prop := (0 ≤ rn_px N r (rn_o N r 5).toNat + rn_sx d ∧ rn_px N r (rn_o N r 5).toNat + rn_sx d < 60) ∧ 0 ≤ rn_py N r (rn_o N r 5).toNat + rn_sy d ∧ rn_py N r (rn_o N r 5).toNat + rn_sy d < 40
section FLW
variable {M : rn_M} {Q : rn_Q} {N : Nat → Int} {n : Int} {K : Nat → Nat → Int} {a : Nat} {r d : Int}
theorem rn_sx_r (d : Int) : (-1 ≤ rn_sx d ∧ rn_sx d ≤ 1) ∧ -1 ≤ rn_sy d ∧ rn_sy d ≤ 1 := by
  unfold rn_sx rn_sy; constructor <;> (repeat' split) <;> omega
theorem rs_leavesMap (hM : rn_sh M) (st : rn_St M) (p : rn_isR a) (h : rn_Rv M a N r) (v : rn_vR N r) (hd : 0 ≤ d ∧ d ≤ 7) (k : Q (some (rn_I (rn_b (¬ rn_om N r d)))) M) : rn_ME 62 [rn_R a, rn_I d] M Q := by
  have v5 := v.2.2.2.1
  have e4 := h.2.2.2.1
  have exy := h.2.2.2.2.2.2 (rn_o N r 5) v5.1 (Int.le_refl _)
  have vxy := v.2.2.2.2.2.2 (rn_o N r 5) v5.1 (Int.le_refl _)
  have s := st d hd.1 (by omega)
  have sr := rn_sx_r d
  refine re_Ri_leavesMap (rb_Ri_leavesMap_0 hM p ?_ ?_ ?_ ?_) <;> (try rw [e4, exy.1, exy.2, s.1, s.2])
  · omega
  · intro c; exact absurd hd c
  · intro _ c; exact rn_kt c k
  · intro _ c; exact rn_kf (fun z => z c) k
theorem rn_fl_o {r' w : Int} (r0 : 0 ≤ r) (l0 : 0 ≤ rn_o N r 5) (l1 : rn_o N r 5 < 60) (h0 : 0 ≤ r') (w0 : 0 ≤ w) (w1 : w < 78) (ne : ¬ (r' = r ∧ (w = 5 ∨ w = 18 + rn_o N r 5))) : rn_o (rn_fl N r d) r' w = rn_o N r' w := by
  unfold rn_fl
  show rn_up _ _ _ (4 + 78 * r' + w).toNat = N (4 + 78 * r' + w).toNat
  rw [rn_up_ne (by omega), rn_up_ne (by omega)]
theorem rn_fl_5 (l0 : 0 ≤ rn_o N r 5) : rn_o (rn_fl N r d) r 5 = rn_o N r 5 + 1 := by
  unfold rn_fl
  show rn_up _ _ _ (4 + 78 * r + 5).toNat = _
  rw [rn_up_eq]
theorem rn_fl_m (r0 : 0 ≤ r) (l0 : 0 ≤ rn_o N r 5) : rn_o (rn_fl N r d) r (18 + rn_o N r 5) = d := by
  unfold rn_fl
  show rn_up _ _ _ (4 + 78 * r + (18 + rn_o N r 5)).toNat = _
  rw [rn_up_ne (by omega), show (4 + 78 * r + (18 + rn_o N r 5)).toNat = (4 + 78 * r + 18 + rn_o N r 5).toNat by omega, rn_up_eq]
theorem rn_fl_px (r0 : 0 ≤ r) (l0 : 0 ≤ rn_o N r 5) (l1 : rn_o N r 5 < 60) : ∀ k : Nat, (k : Int) ≤ rn_o N r 5 → rn_px (rn_fl N r d) r k = rn_px N r k ∧ rn_py (rn_fl N r d) r k = rn_py N r k
  | 0, _ => ⟨rn_fl_o r0 l0 l1 r0 (w := 3) (by omega) (by omega) (by omega), rn_fl_o r0 l0 l1 r0 (w := 4) (by omega) (by omega) (by omega)⟩
  | k + 1, h => by
    have ih := rn_fl_px r0 l0 l1 k (by omega)
    unfold rn_px rn_py
    rw [ih.1, ih.2, rn_fl_o r0 l0 l1 r0 (w := 18 + k) (by omega) (by omega) (by omega)]
    exact ⟨rfl, rfl⟩
theorem rn_fl_px1 (r0 : 0 ≤ r) (l0 : 0 ≤ rn_o N r 5) (l1 : rn_o N r 5 < 60) : rn_px (rn_fl N r d) r (rn_o N r 5 + 1).toNat = rn_px N r (rn_o N r 5).toNat + rn_sx d ∧ rn_py (rn_fl N r d) r (rn_o N r 5 + 1).toNat = rn_py N r (rn_o N r 5).toNat + rn_sy d := by
  have e : (rn_o N r 5 + 1).toNat = (rn_o N r 5).toNat + 1 := by omega
  have ih := rn_fl_px (d := d) r0 l0 l1 (rn_o N r 5).toNat (by omega)
  have em : rn_o (rn_fl N r d) r (18 + ((rn_o N r 5).toNat : Int)) = d := by
    rw [Int.toNat_of_nonneg l0]; exact rn_fl_m r0 l0
  rw [e]
  show rn_px (rn_fl N r d) r (rn_o N r 5).toNat + rn_sx (rn_o (rn_fl N r d) r (18 + ((rn_o N r 5).toNat : Int))) = _ ∧ rn_py (rn_fl N r d) r (rn_o N r 5).toNat + rn_sy (rn_o (rn_fl N r d) r (18 + ((rn_o N r 5).toNat : Int))) = _
  rw [ih.1, ih.2, em]
  exact ⟨rfl, rfl⟩
theorem rn_fl_vR (r0 : 0 ≤ r) (v : rn_vR N r) (l1 : rn_o N r 5 < 60) (hd : 0 ≤ d ∧ d ≤ 7) (om : rn_om N r d) : rn_vR (rn_fl N r d) r := by
  obtain ⟨h1, h2, h3, h4, h5, h6, h7⟩ := v
  have l0 := h4.1
  have o := fun (w : Int) (w0 : 0 ≤ w) (w1 : w < 78) ne => rn_fl_o (N := N) (d := d) (r' := r) (w := w) r0 l0 l1 r0 w0 w1 ne
  refine ⟨?_, ?_, ?_, ?_, fun y y0 y1 => ?_, fun y y0 y1 => ?_, fun y y0 y1 => ?_⟩
  · rw [o 0 (by omega) (by omega) (by omega)]; exact h1
  · rw [o 1 (by omega) (by omega) (by omega)]; exact h2
  · rw [o 2 (by omega) (by omega) (by omega)]; exact h3
  · rw [rn_fl_5 l0]; omega
  · by_cases e : y = rn_o N r 5
    · rw [e, rn_fl_m r0 l0]; exact hd
    · rw [o (18 + y) (by omega) (by omega) (by omega)]; exact h5 y y0 y1
  · rw [o (6 + y) (by omega) (by omega) (by omega)]; exact h6 y y0 y1
  · rw [rn_fl_5 l0] at y1
    by_cases e : y = rn_o N r 5 + 1
    · have := rn_fl_px1 (d := d) r0 l0 l1
      rw [e, this.1, this.2]; exact om
    · have := rn_fl_px (d := d) r0 l0 l1 y.toNat (by omega)
      rw [this.1, this.2]; exact h7 y y0 (by omega)
theorem rn_fl_eqR (r0 : 0 ≤ r) (l0 : 0 ≤ rn_o N r 5) (l1 : rn_o N r 5 < 60) {s : Int} (s0 : 0 ≤ s) (ne : s ≠ r) : rn_eqR N (rn_fl N r d) s := fun w w0 w1 => rn_fl_o r0 l0 l1 s0 w0 w1 (fun z => ne z.1)
theorem rn_fl_lo (r0 : 0 ≤ r) (l0 : 0 ≤ rn_o N r 5) {k : Nat} (h : k < 4) : rn_fl N r d k = N k := by unfold rn_fl; rw [rn_up_ne (by omega), rn_up_ne (by omega)]
theorem rn_fl_hi (r0 : 0 ≤ r) (r1 : r < 6) (l0 : 0 ≤ rn_o N r 5) (l1 : rn_o N r 5 < 60) {k : Nat} (h : 472 ≤ k) : rn_fl N r d k = N k := by unfold rn_fl; rw [rn_up_ne (by omega), rn_up_ne (by omega)]
theorem rn_fl_vd (v : rn_vd N) (r0 : 0 ≤ r) (r1 : r < N 0) (l1 : rn_o N r 5 < 60) (hd : 0 ≤ d ∧ d ≤ 7) (om : rn_om N r d) : rn_vd (rn_fl N r d) := by
  obtain ⟨u0, u1, u2, u3, u4, u5, u6⟩ := v
  have vr := u4 r r0 r1
  have l0 := vr.2.2.2.1.1
  have lo : ∀ k : Nat, k < 4 → rn_fl N r d k = N k := fun k hk => rn_fl_lo r0 l0 hk
  have hi : ∀ k : Nat, 472 ≤ k → rn_fl N r d k = N k := fun k hk => rn_fl_hi r0 (by omega) l0 l1 hk
  have lb : ∀ l w : Int, 0 ≤ l → 0 ≤ w → rn_lb (rn_fl N r d) l w = rn_lb N l w := fun l w a b => by unfold rn_lb; exact hi _ (by omega)
  refine ⟨by rw [lo 0 (by omega)]; exact u0, by rw [lo 1 (by omega)]; exact u1, by rw [lo 2 (by omega)]; exact u2, by rw [lo 3 (by omega)]; exact u3, fun s s0 s1 => ?_, fun t t0 t1 => ?_, fun l j0 j1 => ?_⟩
  · rw [lo 0 (by omega)] at s1
    by_cases e : s = r
    · subst e; exact rn_fl_vR s0 vr l1 hd om
    · exact rn_vR_cg (rn_fl_eqR r0 l0 l1 s0 e) (u4 s s0 s1)
  · rw [lo 1 (by omega)] at t1
    have := u5 t t0 t1
    unfold rn_vT rn_tw at *
    rw [hi _ (by omega), hi _ (by omega), hi _ (by omega), hi _ (by omega), hi _ (by omega)]
    exact this
  · rw [lo 2 (by omega)] at j1
    have := u6 l j0 j1
    unfold rn_vL at *
    rw [lb l 0 j0 (by omega), lb l 1 j0 (by omega), lo 0 (by omega)]
    refine ⟨this.1, this.2.1, ?_⟩
    have t0 := this.1.1
    rw [rn_fl_o r0 l0 l1 t0 (w := 0) (by omega) (by omega) (by omega)]
    by_cases e : rn_lb N l 0 = r
    · have := this.2.2; rw [e] at this ⊢; rw [rn_fl_5 l0]; omega
    · rw [rn_fl_o r0 l0 l1 t0 (w := 5) (by omega) (by omega) (by omega)]; exact this.2.2
theorem rs_lengthen {b : Nat} (hM : rn_sh M) (st : rn_St M) (p : rn_isB b) (hb : rn_Rp M b N) (v : rn_vd N) (r0 : 0 ≤ r) (r1 : r < N 0) (hd : 0 ≤ d ∧ d ≤ 7) (k1 : rn_o N r 5 < 60 → rn_om N r d → ∀ M', rn_ch (rn_PR (b + 4 + 5 * r.toNat)) M M' → rn_gi M' (b + 4 + 5 * r.toNat) 0 = rn_gi M (b + 4 + 5 * r.toNat) 0 → rn_Rp M' b (rn_fl N r d) → Q (some (rn_I 1)) M') (k2 : ¬ (rn_o N r 5 < 60 ∧ rn_om N r d) → Q (some (rn_I 0)) M) : rn_ME 63 [rn_R (b + 4 + 5 * r.toNat), rn_I d] M Q := by
  have v0 := v.1
  have v1 := v.2.1
  have v2 := v.2.2.1
  have vr := v.2.2.2.2.1 r r0 r1
  have v5 := vr.2.2.2.1
  have w0 := vr.1
  have pa := rn_isR_i p v r0 r1
  have hr := hb.2.2.1 r r0 r1
  have e4 := hr.2.2.2.1
  have exy := hr.2.2.2.2.2.2 (rn_o N r 5) v5.1 (Int.le_refl _)
  have vxy := vr.2.2.2.2.2.2 (rn_o N r 5) v5.1 (Int.le_refl _)
  have s := st d hd.1 (by omega)
  have sr := rn_sx_r d
  refine re_Ri_lengthen (rb_Ri_lengthen_0 hM pa ?_ ?_) <;> rw [e4]
  · intro c; exact k2 (fun z => by omega)
  · intro c
    refine rs_leavesMap hM st pa hr vr hd ?_
    refine rb_Ri_lengthen_18 hM pa ?_ ?_ ?_ <;> (try rw [e4, exy.1, exy.2, s.1, s.2])
    · intro _; omega
    · intro z
      have om : rn_om N r d := Classical.byContradiction (rn_b0 z)
      have l1 : rn_o N r 5 < 60 := by omega
      have l0 := v5.1
      have f : ∀ x, ¬ rn_PR (b + 4 + 5 * r.toNat) x → rn_gi (rn_si (rn_si (rn_si (rn_si M (b + 4 + 5 * r.toNat + 3) (rn_o N r 5 + 1).toNat (rn_px N r (rn_o N r 5).toNat + rn_sx d)) (b + 4 + 5 * r.toNat + 4) (rn_o N r 5 + 1).toNat (rn_py N r (rn_o N r 5).toNat + rn_sy d)) (b + 4 + 5 * r.toNat + 2) (rn_o N r 5).toNat d) (b + 4 + 5 * r.toNat) 4 (rn_o N r 5 + 1)) x = rn_gi M x := fun x hx => by
        unfold rn_PR at hx
        rw [rn_si_gif (by omega), rn_si_gif (by omega), rn_si_gif (by omega), rn_si_gif (by omega)]
      have g0 : ∀ w, w ≠ 4 → rn_gi (rn_si (rn_si (rn_si (rn_si M (b + 4 + 5 * r.toNat + 3) (rn_o N r 5 + 1).toNat (rn_px N r (rn_o N r 5).toNat + rn_sx d)) (b + 4 + 5 * r.toNat + 4) (rn_o N r 5 + 1).toNat (rn_py N r (rn_o N r 5).toNat + rn_sy d)) (b + 4 + 5 * r.toNat + 2) (rn_o N r 5).toNat d) (b + 4 + 5 * r.toNat) 4 (rn_o N r 5 + 1)) (b + 4 + 5 * r.toNat) w = rn_gi M (b + 4 + 5 * r.toNat) w := fun w hw => by
        rw [rn_si_ne (by omega), rn_si_gif (by omega), rn_si_gif (by omega), rn_si_gif (by omega)]
      refine k1 l1 om _ ⟨rfl, fun _ _ => rfl, f⟩ (g0 0 (by omega)) ?_
      have lo : ∀ k : Nat, k < 4 → rn_fl N r d k = N k := fun k hk => rn_fl_lo r0 l0 hk
      have hi : ∀ k : Nat, 472 ≤ k → rn_fl N r d k = N k := fun k hk => rn_fl_hi r0 (by omega) l0 l1 hk
      have o := fun (w : Int) (w0 : 0 ≤ w) (w1 : w < 78) ne => rn_fl_o (N := N) (d := d) (r' := r) (w := w) r0 l0 l1 r0 w0 w1 ne
      obtain ⟨q, p2, p3, p4, p5⟩ := hb
      refine ⟨?_, fun y y0 y1 => ?_, fun y y0 y1 => ?_, fun t t0 t1 => ?_, fun l j0 j1 => ?_⟩
      · rw [f b (by unfold rn_PR; omega), lo 0 (by omega), lo 1 (by omega), lo 2 (by omega), lo 3 (by omega)]; exact q
      · by_cases e : y = r
        · subst e; rw [g0 0 (by omega)]; exact p2 y y0 y1
        · rw [f _ (by unfold rn_PR; omega)]; exact p2 y y0 y1
      · rw [lo 0 (by omega)] at y1
        by_cases e : y = r
        · subst e
          obtain ⟨h1, h2, h3, h4, h5, h6, h7⟩ := hr
          refine ⟨?_, ?_, ?_, ?_, fun x x0 x1 => ?_, fun x x0 x1 => ?_, fun x x0 x1 => ?_⟩
          · rw [g0 1 (by omega), o 1 (by omega) (by omega) (by omega)]; exact h1
          · rw [g0 2 (by omega), o 2 (by omega) (by omega) (by omega)]; exact h2
          · rw [g0 3 (by omega), o 0 (by omega) (by omega) (by omega)]; exact h3
          · rw [rn_si_eq, rn_fl_5 l0]
          · rw [o 0 (by omega) (by omega) (by omega)] at x1
            rw [o (6 + x) (by omega) (by omega) (by omega), rn_si_gif (by omega), rn_si_gif (by omega), rn_si_gif (by omega), rn_si_gif (by omega)]; exact h5 x x0 x1
          · rw [rn_fl_5 l0] at x1
            rw [rn_si_gif (by omega)]
            by_cases e : x = rn_o N y 5
            · rw [e, rn_si_eq, rn_fl_m y0 l0]
            · rw [rn_si_ne (by omega), rn_si_gif (by omega), rn_si_gif (by omega), o (18 + x) (by omega) (by omega) (by omega)]; exact h6 x x0 (by omega)
          · rw [rn_fl_5 l0] at x1
            by_cases e : x = rn_o N y 5 + 1
            · have := rn_fl_px1 (d := d) y0 l0 l1
              rw [e, this.1, this.2]
              refine ⟨?_, ?_⟩
              · rw [rn_si_gif (by omega), rn_si_gif (by omega), rn_si_gif (by omega), rn_si_eq]
              · rw [rn_si_gif (by omega), rn_si_gif (by omega), rn_si_eq]
            · have := rn_fl_px (d := d) y0 l0 l1 x.toNat (by omega)
              rw [this.1, this.2]
              refine ⟨?_, ?_⟩
              · rw [rn_si_gif (by omega), rn_si_gif (by omega), rn_si_gif (by omega), rn_si_ne (by omega)]; exact (h7 x x0 (by omega)).1
              · rw [rn_si_gif (by omega), rn_si_gif (by omega), rn_si_ne (by omega), rn_si_gif (by omega)]; exact (h7 x x0 (by omega)).2
        · exact rn_Rv_cg (rn_fl_eqR r0 l0 l1 y0 e) (v.2.2.2.2.1 y y0 y1) (rn_Rv_eq (f _ (by unfold rn_PR; omega)) (f _ (by unfold rn_PR; omega)) (f _ (by unfold rn_PR; omega)) (f _ (by unfold rn_PR; omega)) (f _ (by unfold rn_PR; omega)) (p3 y y0 y1))
      · rw [lo 1 (by omega)] at t1
        have := p4 t t0 t1
        unfold rn_Tw rn_tw at *
        rw [f _ (by unfold rn_PR; omega), hi _ (by omega), hi _ (by omega), hi _ (by omega), hi _ (by omega), hi _ (by omega)]
        exact this
      · rw [lo 2 (by omega)] at j1
        obtain ⟨q, z1, z2, z3, z4⟩ := p5 l j0 j1
        refine ⟨q, z1, z2, ?_, ?_⟩
        · unfold rn_lb; rw [hi _ (by omega)]; exact z3
        · have nq : ¬ rn_PR (b + 4 + 5 * r.toNat) q := fun e => by
            unfold rn_PR at e
            obtain ⟨j, hj, rfl⟩ := p
            obtain ⟨j', i', a1, a2, a3⟩ := z2
            rcases Nat.lt_trichotomy j j' with h | h | h <;> omega
          unfold rn_lb; rw [f q nq, hi _ (by omega)]; exact z4
    · intro z; exact k2 (fun y => rn_b1 z y.2)
end FLW
