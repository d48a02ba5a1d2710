/-! frames of a board; rows that agree; copies -/
/-- memory that differs in the cells of the board b only -/
def rn_cb (b : Nat) (M M' : rn_M) : Prop := M'.1 = M.1 ∧ ∀ a, a < b ∨ b + 64 ≤ a → rn_gi M' a = rn_gi M a ∧ ∀ k, rn_gr M' a k = rn_gr M a k
theorem rn_cb_rf {b : Nat} {M : rn_M} : rn_cb b M M := ⟨rfl, fun _ _ => ⟨rfl, fun _ => rfl⟩⟩
theorem rn_cb_tr {b : Nat} {M M1 M2 : rn_M} (h1 : rn_cb b M M1) (h2 : rn_cb b M1 M2) : rn_cb b M M2 :=
  ⟨h2.1.trans h1.1, fun a h => ⟨(h2.2 a h).1.trans (h1.2 a h).1, fun k => ((h2.2 a h).2 k).trans ((h1.2 a h).2 k)⟩⟩
theorem rn_cb_ch {b : Nat} {P : Nat → Prop} {M M1 : rn_M} (h : rn_ch P M M1) (hP : ∀ a, P a → b ≤ a ∧ a < b + 64) : rn_cb b M M1 :=
  ⟨h.1, fun a ha => ⟨h.2.2 a (fun z => by have := hP a z; omega), fun k => h.2.1 a k⟩⟩
theorem rn_cb_si {b a k : Nat} {v : Int} {M : rn_M} (h : b ≤ a ∧ a < b + 64) : rn_cb b M (rn_si M a k v) :=
  ⟨rfl, fun x hx => ⟨rn_si_gif (by omega), fun _ => rfl⟩⟩
theorem rn_cb_sr {b a k : Nat} {v : Option Nat} {M : rn_M} (h : b ≤ a ∧ a < b + 64) : rn_cb b M (rn_sr M a k v) :=
  ⟨rfl, fun x hx => ⟨rfl, fun j => rn_sr_ne (by omega)⟩⟩
/-- the objects of a board: numbers of the rivers, a permutation of the labels -/
def rn_Bw (M : rn_M) (b : Nat) : Prop := (∀ i : Nat, i < 6 → rn_gi M (b + 4 + 5 * i) 0 = i) ∧
  ∃ π : Nat → Nat, (∀ l, l < 20 → rn_gr M (b + 3) l = some (b + 44 + π l) ∧ π l < 20) ∧ ∀ l l', l < 20 → l' < 20 → π l = π l' → l = l'
theorem rn_isB_ne {b d : Nat} (h : rn_isB b) (g : rn_isB d) (e : b ≠ d) : b + 64 ≤ d ∨ d + 64 ≤ b := by
  obtain ⟨j, h1, rfl⟩ := h; obtain ⟨i, g1, rfl⟩ := g; omega
theorem rn_Bw_cb {b d : Nat} {M M' : rn_M} (h : rn_isB b) (g : rn_isB d) (e : b ≠ d) (c : rn_cb d M M') (hw : rn_Bw M b) : rn_Bw M' b := by
  have := rn_isB_ne h g e
  obtain ⟨h1, π, h2, h3⟩ := hw
  refine ⟨fun i hi => ?_, π, fun l hl => ?_, h3⟩
  · rw [(c.2 _ (by omega)).1]; exact h1 i hi
  · rw [(c.2 _ (by omega)).2]; exact h2 l hl
theorem rn_Rv_eq {M M' : rn_M} {a : Nat} {N : Nat → Int} {r : Int} (h0 : rn_gi M' a = rn_gi M a) (h1 : rn_gi M' (a + 1) = rn_gi M (a + 1)) (h2 : rn_gi M' (a + 2) = rn_gi M (a + 2)) (h3 : rn_gi M' (a + 3) = rn_gi M (a + 3)) (h4 : rn_gi M' (a + 4) = rn_gi M (a + 4)) (h : rn_Rv M a N r) : rn_Rv M' a N r := by
  unfold rn_Rv at *
  rw [h0, h1, h2, h3, h4]
  exact h
/-- the label at l is an object of its own board -/
theorem rn_Bw_q {b : Nat} {M : rn_M} {l q : Nat} (hw : rn_Bw M b) (hl : l < 20) (h : rn_gr M (b + 3) l = some q) : b + 44 ≤ q ∧ q < b + 64 := by
  obtain ⟨h1, π, h2, h3⟩ := hw
  have := h2 l hl
  rw [h] at this
  have e := Option.some.inj this.1
  omega
theorem rn_Rp_cb {b d : Nat} {M M' : rn_M} {N : Nat → Int} (h : rn_isB b) (g : rn_isB d) (e : b ≠ d) (c : rn_cb d M M') (hw : rn_Bw M b) (v : rn_vd N) (hp : rn_Rp M b N) : rn_Rp M' b N := by
  have := rn_isB_ne h g e
  have v0 := v.1
  have v1 := v.2.1
  have v2 := v.2.2.1
  obtain ⟨p1, p2, p3, p4, p5⟩ := hp
  refine ⟨?_, fun r r0 r1 => ?_, fun r r0 r1 => ?_, fun t t0 t1 => ?_, fun l l0 l1 => ?_⟩
  · rw [(c.2 b (by omega)).1]; exact p1
  · rw [(c.2 _ (by omega)).1]; exact p2 r r0 r1
  · exact rn_Rv_eq (c.2 _ (by omega)).1 (c.2 _ (by omega)).1 (c.2 _ (by omega)).1 (c.2 _ (by omega)).1 (c.2 _ (by omega)).1 (p3 r r0 r1)
  · have := p4 t t0 t1
    unfold rn_Tw at *
    rw [(c.2 _ (by omega)).1]; exact this
  · obtain ⟨q, q1, q2, q3, q4⟩ := p5 l l0 l1
    have := rn_Bw_q hw (by omega) q1
    refine ⟨q, by rw [(c.2 _ (by omega)).2]; exact q1, q2, by rw [(c.2 _ (by omega)).2]; exact q3, by rw [(c.2 _ (by omega)).1]; exact q4⟩
theorem rn_nL {j i : Nat} (hi : i < 6) : ¬ rn_isL (18 + 64 * j + 5 * i) := by
  rintro ⟨a, c, q1, q2, e⟩
  rcases Nat.lt_trichotomy a j with h | h | h <;> omega
/-- the fixed references stay -/
theorem rn_sh_rf {M M' : rn_M} (h0 : M'.1 = M.1) (hR : ∀ a k, (∀ j, j < 7 → a ≠ 17 + 64 * j) → ¬ rn_isL a → a ≠ 13 → ¬ (a = 12 ∧ (k = 2 ∨ k = 3)) → rn_gr M' a k = rn_gr M a k) (hM : rn_sh M) : rn_sh M' := by
  obtain ⟨h1, h2, h3⟩ := hM
  refine ⟨by rw [h0]; exact h1, fun a k v hv => ?_, fun j hj => ?_⟩
  · rw [hR a k ?_ ?_ ?_ ?_]
    · exact h2 a k v hv
    · intro j hj e
      unfold rn_fx at hv
      split at hv <;> first | omega | (simp at hv)
    · rintro ⟨j, i, q1, q2, e⟩
      unfold rn_fx at hv
      split at hv <;> first | omega | (simp at hv)
    · intro e
      unfold rn_fx at hv
      split at hv <;> first | omega | (simp at hv)
    · intro e
      unfold rn_fx at hv
      split at hv <;> first | omega | (simp at hv)
  · obtain ⟨a1, a2, a3, a4, a5⟩ := h3 j hj
    refine ⟨?_, ?_, ?_, fun i hi => ?_, fun i hi => ?_⟩
    · rw [hR _ _ (fun j _ => by omega) (by rintro ⟨j, i, q1, q2, e⟩; omega) (by omega) (by omega)]; exact a1
    · rw [hR _ _ (fun j _ => by omega) (by rintro ⟨j, i, q1, q2, e⟩; omega) (by omega) (by omega)]; exact a2
    · rw [hR _ _ (fun j _ => by omega) (by rintro ⟨j, i, q1, q2, e⟩; omega) (by omega) (by omega)]; exact a3
    · obtain ⟨b1, b2, b3, b4, b5⟩ := a4 i hi
      refine ⟨?_, ?_, ?_, ?_, ?_⟩
      · rw [hR _ _ (fun j _ => by omega) (by rintro ⟨j, i, q1, q2, e⟩; omega) (by omega) (by omega)]; exact b1
      · rw [hR _ _ (fun j _ => by omega) (rn_nL hi) (by omega) (by omega)]; exact b2
      · rw [hR _ _ (fun j _ => by omega) (rn_nL hi) (by omega) (by omega)]; exact b3
      · rw [hR _ _ (fun j _ => by omega) (rn_nL hi) (by omega) (by omega)]; exact b4
      · rw [hR _ _ (fun j _ => by omega) (rn_nL hi) (by omega) (by omega)]; exact b5
    · rw [hR _ _ (fun j _ => by omega) (by rintro ⟨j, i, q1, q2, e⟩; omega) (by omega) (by omega)]; exact a5 i hi
/-- rows that agree on a river -/
def rn_eqR (N N' : Nat → Int) (r : Int) : Prop := ∀ w : Int, 0 ≤ w → w < 78 → rn_o N' r w = rn_o N r w
theorem rn_px_eq {N N' : Nat → Int} {r : Int} (e : rn_eqR N N' r) : ∀ k : Nat, k ≤ 60 → rn_px N' r k = rn_px N r k ∧ rn_py N' r k = rn_py N r k
  | 0, _ => ⟨e 3 (by omega) (by omega), e 4 (by omega) (by omega)⟩
  | k + 1, h => by
    have ih := rn_px_eq e k (by omega)
    unfold rn_px rn_py
    rw [ih.1, ih.2, e (18 + k) (by omega) (by omega)]
    exact ⟨rfl, rfl⟩
theorem rn_Rv_cg {M : rn_M} {a : Nat} {N N' : Nat → Int} {r : Int} (e : rn_eqR N N' r) (v : rn_vR N r) (h : rn_Rv M a N r) : rn_Rv M a N' r := by
  obtain ⟨h1, h2, h3, h4, h5, h6, h7⟩ := h
  have v0 := v.1
  have v5 := v.2.2.2.1
  have e0 := e 0 (by omega) (by omega)
  have e5 := e 5 (by omega) (by omega)
  refine ⟨h1.trans (e 1 (by omega) (by omega)).symm, h2.trans (e 2 (by omega) (by omega)).symm, h3.trans e0.symm, h4.trans e5.symm, fun x x0 x1 => ?_, fun x x0 x1 => ?_, fun x x0 x1 => ?_⟩
  · rw [e (6 + x) (by omega) (by omega)]; exact h5 x x0 (by omega)
  · rw [e (18 + x) (by omega) (by omega)]; exact h6 x x0 (by omega)
  · have := rn_px_eq e x.toNat (by omega)
    rw [this.1, this.2]; exact h7 x x0 (by omega)
theorem rn_vR_cg {N N' : Nat → Int} {r : Int} (e : rn_eqR N N' r) (v : rn_vR N r) : rn_vR N' r := by
  obtain ⟨h1, h2, h3, h4, h5, h6, h7⟩ := v
  have e0 := e 0 (by omega) (by omega)
  have e1 := e 1 (by omega) (by omega)
  have e2 := e 2 (by omega) (by omega)
  have e5 := e 5 (by omega) (by omega)
  refine ⟨by omega, by omega, by omega, by omega, fun x x0 x1 => ?_, fun x x0 x1 => ?_, fun x x0 x1 => ?_⟩
  · rw [e (18 + x) (by omega) (by omega)]; exact h5 x x0 x1
  · rw [e (6 + x) (by omega) (by omega)]; exact h6 x x0 x1
  · have := rn_px_eq e x.toNat (by omega)
    rw [this.1, this.2]; exact h7 x x0 (by omega)
def rn_up (N : Nat → Int) (k : Nat) (v : Int) : Nat → Int := fun j => if j = k then v else N j
theorem rn_up_eq {N : Nat → Int} {k : Nat} {v : Int} : rn_up N k v k = v := by unfold rn_up; rw [if_pos rfl]
theorem rn_up_ne {N : Nat → Int} {k j : Nat} {v : Int} (h : j ≠ k) : rn_up N k v j = N j := by unfold rn_up; rw [if_neg h]
theorem rn_si_up {M : rn_M} {a k : Nat} {v : Int} : rn_gi (rn_si M a k v) a = rn_up (rn_gi M a) k v := by
  funext j
  unfold rn_up
  split
  · rename_i h; rw [h, rn_si_eq]
  · rename_i h; exact rn_si_ne (fun z => h z.2)
/-- the same row with other counts -/
def rn_tr (N : Nat → Int) (c0 c1 c2 : Int) : Nat → Int := fun k => if k = 0 then c0 else if k = 1 then c1 else if k = 2 then c2 else N k
theorem rn_tr_ge {N : Nat → Int} {c0 c1 c2 : Int} {k : Nat} (h : 3 ≤ k) : rn_tr N c0 c1 c2 k = N k := by
  unfold rn_tr; rw [if_neg (by omega), if_neg (by omega), if_neg (by omega)]
theorem rn_tr_eqR {N : Nat → Int} {c0 c1 c2 r : Int} (h : 0 ≤ r) : rn_eqR N (rn_tr N c0 c1 c2) r := fun w w0 _ => by unfold rn_o; exact rn_tr_ge (by omega)
theorem rn_tr_eqR' {N : Nat → Int} {c0 c1 c2 r : Int} (h : 0 ≤ r) : rn_eqR (rn_tr N c0 c1 c2) N r := fun w w0 _ => by unfold rn_o; exact (rn_tr_ge (by omega)).symm
theorem rn_tr_tw {N : Nat → Int} {c0 c1 c2 t w : Int} (h : 0 ≤ t) (g : 0 ≤ w) : rn_tw (rn_tr N c0 c1 c2) t w = rn_tw N t w := by unfold rn_tw; exact rn_tr_ge (by omega)
theorem rn_tr_lb {N : Nat → Int} {c0 c1 c2 t w : Int} (h : 0 ≤ t) (g : 0 ≤ w) : rn_lb (rn_tr N c0 c1 c2) t w = rn_lb N t w := by unfold rn_lb; exact rn_tr_ge (by omega)
theorem rn_tr_id {N : Nat → Int} : rn_tr N (N 0) (N 1) (N 2) = N := by
  funext k
  unfold rn_tr
  split
  · rename_i h; rw [h]
  · split
    · rename_i h; rw [h]
    · split
      · rename_i h; rw [h]
      · rfl
theorem rn_tr_vd {N : Nat → Int} (v : rn_vd N) {c0 c1 c2 : Int} (h0 : 0 ≤ c0 ∧ c0 ≤ N 0) (h1 : 0 ≤ c1 ∧ c1 ≤ N 1) (h2 : c2 = 0 ∨ 0 ≤ c2 ∧ c2 ≤ N 2 ∧ c0 = N 0) : rn_vd (rn_tr N c0 c1 c2) := by
  obtain ⟨v0, v1, v2, v3, v4, v5, v6⟩ := v
  refine ⟨?_, ?_, ?_, ?_, fun r r0 r1 => ?_, fun t t0 t1 => ?_, fun l l0 l1 => ?_⟩
  · show 0 ≤ c0 ∧ c0 ≤ 6; omega
  · show 0 ≤ c1 ∧ c1 ≤ 10; omega
  · show 0 ≤ c2 ∧ c2 ≤ 20; omega
  · show 0 ≤ N 3 ∧ N 3 ≤ 60; exact v3
  · have r1 : r < c0 := r1
    exact rn_vR_cg (rn_tr_eqR r0) (v4 r r0 (by omega))
  · have t1 : t < c1 := t1
    have := v5 t t0 (by omega)
    unfold rn_vT at *
    rw [rn_tr_tw t0 (by omega), rn_tr_tw t0 (by omega), rn_tr_tw t0 (by omega), rn_tr_tw t0 (by omega), rn_tr_tw t0 (by omega)]
    exact this
  · have l1 : l < c2 := l1
    have := v6 l l0 (by omega)
    unfold rn_vL at *
    rw [rn_tr_lb l0 (by omega), rn_tr_lb l0 (by omega), rn_tr_eqR this.1.1 0 (by omega) (by omega), rn_tr_eqR this.1.1 5 (by omega) (by omega)]
    exact ⟨⟨this.1.1, show rn_lb N l 0 < c0 by omega⟩, this.2⟩
section CPY
variable {M : rn_M} {Q : rn_Q}
/-- a river's cells -/
def rn_PR (a x : Nat) : Prop := a ≤ x ∧ x < a + 5
theorem rs_Ri_copyFrom {a b : Nat} (hM : rn_sh M) (p : rn_isR a) (q : rn_isR b) (e : b + 5 ≤ a ∨ a + 5 ≤ b) (k : ∀ M', rn_ch (rn_PR a) M M' → (∀ N r, rn_vR N r → rn_Rv M b N r → rn_Rv M' a N r) → rn_gi M' a 0 = rn_gi M a 0 → Q none M') : rn_ME 58 [rn_R a, rn_R b] M Q := by
  refine re_Ri_copyFrom (rb_Ri_copyFrom_0 hM q p (k _ ?_ (fun N r v h => ?_) ?_))
  · refine ⟨rfl, fun _ _ => rfl, fun x hx => ?_⟩
    unfold rn_PR at hx
    rw [rn_cpy_gif (by omega), rn_cpy_gif (by omega), rn_cpy_gif (by omega), rn_cpy_gif (by omega), rn_si_gif (by omega), rn_si_gif (by omega), rn_si_gif (by omega), rn_si_gif (by omega)]
  · obtain ⟨h1, h2, h3, h4, h5, h6, h7⟩ := h
    have v0 := v.1
    have v5 := v.2.2.2.1
    refine ⟨?_, ?_, ?_, ?_, fun x x0 x1 => ?_, fun x x0 x1 => ?_, fun x x0 x1 => ⟨?_, ?_⟩⟩
    · rw [rn_cpy_gif (by omega), rn_cpy_gif (by omega), rn_cpy_gif (by omega), rn_cpy_gif (by omega), rn_si_ne (by omega), rn_si_ne (by omega), rn_si_ne (by omega), rn_si_eq]; exact h1
    · rw [rn_cpy_gif (by omega), rn_cpy_gif (by omega), rn_cpy_gif (by omega), rn_cpy_gif (by omega), rn_si_ne (by omega), rn_si_ne (by omega), rn_si_eq, rn_si_gif (by omega)]; exact h2
    · rw [rn_cpy_gif (by omega), rn_cpy_gif (by omega), rn_cpy_gif (by omega), rn_cpy_gif (by omega), rn_si_ne (by omega), rn_si_eq, rn_si_gif (by omega), rn_si_gif (by omega)]; exact h3
    · rw [rn_cpy_gif (by omega), rn_cpy_gif (by omega), rn_cpy_gif (by omega), rn_cpy_gif (by omega), rn_si_eq, rn_si_gif (by omega), rn_si_gif (by omega), rn_si_gif (by omega)]; exact h4
    · rw [rn_cpy_gif (by omega), rn_cpy_gif (by omega), rn_cpy_gif (by omega), rn_cpy_in (by omega), rn_si_gif (by omega), rn_si_gif (by omega), rn_si_gif (by omega), rn_si_gif (by omega), Nat.zero_add, Nat.sub_zero]; exact h5 x x0 x1
    · rw [rn_cpy_gif (by omega), rn_cpy_gif (by omega), rn_cpy_in (by omega), rn_cpy_gif (by omega), rn_si_gif (by omega), rn_si_gif (by omega), rn_si_gif (by omega), rn_si_gif (by omega), Nat.zero_add, Nat.sub_zero]; exact h6 x x0 x1
    · rw [rn_cpy_gif (by omega), rn_cpy_in (by omega), rn_cpy_gif (by omega), rn_cpy_gif (by omega), rn_si_gif (by omega), rn_si_gif (by omega), rn_si_gif (by omega), rn_si_gif (by omega), Nat.zero_add, Nat.sub_zero]; exact (h7 x x0 x1).1
    · rw [rn_cpy_in (by omega), rn_cpy_gif (by omega), rn_cpy_gif (by omega), rn_cpy_gif (by omega), rn_si_gif (by omega), rn_si_gif (by omega), rn_si_gif (by omega), rn_si_gif (by omega), Nat.zero_add, Nat.sub_zero]; exact (h7 x x0 x1).2
  · rw [rn_cpy_gif (by omega), rn_cpy_gif (by omega), rn_cpy_gif (by omega), rn_cpy_gif (by omega), rn_si_ne (by omega), rn_si_ne (by omega), rn_si_ne (by omega), rn_si_ne (by omega)]
theorem rs_forget {a : Nat} (hM : rn_sh M) (p : rn_isR a) (k : Q none (rn_si (rn_si M a 3 0) a 4 0)) : rn_ME 59 [rn_R a] M Q := re_Ri_forget (rb_Ri_forget_0 hM p k)
end CPY
