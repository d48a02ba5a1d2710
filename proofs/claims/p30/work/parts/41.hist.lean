/-! the history -/
def rn_Hs (M : rn_M) (pr dr : Nat) (kp : Nat → Nat) : Prop := (rn_gr M 12 2 = some pr ∧ rn_gr M 12 3 = some dr ∧ ∀ i, i < 5 → rn_gr M 13 i = some (kp i)) ∧
  ((rn_isB pr ∧ rn_Bw M pr) ∧ (rn_isB dr ∧ rn_Bw M dr) ∧ ∀ i, i < 5 → rn_isB (kp i) ∧ rn_Bw M (kp i)) ∧
  pr ≠ dr ∧ (∀ i, i < 5 → kp i ≠ pr ∧ kp i ≠ dr) ∧ ∀ i j, i < 5 → j < 5 → kp i = kp j → i = j
/-- the boards' cells are the same -/
def rn_fb (M M' : rn_M) : Prop := M'.1 = M.1 ∧ ∀ x, 14 ≤ x → x < 462 → rn_gi M' x = rn_gi M x ∧ ∀ k, rn_gr M' x k = rn_gr M x k
theorem rn_Bw_fb {M M' : rn_M} {b : Nat} (c : rn_fb M M') (p : rn_isB b) (h : rn_Bw M b) : rn_Bw M' b := by
  have := rn_bdB p
  exact rn_Bw_eq (fun i hi => by rw [(c.2 _ (by omega) (by omega)).1]) (fun k => (c.2 _ (by omega) (by omega)).2 k) h
theorem rn_Rp_fb {M M' : rn_M} {b : Nat} {N : Nat → Int} (c : rn_fb M M') (p : rn_isB b) (v : rn_vd N) (h : rn_Rp M b N) : rn_Rp M' b N := by
  have := rn_bdB p
  have v0 := v.1
  have v1 := v.2.1
  obtain ⟨p1, p2, p3, p4, p5⟩ := h
  refine ⟨?_, fun r r0 r1 => ?_, fun r r0 r1 => ?_, fun t t0 t1 => ?_, fun l l0 l1 => ?_⟩
  · rw [(c.2 b (by omega) (by omega)).1]; exact p1
  · rw [(c.2 _ (by omega) (by omega)).1]; exact p2 r r0 r1
  · exact rn_Rv_eq (c.2 _ (by omega) (by omega)).1 (c.2 _ (by omega) (by omega)).1 (c.2 _ (by omega) (by omega)).1 (c.2 _ (by omega) (by omega)).1 (c.2 _ (by omega) (by omega)).1 (p3 r r0 r1)
  · have := p4 t t0 t1
    unfold rn_Tw at *
    rw [(c.2 _ (by omega) (by omega)).1]; exact this
  · obtain ⟨q, q1, q2, q3, q4⟩ := p5 l l0 l1
    have := rn_bdL q2
    refine ⟨q, by rw [(c.2 _ (by omega) (by omega)).2]; exact q1, q2, by rw [(c.2 _ (by omega) (by omega)).2]; exact q3, by rw [(c.2 _ (by omega) (by omega)).1]; exact q4⟩
/-- only the history's own cells differ -/
def rn_fh (M M' : rn_M) : Prop := M'.1 = M.1 ∧ (∀ x, x ≠ 12 → rn_gi M' x = rn_gi M x) ∧ ∀ x k, x ≠ 12 → x ≠ 13 → rn_gr M' x k = rn_gr M x k
theorem rn_fh_fb {M M' : rn_M} (h : rn_fh M M') : rn_fb M M' := ⟨h.1, fun x h1 _ => ⟨h.2.1 x (by omega), fun k => h.2.2 x k (by omega) (by omega)⟩⟩
theorem rn_fh_tr {M M1 M2 : rn_M} (h : rn_fh M M1) (g : rn_fh M1 M2) : rn_fh M M2 :=
  ⟨g.1.trans h.1, fun x hx => (g.2.1 x hx).trans (h.2.1 x hx), fun x k hx hy => (g.2.2 x k hx hy).trans (h.2.2 x k hx hy)⟩
section HIS
variable {M : rn_M} {Q : rn_Q} {pr dr : Nat} {kp : Nat → Nat} {N : Nat → Int}
theorem rn_goe {M : rn_M} {a k g : Nat} (h : rn_gr M a k = some g) : rn_go M a k = g := by unfold rn_go; rw [h]; rfl
theorem rn_Hs_cb {M' : rn_M} (h : rn_Hs M pr dr kp) (c : rn_cb dr M M') (w : rn_Bw M' dr) : rn_Hs M' pr dr kp := by
  obtain ⟨⟨h1, h2, h3⟩, ⟨b1, b2, b3⟩, d1, d2, d3⟩ := h
  have := rn_bdB b2.1
  refine ⟨⟨?_, ?_, fun i hi => ?_⟩, ⟨⟨b1.1, rn_Bw_cb b1.1 b2.1 d1 c b1.2⟩, ⟨b2.1, w⟩, fun i hi => ⟨(b3 i hi).1, rn_Bw_cb (b3 i hi).1 b2.1 (d2 i hi).2 c (b3 i hi).2⟩⟩, d1, d2, d3⟩
  · rw [(c.2 12 (by omega)).2]; exact h1
  · rw [(c.2 12 (by omega)).2]; exact h2
  · rw [(c.2 13 (by omega)).2]; exact h3 i hi
theorem rs_present (hM : rn_sh M) (h : rn_Hs M pr dr kp) (k : Q (some (rn_R pr)) M) : rn_ME 20 [rn_R 12] M Q := by
  have e := rn_goe h.1.1
  refine re_Hi_present (rb_Hi_present_0 hM ?_ ?_) <;> rw [e]
  · exact h.1.1
  · exact k
theorem rs_newDraft (hM : rn_sh M) (h : rn_Hs M pr dr kp) (v : rn_vd N) (hp : rn_Rp M pr N) (k : ∀ M', rn_cb dr M M' → rn_sh M' → rn_Hs M' pr dr kp → rn_Rp M' dr N → Q (some (rn_R dr)) M') : rn_ME 21 [rn_R 12] M Q := by
  have e1 := rn_goe h.1.1
  have e2 := rn_goe h.1.2.1
  have hB := h.2.1
  refine re_Hi_newDraft (rb_Hi_newDraft_0 hM ?_ ?_) <;> rw [e1, e2]
  · exact ⟨h.1.2.1, h.1.1, hB.2.1.1⟩
  · refine rs_copyFrom hM hB.2.1.1 hB.1.1 h.2.2.1 hB.1.2 hB.2.1.2 v hp (fun M1 c1 s1 w1 r1 => ?_)
    have h1 := rn_Hs_cb h c1 w1
    have e3 := rn_goe h1.1.2.1
    refine rb_Hi_newDraft_11 s1 ?_ ?_ <;> rw [e3]
    · exact h1.1.2.1
    · exact k M1 c1 s1 h1 r1
theorem rn_sh_fh {M' : rn_M} (h : rn_fh M M') (h2 : ∀ k, k ≠ 2 → k ≠ 3 → rn_gr M' 12 k = rn_gr M 12 k) (hM : rn_sh M) : rn_sh M' := by
  refine rn_sh_rf h.1 (fun a k _ _ h13 h12 => ?_) hM
  by_cases e : a = 12
  · subst e; exact h2 k (fun z => h12 ⟨rfl, Or.inl z⟩) (fun z => h12 ⟨rfl, Or.inr z⟩)
  · exact h.2.2 a k e h13
theorem rs_dropOldest (hM : rn_sh M) (h : ∀ i, i < 5 → rn_gr M 13 i = some (kp i) ∧ rn_isB (kp i)) (k : ∀ M', rn_fh M M' → (∀ k, rn_gr M' 12 k = rn_gr M 12 k) → (∀ i, i < 5 → rn_gr M' 13 i = some (if i = 4 then kp 0 else kp (i + 1))) → rn_gi M' 12 0 = 4 → Q none M') : rn_ME 23 [rn_R 12] M Q := by
  have h0 := h 0 (by omega)
  have e0 := rn_goe h0.1
  refine re_Hi_dropOldest (rb_Hi_dropOldest_0 hM ?_ ?_) <;> rw [e0]
  · exact h0.1
  have loop : ∀ (m : Nat) (i : Int) (M1 : rn_M), i + m = 5 → 1 ≤ i → M1.1 = M.1 → (∀ x, rn_gi M1 x = rn_gi M x) → (∀ x k, x ≠ 13 → rn_gr M1 x k = rn_gr M x k) → (∀ j : Nat, j < 5 → rn_gr M1 13 j = some (if (j : Int) < i - 1 then kp (j + 1) else kp j)) → rn_WP 23 9 [rn_R 12, rn_R (kp 0), rn_I i] [] M1 Q := by
    intro m
    induction m with
    | zero =>
      intro i M1 hi li m1 mi mr mg
      have s1 : rn_sh M1 := rn_sh_rf (M := M) m1 (fun x k _ _ h _ => mr x k h) hM
      refine rb_Hi_dropOldest_9 s1 h0.2 ?_ ?_ ?_
      · omega
      · intro c; omega
      · intro _
        refine k _ ⟨m1, fun x hx => ?_, fun x k _ hx => ?_⟩ (fun k => ?_) (fun j hj => ?_) rn_si_eq
        · rw [rn_si_gif (by omega)]; exact mi x
        · exact (rn_sr_ne (M := M1) (fun z => hx z.1)).trans (mr x k hx)
        · show rn_gr (rn_sr M1 13 4 (some (kp 0))) 12 k = _
          rw [rn_sr_ne (by omega)]; exact mr 12 k (by omega)
        · by_cases e : j = 4
          · subst e; rw [if_pos rfl]
            show rn_gr (rn_sr M1 13 4 (some (kp 0))) 13 4 = _
            exact rn_sr_eq
          · rw [if_neg e]
            show rn_gr (rn_sr M1 13 4 (some (kp 0))) 13 j = _
            rw [rn_sr_ne (fun z => e z.2), mg j hj, if_pos (by omega)]
    | succ m ih =>
      intro i M1 hi li m1 mi mr mg
      have s1 : rn_sh M1 := rn_sh_rf (M := M) m1 (fun x k _ _ h _ => mr x k h) hM
      have g1 : rn_gr M1 13 i.toNat = some (kp i.toNat) := by rw [mg _ (by omega), if_neg (by omega)]
      have go := rn_goe g1
      refine rb_Hi_dropOldest_9 s1 h0.2 ?_ ?_ ?_ <;> (try rw [go])
      · intro _; exact ⟨by omega, by omega, by omega, by omega, g1, (h _ (by omega)).2, by omega, by omega, by omega, by omega⟩
      · intro _
        refine ih (i + 1) _ (by omega) (by omega) m1 mi (fun x k h => (rn_sr_ne (M := M1) (fun z => h z.1)).trans (mr x k h)) (fun j hj => ?_)
        by_cases e : j = (i - 1).toNat
        · rw [e, rn_sr_eq, if_pos (by omega), show (i - 1).toNat + 1 = i.toNat by omega]
        · rw [rn_sr_ne (fun z => e z.2), mg j hj]
          by_cases c : (j : Int) < i - 1
          · rw [if_pos c, if_pos (by omega)]
          · rw [if_neg c, if_neg (by omega)]
      · intro c; omega
  exact loop 4 1 M (by omega) (by omega) rfl (fun _ => rfl) (fun _ _ _ => rfl) (fun j hj => by rw [if_neg (by omega)]; exact (h j hj).1)
theorem rn_Hs_ent (h : rn_Hs M pr dr kp) {n : Nat} (hn : n < 5) (M' : rn_M) (c : rn_fh M M') (g1 : rn_gr M' 12 2 = some dr) (g2 : rn_gr M' 12 3 = some (kp n)) (g3 : ∀ i, i < 5 → rn_gr M' 13 i = some (if i = n then pr else kp i)) : rn_Hs M' dr (kp n) (fun i => if i = n then pr else kp i) := by
  obtain ⟨⟨h1, h2, h3⟩, ⟨b1, b2, b3⟩, d1, d2, d3⟩ := h
  have fb := rn_fh_fb c
  refine ⟨⟨g1, g2, g3⟩, ⟨⟨b2.1, rn_Bw_fb fb b2.1 b2.2⟩, ⟨(b3 n hn).1, rn_Bw_fb fb (b3 n hn).1 (b3 n hn).2⟩, fun i hi => ?_⟩, fun e => (d2 n hn).2 e.symm, fun i hi => ?_, fun i j hi hj => ?_⟩
  · by_cases e : i = n
    · simp only [if_pos e]; exact ⟨b1.1, rn_Bw_fb fb b1.1 b1.2⟩
    · simp only [if_neg e]; exact ⟨(b3 i hi).1, rn_Bw_fb fb (b3 i hi).1 (b3 i hi).2⟩
  · by_cases e : i = n
    · simp only [if_pos e]; exact ⟨d1, fun z => (d2 n hn).1 z.symm⟩
    · simp only [if_neg e]; exact ⟨(d2 i hi).2, fun z => e (d3 i n hi hn z)⟩
  · by_cases e : i = n <;> by_cases e' : j = n
    · intro _; omega
    · simp only [if_pos e, if_neg e']; intro z; exact absurd z.symm (d2 j hj).1
    · simp only [if_neg e, if_pos e']; intro z; exact absurd z (d2 i hi).1
    · simp only [if_neg e, if_neg e']; exact d3 i j hi hj
theorem rn_ent_mem (hM : rn_sh M) (h : rn_Hs M pr dr kp) {n : Int} (n0 : 0 ≤ n) (n1 : n ≤ 4) : rn_fh M (rn_si (rn_sr (rn_sr (rn_sr M 13 n.toNat (some pr)) 12 2 (some dr)) 12 3 (some (kp n.toNat))) 12 0 (n + 1)) ∧ rn_sh (rn_si (rn_sr (rn_sr (rn_sr M 13 n.toNat (some pr)) 12 2 (some dr)) 12 3 (some (kp n.toNat))) 12 0 (n + 1)) ∧ rn_Hs (rn_si (rn_sr (rn_sr (rn_sr M 13 n.toNat (some pr)) 12 2 (some dr)) 12 3 (some (kp n.toNat))) 12 0 (n + 1)) dr (kp n.toNat) (fun i => if i = n.toNat then pr else kp i) ∧ rn_gi (rn_si (rn_sr (rn_sr (rn_sr M 13 n.toNat (some pr)) 12 2 (some dr)) 12 3 (some (kp n.toNat))) 12 0 (n + 1)) 12 0 = n + 1 := by
  have fh : rn_fh M (rn_si (rn_sr (rn_sr (rn_sr M 13 n.toNat (some pr)) 12 2 (some dr)) 12 3 (some (kp n.toNat))) 12 0 (n + 1)) := by
    refine ⟨rfl, fun x hx => ?_, fun x k h1 h2 => ?_⟩
    · rw [rn_si_gif (by omega)]; rfl
    · rw [rn_si_gr, rn_sr_ne (by omega), rn_sr_ne (by omega), rn_sr_ne (by omega)]
  refine ⟨fh, rn_sh_fh fh (fun k h1 h2 => ?_) hM, rn_Hs_ent h (by omega) _ fh ?_ ?_ (fun i hi => ?_), rn_si_eq⟩
  · rw [rn_si_gr, rn_sr_ne (by omega), rn_sr_ne (by omega), rn_sr_ne (by omega)]
  · rw [rn_si_gr, rn_sr_ne (by omega), rn_sr_eq]
  · rw [rn_si_gr, rn_sr_eq]
  · rw [rn_si_gr, rn_sr_ne (by omega), rn_sr_ne (by omega)]
    by_cases e : i = n.toNat
    · rw [if_pos e, e, rn_sr_eq]
    · rw [if_neg e, rn_sr_ne (fun z => e z.2)]; exact h.1.2.2 i hi
theorem rs_enterDraft (hM : rn_sh M) (h : rn_Hs M pr dr kp) {n : Int} (hn : rn_gi M 12 0 = n) (n0 : 0 ≤ n ∧ n ≤ 5) (k : ∀ M' dr' kp', rn_fh M M' → rn_sh M' → rn_Hs M' dr dr' kp' → rn_gi M' 12 0 = min (n + 1) 5 → kp' (min n 4).toNat = pr → (∀ i : Nat, (i : Int) < min n 4 → kp' i = kp (if n = 5 then i + 1 else i)) → Q none M') : rn_ME 22 [rn_R 12] M Q := by
  refine re_Hi_enterDraft (rb_Hi_enterDraft_0 hM ?_ ?_ ?_ ?_) <;> rw [hn]
  · intro c _
    have g := h.1.2.2 n.toNat (by omega)
    rw [rn_goe g, rn_goe h.1.1, rn_goe (M := rn_sr M 13 n.toNat (some pr)) (a := 12) (k := 3) (g := dr) (by rw [rn_sr_ne (by omega)]; exact h.1.2.1)]
    exact ⟨by omega, by omega, g, h.1.1, h.2.1.1.1, by rw [rn_sr_ne (by omega)]; exact h.1.2.1, by omega, by omega⟩
  · intro c c2; omega
  · intro c c2
    have g := h.1.2.2 n.toNat (by omega)
    rw [rn_goe g, rn_goe h.1.1, rn_goe (M := rn_sr M 13 n.toNat (some pr)) (a := 12) (k := 3) (g := dr) (by rw [rn_sr_ne (by omega)]; exact h.1.2.1)]
    obtain ⟨a1, a2, a3, a4⟩ := rn_ent_mem hM h (n := n) (by omega) (by omega)
    refine k _ _ _ a1 a2 a3 (by rw [a4]; omega) ?_ (fun i hi => ?_)
    · exact if_pos (show (min n 4).toNat = n.toNat by omega)
    · simp only [if_neg (show ¬ i = n.toNat by omega), if_neg (show ¬ n = 5 by omega)]
  · intro c
    refine rs_dropOldest hM (fun i hi => ⟨h.1.2.2 i hi, (h.2.1.2.2 i hi).1⟩) (fun M1 f1 r1 q1 z1 => ?_)
    have s1 : rn_sh M1 := rn_sh_fh f1 (fun k _ _ => r1 k) hM
    have fb := rn_fh_fb f1
    have h1 : rn_Hs M1 pr dr (fun i => if i = 4 then kp 0 else kp (i + 1)) := by
      obtain ⟨⟨h1, h2, h3⟩, ⟨b1, b2, b3⟩, d1, d2, d3⟩ := h
      refine ⟨⟨(r1 2).trans h1, (r1 3).trans h2, q1⟩, ⟨⟨b1.1, rn_Bw_fb fb b1.1 b1.2⟩, ⟨b2.1, rn_Bw_fb fb b2.1 b2.2⟩, fun i hi => ?_⟩, d1, fun i hi => ?_, fun i j hi hj => ?_⟩
      · by_cases e : i = 4
        · simp only [if_pos e]; exact ⟨(b3 0 (by omega)).1, rn_Bw_fb fb (b3 0 (by omega)).1 (b3 0 (by omega)).2⟩
        · simp only [if_neg e]; exact ⟨(b3 (i + 1) (by omega)).1, rn_Bw_fb fb (b3 (i + 1) (by omega)).1 (b3 (i + 1) (by omega)).2⟩
      · by_cases e : i = 4
        · simp only [if_pos e]; exact d2 0 (by omega)
        · simp only [if_neg e]; exact d2 (i + 1) (by omega)
      · by_cases e : i = 4 <;> by_cases e' : j = 4
        · intro _; omega
        · simp only [if_pos e, if_neg e']; intro z; have := d3 _ _ (by omega) (by omega) z; omega
        · simp only [if_neg e, if_pos e']; intro z; have := d3 _ _ (by omega) (by omega) z; omega
        · simp only [if_neg e, if_neg e']; intro z; have := d3 _ _ (by omega) (by omega) z; omega
    have g := h1.1.2.2 4 (by omega)
    obtain ⟨a1, a2, a3, a4⟩ := rn_ent_mem s1 h1 (n := 4) (by omega) (by omega)
    refine rb_Hi_enterDraft_12 s1 ?_ ?_ ?_ <;> rw [z1]
    · intro _
      rw [show (4 : Int).toNat = 4 from rfl, rn_goe g, rn_goe h1.1.1, rn_goe (M := rn_sr M1 13 4 (some pr)) (a := 12) (k := 3) (g := dr) (by rw [rn_sr_ne (by omega)]; exact h1.1.2.1)]
      exact ⟨by omega, by omega, g, h1.1.1, h1.2.1.1.1, by rw [rn_sr_ne (by omega)]; exact h1.1.2.1, by omega, by omega⟩
    · intro c2; omega
    · intro _
      rw [show (4 : Int).toNat = 4 from rfl, rn_goe g, rn_goe h1.1.1, rn_goe (M := rn_sr M1 13 4 (some pr)) (a := 12) (k := 3) (g := dr) (by rw [rn_sr_ne (by omega)]; exact h1.1.2.1)]
      refine k _ _ _ (rn_fh_tr f1 a1) a2 a3 (by rw [show (min (n + 1) 5 : Int) = 4 + 1 by omega]; exact a4) ?_ (fun i hi => ?_)
      · exact if_pos (show (min n 4).toNat = (4 : Int).toNat by omega)
      · simp only [if_neg (show ¬ i = (4 : Int).toNat by omega), if_neg (show ¬ i = 4 by omega), if_pos (show n = 5 by omega)]
theorem rs_stepBack (hM : rn_sh M) (h : rn_Hs M pr dr kp) {n : Int} (hn : rn_gi M 12 0 = n) (n0 : 0 ≤ n ∧ n ≤ 5) (k1 : 1 ≤ n → ∀ M' kp', rn_fh M M' → rn_sh M' → rn_Hs M' (kp (n - 1).toNat) dr kp' → rn_gi M' 12 0 = n - 1 → (∀ i : Nat, (i : Int) < n - 1 → kp' i = kp i) → Q (some (rn_I (n - 1))) M') (k2 : n = 0 → Q (some (rn_I (-2))) M) : rn_ME 24 [rn_R 12] M Q := by
  refine re_Hi_stepBack (rb_Hi_stepBack_0 hM ?_ ?_ ?_) <;> rw [hn]
  · intro c
    have g := h.1.2.2 (n - 1).toNat (by omega)
    rw [rn_goe g, rn_goe h.1.1]
    exact ⟨by omega, by omega, by omega, by omega, g, h.1.1, h.2.1.1.1⟩
  · intro c; exact k2 (by omega)
  · intro c
    have g := h.1.2.2 (n - 1).toNat (by omega)
    rw [rn_goe g, rn_goe h.1.1]
    have fh : rn_fh M (rn_si (rn_sr (rn_sr M 13 (n - 1).toNat (some pr)) 12 2 (some (kp (n - 1).toNat))) 12 0 (n - 1)) := by
      refine ⟨rfl, fun x hx => ?_, fun x k h1 h2 => ?_⟩
      · rw [rn_si_gif (by omega)]; rfl
      · rw [rn_si_gr, rn_sr_ne (by omega), rn_sr_ne (by omega)]
    have fb := rn_fh_fb fh
    refine k1 (by omega) _ (fun i => if i = (n - 1).toNat then pr else kp i) fh (rn_sh_fh fh (fun k h1 h2 => ?_) hM) ?_ rn_si_eq (fun i hi => by simp only [if_neg (show ¬ i = (n - 1).toNat by omega)])
    · rw [rn_si_gr, rn_sr_ne (by omega), rn_sr_ne (by omega)]
    · obtain ⟨⟨h1, h2, h3⟩, ⟨b1, b2, b3⟩, d1, d2, d3⟩ := h
      have hk : (n - 1).toNat < 5 := by omega
      refine ⟨⟨?_, ?_, fun i hi => ?_⟩, ⟨⟨(b3 _ hk).1, rn_Bw_fb fb (b3 _ hk).1 (b3 _ hk).2⟩, ⟨b2.1, rn_Bw_fb fb b2.1 b2.2⟩, fun i hi => ?_⟩, (d2 _ hk).2, fun i hi => ?_, fun i j hi hj => ?_⟩
      · rw [rn_si_gr, rn_sr_eq]
      · rw [rn_si_gr, rn_sr_ne (by omega), rn_sr_ne (by omega)]; exact h2
      · rw [rn_si_gr, rn_sr_ne (by omega)]
        by_cases e : i = (n - 1).toNat
        · simp only [if_pos e]; rw [e, rn_sr_eq]
        · simp only [if_neg e]; rw [rn_sr_ne (fun z => e z.2)]; exact h3 i hi
      · by_cases e : i = (n - 1).toNat
        · simp only [if_pos e]; exact ⟨b1.1, rn_Bw_fb fb b1.1 b1.2⟩
        · simp only [if_neg e]; exact ⟨(b3 i hi).1, rn_Bw_fb fb (b3 i hi).1 (b3 i hi).2⟩
      · by_cases e : i = (n - 1).toNat
        · simp only [if_pos e]; exact ⟨fun z => (d2 _ hk).1 z.symm, d1⟩
        · simp only [if_neg e]; exact ⟨fun z => e (d3 _ _ hi hk z), (d2 i hi).2⟩
      · by_cases e : i = (n - 1).toNat <;> by_cases e' : j = (n - 1).toNat
        · intro _; omega
        · simp only [if_pos e, if_neg e']; intro z; exact absurd z.symm (d2 j hj).1
        · simp only [if_neg e, if_pos e']; intro z; exact absurd z (d2 i hi).1
        · simp only [if_neg e, if_neg e']; exact d3 i j hi hj
end HIS
