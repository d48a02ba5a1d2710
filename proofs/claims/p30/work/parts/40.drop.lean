/-! a label goes -/
def rn_dl (N : Nat → Int) (l : Int) : Nat → Int := fun k => if k = 2 then N 2 - 1 else if 522 + 2 * l ≤ (k : Int) ∧ (k : Int) < 522 + 2 * (N 2 - 1) then N (k + 2) else N k
section DRP
variable {M : rn_M} {Q : rn_Q} {b d : Nat} {N : Nat → Int} {l : Int}
theorem rn_dl_lo {k : Nat} (l0 : 0 ≤ l) (h : k < 522) (h2 : k ≠ 2) : rn_dl N l k = N k := by
  unfold rn_dl; rw [if_neg h2, if_neg (by omega)]
theorem rn_dl_2 : rn_dl N l 2 = N 2 - 1 := by unfold rn_dl; rw [if_pos rfl]
theorem rn_dl_eqR {i : Int} (l0 : 0 ≤ l) (i0 : 0 ≤ i) (i1 : i < 6) : rn_eqR N (rn_dl N l) i := fun w w0 w1 => by unfold rn_o; exact rn_dl_lo l0 (by omega) (by omega)
theorem rn_dl_tw {t w : Int} (l0 : 0 ≤ l) (t0 : 0 ≤ t) (t1 : t < 10) (w0 : 0 ≤ w) (w1 : w < 5) : rn_tw (rn_dl N l) t w = rn_tw N t w := by unfold rn_tw; exact rn_dl_lo l0 (by omega) (by omega)
theorem rn_dl_lt {j w : Int} (l0 : 0 ≤ l) (j0 : 0 ≤ j) (j1 : j < l) (w0 : 0 ≤ w) (w1 : w < 2) : rn_lb (rn_dl N l) j w = rn_lb N j w := by
  unfold rn_lb rn_dl; rw [if_neg (by omega), if_neg (by omega)]
theorem rn_dl_ge {j w : Int} (l0 : 0 ≤ l) (j0 : l ≤ j) (j1 : j < N 2 - 1) (w0 : 0 ≤ w) (w1 : w < 2) : rn_lb (rn_dl N l) j w = rn_lb N (j + 1) w := by
  unfold rn_lb rn_dl; rw [if_neg (by omega), if_pos (by omega)]; congr 1; omega
theorem rn_dl_vd (v : rn_vd N) (l0 : 0 ≤ l) (l1 : l < N 2) : rn_vd (rn_dl N l) := by
  obtain ⟨v0, v1, v2, v3, v4, v5, v6⟩ := v
  have e0 : rn_dl N l 0 = N 0 := rn_dl_lo l0 (by omega) (by omega)
  have e1 : rn_dl N l 1 = N 1 := rn_dl_lo l0 (by omega) (by omega)
  have e3 : rn_dl N l 3 = N 3 := rn_dl_lo l0 (by omega) (by omega)
  refine ⟨by omega, by omega, by rw [rn_dl_2]; omega, by omega, fun i i0 i1 => ?_, fun t t0 t1 => ?_, fun j j0 j1 => ?_⟩
  · exact rn_vR_cg (rn_dl_eqR l0 i0 (by omega)) (v4 i i0 (by omega))
  · have := v5 t t0 (by omega)
    unfold rn_vT at *
    rw [rn_dl_tw l0 t0 (by omega) (by omega) (by omega), rn_dl_tw l0 t0 (by omega) (by omega) (by omega), rn_dl_tw l0 t0 (by omega) (by omega) (by omega), rn_dl_tw l0 t0 (by omega) (by omega) (by omega), rn_dl_tw l0 t0 (by omega) (by omega) (by omega)]
    exact this
  · rw [rn_dl_2] at j1
    unfold rn_vL
    rcases Int.lt_or_le j l with c | c
    · have := v6 j j0 (by omega)
      unfold rn_vL at this
      have t1 := this.1.2
      rw [rn_dl_lt l0 j0 c (by omega) (by omega), rn_dl_lt l0 j0 c (by omega) (by omega), e0, rn_dl_eqR l0 this.1.1 (by omega) 0 (by omega) (by omega), rn_dl_eqR l0 this.1.1 (by omega) 5 (by omega) (by omega)]
      exact this
    · have := v6 (j + 1) (by omega) (by omega)
      unfold rn_vL at this
      have t1 := this.1.2
      rw [rn_dl_ge l0 c j1 (by omega) (by omega), rn_dl_ge l0 c j1 (by omega) (by omega), e0, rn_dl_eqR l0 this.1.1 (by omega) 0 (by omega) (by omega), rn_dl_eqR l0 this.1.1 (by omega) 5 (by omega) (by omega)]
      exact this
theorem rs_labelAt2 (hM : rn_sh M) (p : rn_isB b) (h : rn_Rp M b N) (v : rn_vd N) {l : Int} (k1 : ∀ q, 0 ≤ l → l < N 2 → rn_gr M (b + 3) l.toNat = some q → rn_Lb M b q N l → Q (some (rn_R q)) M) (k2 : ¬ (0 ≤ l ∧ l < N 2) → Q (some rn_N) M) : rn_ME 7 [rn_R b, rn_I l] M Q := by
  have e := h.1.2.2.1
  have w := v.2.2.1
  refine re_Bo_labelAt (rb_Bo_labelAt_0 hM p ?_ ?_ ?_ ?_) <;> rw [e]
  · omega
  · intro c
    obtain ⟨q, h1, h2⟩ := h.2.2.2.2 l c.1 (by omega)
    exact ⟨by omega, by omega, by unfold rn_go; rw [h1]; rfl⟩
  · intro c; exact k2 (by omega)
  · intro c
    obtain ⟨q, h1, h2⟩ := h.2.2.2.2 l c.1 (by omega)
    have := k1 q c.1 (by omega) h1 h2
    unfold rn_go; rw [h1]; exact this
theorem rs_dropLabel (hM : rn_sh M) (p : rn_isB d) (wd : rn_Bw M d) (v : rn_vd N) (hd : rn_Rp M d N) (k1 : 0 ≤ l → l < N 2 → ∀ M', rn_cb d M M' → rn_sh M' → rn_Bw M' d → rn_Rp M' d (rn_dl N l) → Q (some (rn_I 1)) M') (k2 : ¬ (0 ≤ l ∧ l < N 2) → Q (some (rn_I 0)) M) : rn_ME 11 [rn_R d, rn_I l] M Q := by
  have v0 := v.1
  have v1 := v.2.1
  have v2 := v.2.2.1
  have hd' := hd
  obtain ⟨⟨q0, q1, q2, q3⟩, p2, p3, p4, p5⟩ := hd
  obtain ⟨w1, π, w2, w3⟩ := wd
  have key : ∀ l : Nat, l < 20 → rn_isL (d + 44 + π l) := fun l hl => rn_isL_of p (w2 l hl).2
  have nB : ¬ rn_isL (d + 3) := by
    obtain ⟨j, h1, rfl⟩ := p
    rintro ⟨a, c, g1, g2, e⟩
    rcases Nat.lt_trichotomy a j with h | h | h <;> omega
  have sB : ∃ j, j < 7 ∧ d + 3 = 17 + 64 * j := by
    obtain ⟨j, h1, rfl⟩ := p
    exact ⟨j, h1, by omega⟩
  refine re_Bo_dropLabel (rb_Bo_dropLabel_0 hM p (rs_labelAt2 hM p hd' v (fun a l0 l1 hg ha => rb_Bo_dropLabel_5s ?_) (fun c => rb_Bo_dropLabel_5n (k2 c))))
  have ea : a = d + 44 + π l.toNat := by have := (w2 l.toNat (by omega)).1; rw [hg] at this; exact Option.some.inj this
  have loop : ∀ (m : Nat) (i : Int) (M1 : rn_M), i + m = N 2 - 1 → l ≤ i → M1.1 = M.1 → (∀ x, rn_gi M1 x = rn_gi M x) → (∀ x k, x ≠ d + 3 → rn_gr M1 x k = rn_gr M x k) → (∀ j : Nat, j < 20 → rn_gr M1 (d + 3) j = if l ≤ (j : Int) ∧ (j : Int) < i then rn_gr M (d + 3) (j + 1) else rn_gr M (d + 3) j) → rn_WP 11 14 [rn_R d, rn_I l, rn_R a, rn_I i] [] M1 Q := by
    intro m
    induction m with
    | zero =>
      intro i M1 hi li m1 mi mr mg
      have s1 : rn_sh M1 := rn_sh_rf (M := M) m1 (fun x k h _ _ _ => mr x k (fun e => by obtain ⟨j, j1, j2⟩ := sB; exact h j j1 (e.trans j2))) hM
      refine rb_Bo_dropLabel_14 s1 p ha.1 ?_ ?_ ?_ ?_ ?_ <;> rw [mi d, q2]
      · omega
      · intro c; omega
      · omega
      · intro c; omega
      · intro _
        have e0 : rn_dl N l 0 = N 0 := rn_dl_lo l0 (by omega) (by omega)
        have e1 : rn_dl N l 1 = N 1 := rn_dl_lo l0 (by omega) (by omega)
        have e3 : rn_dl N l 3 = N 3 := rn_dl_lo l0 (by omega) (by omega)
        have f : ∀ x, x ≠ d → rn_gi (rn_si (rn_sr M1 (d + 3) (N 2 - 1).toNat (some a)) d 2 (N 2 - 1)) x = rn_gi M x := fun x h => by rw [rn_si_gif (by omega), ← mi x]; rfl
        have fd : ∀ w, w ≠ 2 → rn_gi (rn_si (rn_sr M1 (d + 3) (N 2 - 1).toNat (some a)) d 2 (N 2 - 1)) d w = rn_gi M d w := fun w h => by rw [rn_si_ne (by omega), ← mi d]; rfl
        have fr : ∀ x k, x ≠ d + 3 → rn_gr (rn_si (rn_sr M1 (d + 3) (N 2 - 1).toNat (some a)) d 2 (N 2 - 1)) x k = rn_gr M x k := fun x k h => (rn_sr_ne (M := M1) (fun z => h z.1)).trans (mr x k h)
        have fl : rn_gr (rn_si (rn_sr M1 (d + 3) (N 2 - 1).toNat (some a)) d 2 (N 2 - 1)) (d + 3) (N 2 - 1).toNat = some a := rn_sr_eq (M := M1)
        have fg : ∀ j : Nat, j < 20 → j ≠ (N 2 - 1).toNat → rn_gr (rn_si (rn_sr M1 (d + 3) (N 2 - 1).toNat (some a)) d 2 (N 2 - 1)) (d + 3) j = if l ≤ (j : Int) ∧ (j : Int) < N 2 - 1 then rn_gr M (d + 3) (j + 1) else rn_gr M (d + 3) j := fun j hj h => by
          rw [show N 2 - 1 = i by omega] at h ⊢
          exact (rn_sr_ne (M := M1) (fun z => h z.2)).trans (mg j hj)
        have s2 : rn_sh (rn_si (rn_sr M1 (d + 3) (N 2 - 1).toNat (some a)) d 2 (N 2 - 1)) := rn_sh_rf (M := M) m1 (fun x k h _ _ _ => fr x k (fun e => by obtain ⟨j, j1, j2⟩ := sB; exact h j j1 (e.trans j2))) hM
        have g2 : rn_gi (rn_si (rn_sr M1 (d + 3) (N 2 - 1).toNat (some a)) d 2 (N 2 - 1)) d 2 = N 2 - 1 := rn_si_eq
        have mm : (rn_si (rn_sr M1 (d + 3) (N 2 - 1).toNat (some a)) d 2 (N 2 - 1)).1 = M.1 := m1
        generalize rn_si (rn_sr M1 (d + 3) (N 2 - 1).toNat (some a)) d 2 (N 2 - 1) = M2 at *
        refine k1 l0 l1 M2 ⟨mm, fun x hx => ⟨f x (by omega), fun k => fr x k (by omega)⟩⟩ s2 ?_ ?_
        · refine ⟨fun j hj => by rw [f _ (by omega)]; exact w1 j hj, fun j => if (j : Int) = N 2 - 1 then π l.toNat else if l ≤ (j : Int) ∧ (j : Int) < N 2 - 1 then π (j + 1) else π j, fun j hj => ?_, fun j j' hj hj' => ?_⟩
          · by_cases c : (j : Int) = N 2 - 1
            · simp only [if_pos c]
              rw [show j = (N 2 - 1).toNat by omega, fl, ea]
              exact ⟨rfl, (w2 _ (by omega)).2⟩
            · simp only [if_neg c]
              rw [fg j hj (by omega)]
              by_cases c2 : l ≤ (j : Int) ∧ (j : Int) < N 2 - 1
              · simp only [if_pos c2]; exact w2 (j + 1) (by omega)
              · simp only [if_neg c2]; exact w2 j hj
          · have inj := fun x y (hx : x < 20) (hy : y < 20) => w3 x y hx hy
            by_cases c : (j : Int) = N 2 - 1 <;> by_cases c' : (j' : Int) = N 2 - 1
            · intro _; omega
            · simp only [if_pos c, if_neg c']
              by_cases d2 : l ≤ (j' : Int) ∧ (j' : Int) < N 2 - 1
              · simp only [if_pos d2]; intro z; have := w3 _ _ (by omega) (by omega) z; omega
              · simp only [if_neg d2]; intro z; have := w3 _ _ (by omega) (by omega) z; omega
            · simp only [if_neg c, if_pos c']
              by_cases d2 : l ≤ (j : Int) ∧ (j : Int) < N 2 - 1
              · simp only [if_pos d2]; intro z; have := w3 _ _ (by omega) (by omega) z; omega
              · simp only [if_neg d2]; intro z; have := w3 _ _ (by omega) (by omega) z; omega
            · simp only [if_neg c, if_neg c']
              by_cases d1 : l ≤ (j : Int) ∧ (j : Int) < N 2 - 1 <;> by_cases d2 : l ≤ (j' : Int) ∧ (j' : Int) < N 2 - 1
              · simp only [if_pos d1, if_pos d2]; intro z; have := w3 _ _ (by omega) (by omega) z; omega
              · simp only [if_pos d1, if_neg d2]; intro z; have := w3 _ _ (by omega) (by omega) z; omega
              · simp only [if_neg d1, if_pos d2]; intro z; have := w3 _ _ (by omega) (by omega) z; omega
              · simp only [if_neg d1, if_neg d2]; intro z; have := w3 _ _ (by omega) (by omega) z; omega
        · refine ⟨⟨?_, ?_, ?_, ?_⟩, fun r r0 r1 => ?_, fun i i0 i1 => ?_, fun t t0 t1 => ?_, fun j j0 j1 => ?_⟩
          · rw [fd 0 (by omega), e0]; exact q0
          · rw [fd 1 (by omega), e1]; exact q1
          · rw [g2, rn_dl_2]
          · rw [fd 3 (by omega), e3]; exact q3
          · rw [f _ (by omega)]; exact p2 r r0 r1
          · rw [e0] at i1
            refine rn_Rv_cg (rn_dl_eqR l0 i0 (by omega)) (v.2.2.2.2.1 i i0 i1) ?_
            exact rn_Rv_eq (f _ (by omega)) (f _ (by omega)) (f _ (by omega)) (f _ (by omega)) (f _ (by omega)) (p3 i i0 i1)
          · rw [e1] at t1
            have := p4 t t0 t1
            unfold rn_Tw at *
            rw [rn_dl_tw l0 t0 (by omega) (by omega) (by omega), rn_dl_tw l0 t0 (by omega) (by omega) (by omega), rn_dl_tw l0 t0 (by omega) (by omega) (by omega), rn_dl_tw l0 t0 (by omega) (by omega) (by omega), rn_dl_tw l0 t0 (by omega) (by omega) (by omega), f _ (by omega)]
            exact this
          · rw [rn_dl_2] at j1
            rcases Int.lt_or_le j l with c | c
            · obtain ⟨q, z1, z2, z3, z4⟩ := p5 j j0 (by omega)
              have hl := w2 j.toNat (by omega)
              have eq : q = d + 44 + π j.toNat := by rw [z1] at hl; exact Option.some.inj hl.1
              refine ⟨q, ?_, z2, ?_, ?_⟩
              · rw [fg _ (by omega) (by omega), if_neg (by omega)]; exact z1
              · rw [fr _ _ (by omega), rn_dl_lt l0 j0 c (by omega) (by omega)]; exact z3
              · rw [f _ (by omega), rn_dl_lt l0 j0 c (by omega) (by omega)]; exact z4
            · obtain ⟨q, z1, z2, z3, z4⟩ := p5 (j + 1) (by omega) (by omega)
              have hl := w2 (j + 1).toNat (by omega)
              have eq : q = d + 44 + π (j + 1).toNat := by rw [z1] at hl; exact Option.some.inj hl.1
              refine ⟨q, ?_, z2, ?_, ?_⟩
              · rw [fg _ (by omega) (by omega), if_pos (by omega), show j.toNat + 1 = (j + 1).toNat by omega]; exact z1
              · rw [fr _ _ (by omega), rn_dl_ge l0 c j1 (by omega) (by omega)]; exact z3
              · rw [f _ (by omega), rn_dl_ge l0 c j1 (by omega) (by omega)]; exact z4
    | succ m ih =>
      intro i M1 hi li m1 mi mr mg
      have s1 : rn_sh M1 := rn_sh_rf (M := M) m1 (fun x k h _ _ _ => mr x k (fun e => by obtain ⟨j, j1, j2⟩ := sB; exact h j j1 (e.trans j2))) hM
      have g1 : rn_gr M1 (d + 3) (i + 1).toNat = some (d + 44 + π (i + 1).toNat) := by
        rw [mg _ (by omega), if_neg (by omega)]; exact (w2 _ (by omega)).1
      have go : rn_go M1 (d + 3) (i + 1).toNat = d + 44 + π (i + 1).toNat := by unfold rn_go; rw [g1]; rfl
      refine rb_Bo_dropLabel_14 s1 p ha.1 ?_ ?_ ?_ ?_ ?_ <;> rw [mi d, q2]
      · omega
      · intro _
        rw [go]
        exact ⟨by omega, by omega, by omega, by omega, g1, key _ (by omega), by omega, by omega⟩
      · omega
      · intro _
        rw [go]
        refine ih (i + 1) _ (by omega) (by omega) m1 mi (fun x k h => (rn_sr_ne (M := M1) (fun z => h z.1)).trans (mr x k h)) (fun j hj => ?_)
        by_cases e : j = i.toNat
        · rw [e, rn_sr_eq, if_pos (by omega), show i.toNat + 1 = (i + 1).toNat by omega]
          exact (w2 _ (by omega)).1.symm
        · rw [rn_sr_ne (fun z => e z.2), mg j hj]
          by_cases c : l ≤ (j : Int) ∧ (j : Int) < i
          · rw [if_pos c, if_pos (by omega)]
          · rw [if_neg c, if_neg (by omega)]
      · intro c; omega
  exact loop (N 2 - 1 - l).toNat l M (by omega) (Int.le_refl _) rfl (fun _ => rfl) (fun _ _ _ => rfl) (fun j hj => by rw [if_neg (by omega)])
end DRP
