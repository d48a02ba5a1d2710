/-! a board that represents a row; what is read off it -/
def rn_Tw (M : rn_M) (a : Nat) (N : Nat → Int) (t : Int) : Prop := rn_gi M a 0 = rn_tw N t 0 ∧ rn_gi M a 1 = rn_tw N t 1 ∧ rn_gi M a 2 = rn_tw N t 2 ∧ rn_gi M a 3 = rn_tw N t 3 ∧ rn_gi M a 4 = rn_tw N t 4
/-- the object q is the label l of N, on the board b -/
def rn_Lb (M : rn_M) (b q : Nat) (N : Nat → Int) (l : Int) : Prop := rn_isL q ∧ rn_gr M q 0 = some (b + 4 + 5 * (rn_lb N l 0).toNat) ∧ rn_gi M q 1 = rn_lb N l 1
def rn_Rp (M : rn_M) (b : Nat) (N : Nat → Int) : Prop := (rn_gi M b 0 = N 0 ∧ rn_gi M b 1 = N 1 ∧ rn_gi M b 2 = N 2 ∧ rn_gi M b 3 = N 3) ∧
  (∀ r : Int, 0 ≤ r → r < 6 → rn_gi M (b + 4 + 5 * r.toNat) 0 = r) ∧ (∀ r : Int, 0 ≤ r → r < N 0 → rn_Rv M (b + 4 + 5 * r.toNat) N r) ∧
  (∀ t : Int, 0 ≤ t → t < N 1 → rn_Tw M (b + 34 + t.toNat) N t) ∧
  ∀ l : Int, 0 ≤ l → l < N 2 → ∃ q, rn_gr M (b + 3) l.toNat = some q ∧ rn_Lb M b q N l
theorem rn_Lb_go {M : rn_M} {b q : Nat} {N : Nat → Int} {l : Int} (h : rn_Lb M b q N l) : rn_go M q 0 = b + 4 + 5 * (rn_lb N l 0).toNat := by
  unfold rn_go; rw [h.2.1]; rfl
theorem rn_isR_i {b : Nat} {N : Nat → Int} (p : rn_isB b) (v : rn_vd N) {r : Int} (h0 : 0 ≤ r) (h1 : r < N 0) : rn_isR (b + 4 + 5 * r.toNat) := rn_isR_of p (by have := v.1; omega)
section BRD
variable {M : rn_M} {Q : rn_Q} {b : Nat} {N : Nat → Int}
theorem rs_riverAt (hM : rn_sh M) (p : rn_isB b) (h : rn_Rp M b N) (v : rn_vd N) {r : Int} (k1 : 0 ≤ r → r < N 0 → Q (some (rn_R (b + 4 + 5 * r.toNat))) M) (k2 : ¬ (0 ≤ r ∧ r < N 0) → Q (some rn_N) M) : rn_ME 5 [rn_R b, rn_I r] M Q := by
  have e := h.1.1
  have w := v.1
  refine re_Bo_riverAt (rb_Bo_riverAt_0 hM p ?_ ?_ ?_ ?_) <;> rw [e]
  · omega
  · intro c; omega
  · intro c; exact k2 (by omega)
  · intro c; exact k1 (by omega) (by omega)
theorem rs_townAt (hM : rn_sh M) (p : rn_isB b) (h : rn_Rp M b N) (v : rn_vd N) {t : Int} (k1 : 0 ≤ t → t < N 1 → Q (some (rn_R (b + 34 + t.toNat))) M) (k2 : ¬ (0 ≤ t ∧ t < N 1) → Q (some rn_N) M) : rn_ME 6 [rn_R b, rn_I t] M Q := by
  have e := h.1.2.1
  have w := v.2.1
  refine re_Bo_townAt (rb_Bo_townAt_0 hM p ?_ ?_ ?_ ?_) <;> rw [e]
  · omega
  · intro c; omega
  · intro c; exact k2 (by omega)
  · intro c; exact k1 (by omega) (by omega)
theorem rs_labelAt (hM : rn_sh M) (p : rn_isB b) (h : rn_Rp M b N) (v : rn_vd N) {l : Int} (k1 : ∀ q, 0 ≤ l → l < N 2 → rn_Lb M b q N l → Q (some (rn_R q)) M) (k2 : ¬ (0 ≤ l ∧ l < N 2) → Q (some rn_N) M) : rn_ME 7 [rn_R b, rn_I l] M Q := by
  have e := h.1.2.2.1
  have w := v.2.2.1
  refine re_Bo_labelAt (rb_Bo_labelAt_0 hM p ?_ ?_ ?_ ?_) <;> rw [e]
  · omega
  · intro c
    obtain ⟨q, h1, h2⟩ := h.2.2.2.2 l c.1 (by omega)
    exact ⟨by omega, by omega, by unfold rn_go; rw [h1]; rfl⟩
  · intro c; exact k2 (by omega)
  · intro c
    obtain ⟨q, h1, h2⟩ := h.2.2.2.2 l c.1 (by omega)
    have := k1 q c.1 (by omega) h2
    unfold rn_go; rw [h1]; exact this
theorem rs_isCrowded (hM : rn_sh M) (p : rn_isB b) (h : rn_Rp M b N) (v : rn_vd N) {r s but : Int} (h0 : 0 ≤ r) (h1 : r < N 0) (hs : 0 ≤ s ∧ s ≤ 60) (k : Q (some (rn_I (rn_b (rn_cr N r s but)))) M) : rn_ME 27 [rn_R 462, rn_R b, rn_R (b + 4 + 5 * r.toNat), rn_I s, rn_I but] M Q := by
  have e2 := h.1.2.2.1
  have e3 := h.1.2.2.2
  have w2 := v.2.2.1
  have w3 := v.2.2.2.1
  have w0 := v.1
  have pr := rn_isR_i p v h0 h1
  have hr := h.2.2.1 r h0 h1
  have vr := v.2.2.2.2.1 r h0 h1
  have er := h.2.1 r h0 (by omega)
  refine re_Ju_isCrowded (rb_Ju_isCrowded_0 ?_)
  have loop : ∀ (m : Nat) (i : Int) (w : rn_V), i + m = N 2 → 0 ≤ i → (∀ l : Int, 0 ≤ l → l < i → ¬ (l ≠ but ∧ rn_lb N l 0 = r ∧ s - rn_lb N l 1 < rn_o N r 0 + N 3 ∧ rn_lb N l 1 - s < rn_o N r 0 + N 3)) → rn_WP 27 3 [rn_R 462, rn_R b, rn_R (b + 4 + 5 * r.toNat), rn_I s, rn_I but, rn_I i, w] [] M Q := by
    intro m
    induction m with
    | zero =>
      intro i w hi h0 hno
      refine rb_Ju_isCrowded_3 hM p ?_ ?_
      · intro c; omega
      · intro _
        refine rn_kf ?_ k
        rintro ⟨l, l1, l2, l3⟩
        exact hno l l1 (by omega) l3
    | succ m ih =>
      intro i w hi h0 hno
      refine rb_Ju_isCrowded_3 hM p ?_ ?_
      · intro _
        refine rs_labelAt hM p h v ?_ ?_
        · intro q q0 q1 hq
          have vl := v.2.2.2.2.2.2 i q0 q1
          have go := rn_Lb_go hq
          have pq := rn_isR_i p v vl.1.1 vl.1.2
          have vl1 := vl.1.2
          have eq := h.2.1 (rn_lb N i 0) vl.1.1 (by omega)
          have next : ¬ (i ≠ but ∧ rn_lb N i 0 = r ∧ s - rn_lb N i 1 < rn_o N r 0 + N 3 ∧ rn_lb N i 1 - s < rn_o N r 0 + N 3) → rn_WP 27 3 [rn_R 462, rn_R b, rn_R (b + 4 + 5 * r.toNat), rn_I s, rn_I but, rn_I (i + 1), rn_R q] [] M Q := by
            intro c
            refine ih (i + 1) _ (by omega) (by omega) (fun l l1 l2 => ?_)
            rcases Int.lt_or_le l i with z | z
            · exact hno l l1 z
            · rw [show l = i by omega]; exact c
          refine rb_Ju_isCrowded_18s hM hq.1 pr p ?_ ?_ ?_ ?_ ?_ ?_ ?_ ?_ ?_
          · omega
          · intro _; rw [go]; exact ⟨hq.2.1, pq⟩
          · intro _ _; rw [hq.2.2, hr.2.2.1, e3]; have := vr.1; have := vl.2.1; omega
          · omega
          · omega
          · intro c; exact next (fun z => z.1 c)
          · rw [go, eq, er, hq.2.2, hr.2.2.1, e3]
            intro c c2 c3
            exact rn_kt ⟨i, q0, q1, c, c2, by omega, by omega⟩ k
          · rw [go, eq, er, hq.2.2, hr.2.2.1, e3]
            intro c c2 c3
            exact next (fun z => c3 (by omega))
          · rw [go, eq, er]
            intro c c2
            exact next (fun z => c2 z.2.1)
        · intro c; omega
      · intro c; omega
  exact loop (N 2).toNat 0 _ (by omega) (Int.le_refl _) (fun l l1 l2 => by omega)
/-- a letter's area at the place p meets a town whose rank is at least k -/
def rn_tq (N : Nat → Int) (r p k : Int) : Prop := ∃ t : Int, 0 ≤ t ∧ t < N 1 ∧ k ≤ rn_tw N t 4 ∧ rn_nt N r p t
def rn_lq (N : Nat → Int) (r p k : Int) : Prop := ∃ l : Int, 0 ≤ l ∧ l < N 2 ∧ rn_lb N l 0 ≠ r ∧ k ≤ rn_o N (rn_lb N l 0) 1 ∧ rn_kl N r p l
theorem rn_tn2_nt {t a : Nat} {r x : Int} (h : rn_Tw M t N a) : rn_tn2 M t (rn_px N r x.toNat) (rn_py N r x.toNat) (rn_o N r 2) ↔ rn_nt N r x a := by
  unfold rn_tn2 rn_nt
  rw [h.1, h.2.1, h.2.2.1, h.2.2.2.1]
theorem rs_townRankAt (hM : rn_sh M) (p : rn_isB b) (h : rn_Rp M b N) (v : rn_vd N) {r x : Int} (h0 : 0 ≤ r) (h1 : r < N 0) (hx : 0 ≤ x ∧ x ≤ rn_o N r 5) (k : ∀ y : Int, 0 ≤ y → y ≤ 9 → (∀ z : Int, 1 ≤ z → (z ≤ y ↔ rn_tq N r x z)) → Q (some (rn_I y)) M) : rn_ME 28 [rn_R 462, rn_R b, rn_R (b + 4 + 5 * r.toNat), rn_I x] M Q := by
  have e2 := h.1.2.1
  have w2 := v.2.1
  have w0 := v.1
  have pr := rn_isR_i p v h0 h1
  have hr := h.2.2.1 r h0 h1
  have vr := v.2.2.2.2.1 r h0 h1
  have exy := hr.2.2.2.2.2.2 x hx.1 hx.2
  have v5 := vr.2.2.2.1
  refine re_Ju_townRankAt (rb_Ju_townRankAt_0 ?_)
  have loop : ∀ (m : Nat) (i y : Int) (w : rn_V), i + m = N 1 → 0 ≤ i → 0 ≤ y → y ≤ 9 → (∀ z : Int, 1 ≤ z → (z ≤ y ↔ ∃ t : Int, 0 ≤ t ∧ t < i ∧ z ≤ rn_tw N t 4 ∧ rn_nt N r x t)) → rn_WP 28 6 [rn_R 462, rn_R b, rn_R (b + 4 + 5 * r.toNat), rn_I x, rn_I y, rn_I i, w] [] M Q := by
    intro m
    induction m with
    | zero =>
      intro i y w hi h0 y0 y9 hno
      refine rb_Ju_townRankAt_6 hM p ?_ ?_
      · intro c; omega
      · intro _
        refine k y y0 y9 (fun z hz => ?_)
        rw [hno z hz, show i = N 1 by omega]
        exact Iff.rfl
    | succ m ih =>
      intro i y w hi h0 y0 y9 hno
      refine rb_Ju_townRankAt_6 hM p ?_ ?_
      · intro _
        refine rs_townAt hM p h v ?_ ?_
        · intro q0 q1
          have vt := v.2.2.2.2.2.1 i q0 q1
          have ht := h.2.2.2.1 i q0 q1
          have pt : rn_isT (b + 34 + i.toNat) := rn_isT_of p (by omega)
          have next : ∀ y' : Int, y ≤ y' → y' ≤ 9 → (∀ z : Int, 1 ≤ z → (z ≤ y' ↔ (z ≤ y ∨ z ≤ rn_tw N i 4 ∧ rn_nt N r x i))) → rn_WP 28 6 [rn_R 462, rn_R b, rn_R (b + 4 + 5 * r.toNat), rn_I x, rn_I y', rn_I (i + 1), rn_R (b + 34 + i.toNat)] [] M Q := by
            intro y' g1 g2 g3
            refine ih (i + 1) y' _ (by omega) (by omega) (by omega) g2 (fun z hz => ?_)
            rw [g3 z hz, hno z hz]
            constructor
            · rintro (⟨t, t1, t2, t3⟩ | c)
              · exact ⟨t, t1, by omega, t3⟩
              · exact ⟨i, h0, by omega, c⟩
            · rintro ⟨t, t1, t2, t3⟩
              rcases Int.lt_or_le t i with c | c
              · exact Or.inl ⟨t, t1, c, t3⟩
              · have : t = i := by omega
                subst this
                exact Or.inr t3
          have nt := rn_tn2_nt (M := M) (N := N) (t := b + 34 + i.toNat) (a := i.toNat) (r := r) (x := x) (by rw [Int.toNat_of_nonneg h0]; exact ht)
          rw [Int.toNat_of_nonneg h0] at nt
          refine rb_Ju_townRankAt_21s hM pt pr ?_ ?_ ?_ ?_ ?_ ?_ ?_
          · omega
          · intro _
            refine ⟨by rw [hr.2.2.2.1]; omega, by rw [hr.2.2.2.1]; omega, ?_, by rw [hr.2.1]; have := vr.2.2.1; omega⟩
            unfold rn_tk
            rw [ht.1, ht.2.1, ht.2.2.1, ht.2.2.2.1]
            unfold rn_vT at vt
            omega
          · omega
          · omega
          · rw [ht.2.2.2.2]; intro c
            exact next y (Int.le_refl _) y9 (fun z hz => ⟨Or.inl, fun q => q.elim id (fun q => by omega)⟩)
          · rw [ht.2.2.2.2, exy.1, exy.2, hr.2.1, nt]; intro c c2
            exact next y (Int.le_refl _) y9 (fun z hz => ⟨Or.inl, fun q => q.elim id (fun q => absurd q.2 c2)⟩)
          · rw [ht.2.2.2.2, exy.1, exy.2, hr.2.1, nt]; intro c c2
            exact next (rn_tw N i 4) (by omega) (by unfold rn_vT at vt; omega) (fun z hz => ⟨fun q => Or.inr ⟨q, c2⟩, fun q => q.elim (fun q => by omega) (fun q => q.1)⟩)
        · intro c; omega
      · intro c; omega
  exact loop (N 1).toNat 0 0 _ (by omega) (Int.le_refl _) (Int.le_refl _) (by omega) (fun z hz => ⟨fun c => by omega, fun ⟨t, t1, t2, _⟩ => by omega⟩)
theorem rs_labelRankAt (hM : rn_sh M) (p : rn_isB b) (h : rn_Rp M b N) (v : rn_vd N) {r x : Int} (h0 : 0 ≤ r) (h1 : r < N 0) (hx : 0 ≤ x ∧ x ≤ rn_o N r 5) (k : ∀ y : Int, 0 ≤ y → y ≤ 9 → (∀ z : Int, 1 ≤ z → (z ≤ y ↔ rn_lq N r x z)) → Q (some (rn_I y)) M) : rn_ME 29 [rn_R 462, rn_R b, rn_R (b + 4 + 5 * r.toNat), rn_I x] M Q := by
  have e2 := h.1.2.2.1
  have w2 := v.2.2.1
  have w0 := v.1
  have pr := rn_isR_i p v h0 h1
  have hr := h.2.2.1 r h0 h1
  have vr := v.2.2.2.2.1 r h0 h1
  have exy := hr.2.2.2.2.2.2 x hx.1 hx.2
  have vxy := vr.2.2.2.2.2.2 x hx.1 hx.2
  have v5 := vr.2.2.2.1
  have er := h.2.1 r h0 (by omega)
  refine re_Ju_labelRankAt (rb_Ju_labelRankAt_0 hM pr ?_ ?_)
  · rw [hr.2.2.2.1]; omega
  rw [exy.1, exy.2]
  have loop : ∀ (m : Nat) (i y : Int) (w : rn_V), i + m = N 2 → 0 ≤ i → 0 ≤ y → y ≤ 9 → (∀ z : Int, 1 ≤ z → (z ≤ y ↔ ∃ l : Int, 0 ≤ l ∧ l < i ∧ rn_lb N l 0 ≠ r ∧ z ≤ rn_o N (rn_lb N l 0) 1 ∧ rn_kl N r x l)) → rn_WP 29 20 [rn_R 462, rn_R b, rn_R (b + 4 + 5 * r.toNat), rn_I x, rn_I y, rn_I (rn_px N r x.toNat), rn_I (rn_py N r x.toNat), rn_I i, w] [] M Q := by
    intro m
    induction m with
    | zero =>
      intro i y w hi h0 y0 y9 hno
      refine rb_Ju_labelRankAt_20 hM p ?_ ?_
      · intro c; omega
      · intro _
        refine k y y0 y9 (fun z hz => ?_)
        rw [hno z hz, show i = N 2 by omega]
        exact Iff.rfl
    | succ m ih =>
      intro i y w hi h0 y0 y9 hno
      refine rb_Ju_labelRankAt_20 hM p ?_ ?_
      · intro _
        refine rs_labelAt hM p h v ?_ ?_
        · intro q q0 q1 hq
          have vl := v.2.2.2.2.2.2 i q0 q1
          have vl1 := vl.1.2
          have go := rn_Lb_go hq
          have pq := rn_isR_i p v vl.1.1 vl.1.2
          have eq := h.2.1 (rn_lb N i 0) vl.1.1 (by omega)
          have hl := h.2.2.1 (rn_lb N i 0) vl.1.1 vl.1.2
          have vq := v.2.2.2.2.1 (rn_lb N i 0) vl.1.1 vl.1.2
          have vq1 := vq.2.1
          have gr1 : rn_gr M q 0 = some (rn_go M q 0) ∧ rn_isR (rn_go M q 0) := by rw [go]; exact ⟨hq.2.1, pq⟩
          have next : ∀ y' : Int, y ≤ y' → y' ≤ 9 → (∀ z : Int, 1 ≤ z → (z ≤ y' ↔ (z ≤ y ∨ rn_lb N i 0 ≠ r ∧ z ≤ rn_o N (rn_lb N i 0) 1 ∧ rn_kl N r x i))) → rn_WP 29 20 [rn_R 462, rn_R b, rn_R (b + 4 + 5 * r.toNat), rn_I x, rn_I y', rn_I (rn_px N r x.toNat), rn_I (rn_py N r x.toNat), rn_I (i + 1), rn_R q] [] M Q := by
            intro y' g1 g2 g3
            refine ih (i + 1) y' _ (by omega) (by omega) (by omega) g2 (fun z hz => ?_)
            rw [g3 z hz, hno z hz]
            constructor
            · rintro (⟨t, t1, t2, t3⟩ | c)
              · exact ⟨t, t1, by omega, t3⟩
              · exact ⟨i, h0, by omega, c⟩
            · rintro ⟨t, t1, t2, t3⟩
              rcases Int.lt_or_le t i with c | c
              · exact Or.inl ⟨t, t1, c, t3⟩
              · have : t = i := by omega
                subst this
                exact Or.inr t3
          have same : ∀ P : Prop, ¬ P → (∀ z : Int, 1 ≤ z → (z ≤ y ↔ (z ≤ y ∨ P))) := fun P hP z _ => ⟨Or.inl, fun q => q.elim id (fun c => absurd c hP)⟩
          refine rb_Ju_labelRankAt_35s hM hq.1 pr gr1 ?_ (fun _ => gr1) ?_ ?_ ?_ ?_ ?_
          · omega
          · omega
          · intro _ _
            refine ⟨gr1.1, gr1.2, ?_⟩
            rw [go, hr.2.1, hl.2.1]; have := vr.2.2.1; have := vq.2.2.1; omega
          · rw [go, eq, er]; intro c
            exact next y (Int.le_refl _) y9 (fun z _ => ⟨Or.inl, fun q => q.elim id (fun q => absurd c q.1)⟩)
          · rw [go, eq, er, hl.1]; intro c c2
            exact next y (Int.le_refl _) y9 (fun z _ => ⟨Or.inl, fun q => q.elim id (fun q => by omega)⟩)
          · rw [go, eq, er, hl.1, hr.2.1, hl.2.1, hq.2.2]; intro c c2
            have kl : (∃ j : Int, rn_lb N i 1 ≤ j ∧ j < rn_lb N i 1 + rn_o N (rn_lb N i 0) 0 ∧ (rn_px N (rn_lb N i 0) j.toNat - rn_px N r x.toNat ≤ rn_o N r 2 + rn_o N (rn_lb N i 0) 2 ∧ rn_px N r x.toNat - rn_px N (rn_lb N i 0) j.toNat ≤ rn_o N r 2 + rn_o N (rn_lb N i 0) 2) ∧ rn_py N (rn_lb N i 0) j.toNat - rn_py N r x.toNat ≤ rn_o N r 2 + rn_o N (rn_lb N i 0) 2 ∧ rn_py N r x.toNat - rn_py N (rn_lb N i 0) j.toNat ≤ rn_o N r 2 + rn_o N (rn_lb N i 0) 2) ↔ rn_kl N r x i := by
              unfold rn_kl rn_near
              constructor
              · rintro ⟨j, j1, j2, j3, j4⟩; exact ⟨j, j1, j2, j3.symm, j4.symm⟩
              · rintro ⟨j, j1, j2, j3, j4⟩; exact ⟨j, j1, j2, j3.symm, j4.symm⟩
            refine rs_hasLetterNear hM pq hl vq vl.2.1.1 vl.2.2 vxy.1 vxy.2 ?_
            rw [rn_b_iff kl]
            refine rb_Ju_labelRankAt_100 hM hq.1 ?_ ?_ ?_ ?_
            · omega
            · intro _; exact ⟨gr1.1, gr1.2, by omega, by omega⟩
            · intro z; have z := rn_b0 z
              exact next y (Int.le_refl _) y9 (fun z2 _ => ⟨Or.inl, fun q => q.elim id (fun q => absurd q.2.2 z)⟩)
            · intro z; have z := rn_b1 z
              rw [go, hl.1]
              exact next _ (by omega) (by omega) (fun z2 _ => ⟨fun q => Or.inr ⟨c, q, z⟩, fun q => q.elim (fun q => by omega) (fun q => q.2.1)⟩)
        · intro c; omega
      · intro c; omega
  exact loop (N 2).toNat 0 0 _ (by omega) (Int.le_refl _) (Int.le_refl _) (by omega) (fun z hz => ⟨fun c => by omega, fun ⟨t, t1, t2, _⟩ => by omega⟩)
theorem rn_w3_iff {r s k : Int} : rn_w3 N r s k ↔ ∃ x : Int, s ≤ x ∧ x < s + rn_o N r 0 ∧ rn_tq N r x k :=
  ⟨fun ⟨t, t1, t2, t3, x, x1, x2, x3⟩ => ⟨x, x1, x2, t, t1, t2, t3, x3⟩, fun ⟨x, x1, x2, t, t1, t2, t3, x3⟩ => ⟨t, t1, t2, t3, x, x1, x2, x3⟩⟩
theorem rn_w4_iff {r s k but : Int} (hb : 0 ≤ but → rn_lb N but 0 = r) : rn_w4 N r s k but ↔ ∃ x : Int, s ≤ x ∧ x < s + rn_o N r 0 ∧ rn_lq N r x k :=
  ⟨fun ⟨l, l1, l2, _, l3, l4, x, x1, x2, x3⟩ => ⟨x, x1, x2, l, l1, l2, l3, l4, x3⟩, fun ⟨x, x1, x2, l, l1, l2, l3, l4, x3⟩ => ⟨l, l1, l2, fun e => l3 (e ▸ hb (e ▸ l1)), l3, l4, x, x1, x2, x3⟩⟩
theorem rs_reasonAgainst (hM : rn_sh M) (p : rn_isB b) (h : rn_Rp M b N) (v : rn_vd N) {r s but : Int} (h0 : 0 ≤ r) (h1 : r < N 0) (hs : 0 ≤ s ∧ s ≤ 60) (hb : 0 ≤ but → rn_lb N but 0 = r) (k : Q (some (rn_I (rn_why N r s (rn_o N r 1) but))) M) : rn_ME 26 [rn_R 462, rn_R b, rn_R (b + 4 + 5 * r.toNat), rn_I s, rn_I but] M Q := by
  have pr := rn_isR_i p v h0 h1
  have hr := h.2.2.1 r h0 h1
  have vr := v.2.2.2.2.1 r h0 h1
  have v5 := vr.2.2.2.1
  have v0 := vr.1
  have v1 := vr.2.1
  unfold rn_why at k
  refine re_Ju_reasonAgainst (rb_Ju_reasonAgainst_0 hM pr ?_ ?_ ?_) <;> rw [hr.2.2.1, hr.2.2.2.1]
  · omega
  · intro c
    rw [rn_pick_t (by omega)] at k
    refine rs_isCrowded hM p h v h0 h1 hs ?_
    refine rb_Ju_reasonAgainst_23 ?_ ?_
    · intro c2
      rw [rn_pick_f (rn_b0 c2)] at k
      have loop : ∀ (m : Nat) (i y : Int), i + m = s + rn_o N r 0 → s ≤ i → 0 ≤ y → y ≤ 9 → (∀ x : Int, s ≤ x → x < i → ¬ rn_tq N r x (rn_o N r 1)) → (∀ z : Int, 1 ≤ z → (z ≤ y ↔ ∃ x : Int, s ≤ x ∧ x < i ∧ rn_lq N r x z)) → rn_WP 26 34 [rn_R 462, rn_R b, rn_R (b + 4 + 5 * r.toNat), rn_I s, rn_I but, rn_I y, rn_I i] [] M Q := by
        intro m
        induction m with
        | zero =>
          intro i y hi h0 y0 y9 h3 h4
          have hi' : i = s + rn_o N r 0 := by omega
          rw [hi'] at h3 h4
          rw [rn_pick_f (fun z => by obtain ⟨x, x1, x2, x3⟩ := rn_w3_iff.mp z; exact h3 x x1 x2 x3)] at k
          refine rb_Ju_reasonAgainst_34 hM pr ?_ ?_ ?_ ?_ <;> rw [hr.2.2.1]
          · omega
          · intro c; omega
          · rw [hr.1]; intro _ c
            rw [rn_pick_f (fun z => by have := (h4 _ (by omega)).mpr ((rn_w4_iff hb).mp z); omega)] at k
            exact k
          · rw [hr.1]; intro _ c
            rw [rn_pick_t ((rn_w4_iff hb).mpr ((h4 _ (by omega)).mp (by omega)))] at k
            exact k
        | succ m ih =>
          intro i y hi hs0 y0 y9 h3 h4
          refine rb_Ju_reasonAgainst_34 hM pr ?_ ?_ ?_ ?_ <;> rw [hr.2.2.1]
          · omega
          · intro _
            refine rs_townRankAt hM p h v h0 h1 (by omega) (fun y2 _ _ g3 => ?_)
            refine rb_Ju_reasonAgainst_53 hM pr ?_ ?_ <;> rw [hr.1]
            · intro c3
              refine rs_labelRankAt hM p h v h0 h1 (by omega) (fun y3 _ _ f3 => ?_)
              refine rb_Ju_reasonAgainst_72 ?_ ?_
              · omega
              · refine ih (i + 1) (max y y3) (by omega) (by omega) (by omega) (by omega) (fun x x1 x2 => ?_) (fun z hz => ?_)
                · rcases Int.lt_or_le x i with q | q
                  · exact h3 x x1 q
                  · rw [show x = i by omega]
                    exact fun z => by have := (g3 _ (by omega)).mpr z; omega
                · rw [show (z ≤ max y y3) ↔ (z ≤ y ∨ z ≤ y3) by omega, h4 z hz, f3 z hz]
                  constructor
                  · rintro (⟨x, x1, x2, x3⟩ | q)
                    · exact ⟨x, x1, by omega, x3⟩
                    · exact ⟨i, hs0, by omega, q⟩
                  · rintro ⟨x, x1, x2, x3⟩
                    rcases Int.lt_or_le x i with q | q
                    · exact Or.inl ⟨x, x1, q, x3⟩
                    · have : x = i := by omega
                      subst this
                      exact Or.inr x3
            · intro c3
              rw [rn_pick_t (rn_w3_iff.mpr ⟨i, hs0, by omega, (g3 _ (by omega)).mp (by omega)⟩)] at k
              exact k
          · intro c; omega
          · intro c; omega
      exact loop (rn_o N r 0).toNat s 0 (by omega) (Int.le_refl _) (Int.le_refl _) (by omega) (fun x x1 x2 => by omega) (fun z hz => ⟨fun c => by omega, fun ⟨x, x1, x2, _⟩ => by omega⟩)
    · intro c2
      rw [rn_pick_t (rn_b1 c2)] at k
      exact k
  · intro c
    rw [rn_pick_f (by omega)] at k
    exact k
end BRD
