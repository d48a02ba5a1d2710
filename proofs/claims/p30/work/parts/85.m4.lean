/-! place: what stands behind it -/
section PLC
variable {N N' : Nat → Int}
theorem rl_nl_lb (v : rn_vd N) {r s l : Int} (l0 : 0 ≤ l) (l1 : l < N 2 + 1) : (l < N 2 ∧ rn_lb (rn_nl N r s) l 0 = rn_lb N l 0 ∧ rn_lb (rn_nl N r s) l 1 = rn_lb N l 1) ∨ (l = N 2 ∧ rn_lb (rn_nl N r s) l 0 = r ∧ rn_lb (rn_nl N r s) l 1 = s) := by
  have v2 := v.2.2.1
  rcases (by omega : l < N 2 ∨ l = N 2) with q | q
  · exact Or.inl ⟨q, rn_nl_lb l0 q (by omega) (by omega), rn_nl_lb l0 q (by omega) (by omega)⟩
  · subst q
    exact Or.inr ⟨rfl, rn_nl_lb0 v2.1, rn_nl_lb1 v2.1⟩
/-- an elder label of no lower rank isn't hindered by the new one -/
theorem rl_nl_old (v : rn_vd N) {r s l : Int} (r0 : 0 ≤ r) (r1 : r < N 0) (s0 : 0 ≤ s) (h : rn_why N r s (rn_o N r 1) (-9) = 0) (l0 : 0 ≤ l) (l1 : l < N 2) (hl : ¬ rn_mf N l) (hk : rn_o N r 1 ≤ rn_o N (rn_lb N l 0) 1) : ¬ rn_mf (rn_nl N r s) l := by
  have v0 := v.1
  have v2 := v.2.2.1
  have vr := v.2.2.2.2.1 r r0 r1
  have v5 := vr.2.2.2.1
  have vl := v.2.2.2.2.2.2 l l0 l1
  have vl1 := vl.1
  have vl2 := vl.2
  have wr := v.2.2.2.2.1 _ vl.1.1 vl.1.2
  have w5 := wr.2.2.2.1
  have sm := rl_nl_sm v (r := r) (s := s)
  obtain ⟨g1, g2, g3⟩ := rl_why0.mp h
  rw [rl_mf_no] at hl ⊢
  rw [rn_nl_lb l0 l1 (by omega) (by omega), rn_nl_lb l0 l1 (by omega) (by omega), rl_nl_o v vl.1.1 (by omega) (by omega) (by omega)]
  obtain ⟨h1, h2, h3⟩ := rl_why0.mp hl
  refine rl_why0.mpr ⟨?_, fun z => h2 ((rl_sm_w3 sm v vl.1.1 (by omega) (by omega)).mp z), fun i i0 i1 i2 z => ?_⟩
  · rw [rl_nl_o v vl.1.1 (by omega) (by omega) (by omega), rl_nl_o v vl.1.1 (by omega) (by omega) (by omega)]; exact h1
  · rw [rn_nl_2] at i1
    rcases rl_nl_lb v (r := r) (s := s) i0 i1 with ⟨q, e0, e1⟩ | ⟨q, e0, e1⟩
    · rw [e0, e1] at z
      have xl := v.2.2.2.2.2.2 i i0 q
      have xl1 := xl.1
      have xl2 := xl.2
      have x5 := (v.2.2.2.2.1 _ xl.1.1 xl.1.2).2.2.2.1
      exact h3 i i0 q i2 ((rl_sm_cf sm (Or.inl (rl_nl_o v xl.1.1 (by omega) (by omega) (by omega))) vl.1.1 (by omega) xl.1.1 (by omega) (by omega) (by omega)).mp z)
    · rw [e0, e1] at z
      have z := (rl_sm_cf sm (Or.inl (rl_nl_o v r0 (by omega) (by omega) (by omega))) vl.1.1 (by omega) r0 (by omega) (by omega) (by omega)).mp z
      refine g3 l l0 l1 (by omega) ?_
      rcases z with ⟨a1, a2, a3⟩ | ⟨a1, a2, a3⟩
      · refine Or.inl ⟨a1.symm, ?_⟩
        rw [a1]
        omega
      · exact Or.inr ⟨fun e => a1 e.symm, hk, rl_ge_sy a3⟩
/-- more labels, fewer places -/
theorem rl_nl_fits (v : rn_vd N) {r s q k : Int} (q0 : 0 ≤ q) (q1 : q < N 0) (h : rn_fits (rn_nl N r s) q k) : rn_fits N q k := by
  have v0 := v.1
  have v2 := v.2.2.1
  have vr := v.2.2.2.2.1 q q0 q1
  have v5 := vr.2.2.2.1
  have sm := rl_nl_sm v (r := r) (s := s)
  obtain ⟨j, j0, j1, hj⟩ := h
  obtain ⟨h1, h2, h3⟩ := rl_why0.mp hj
  rw [rl_nl_o v q0 (by omega) (by omega) (by omega), rl_nl_o v q0 (by omega) (by omega) (by omega)] at h1
  refine ⟨j, j0, j1, rl_why0.mpr ⟨h1, fun z => h2 ((rl_sm_w3 sm v q0 (by omega) (by omega)).mpr z), fun i i0 i1 i2 z => ?_⟩⟩
  have xl := v.2.2.2.2.2.2 i i0 i1
  have xl1 := xl.1
  have xl2 := xl.2
  have x5 := (v.2.2.2.2.1 _ xl.1.1 xl.1.2).2.2.2.1
  refine h3 i i0 (by rw [rn_nl_2]; omega) i2 ?_
  rw [rn_nl_lb i0 i1 (by omega) (by omega), rn_nl_lb i0 i1 (by omega) (by omega)]
  exact (rl_sm_cf sm (Or.inl (rl_nl_o v xl.1.1 (by omega) (by omega) (by omega))) q0 (by omega) xl.1.1 (by omega) (by omega) (by omega)).mpr z
theorem rl_nl_best (v : rn_vd N) {r s : Int} (v' : rn_vd (rn_nl N r s)) {q : Int} (q0 : 0 ≤ q) (q1 : q < N 0) (h : rn_best N q = -9) : rn_best (rn_nl N r s) q = -9 := by
  have v0 := v.1
  have n0 : rn_nl N r s 0 = N 0 := (rl_nl_sm v).1.1
  have b := rl_best_no v' q0 (by rw [n0]; exact q1)
  have c := rl_best_no v q0 q1
  rw [rl_nl_o v q0 (by omega) (by omega) (by omega)] at b
  rcases b with b | ⟨-, b, -⟩
  · exact b.1
  · rcases c with c | c
    · exact absurd (rl_nl_fits v q0 q1 b) c.2
    · omega
theorem rl_nl_lo (v : rn_vd N) {r s q : Int} : rn_lo (rn_nl N r s) q = rn_lo N q + rn_b (r = q) := by
  have v2 := v.2.2.1
  unfold rn_lo
  rw [rn_nl_2, show (N 2 + 1).toNat = (N 2).toNat + 1 by omega]
  show rn_card (fun l => rn_lb (rn_nl N r s) l 0 = q) (N 2).toNat + rn_b (rn_lb (rn_nl N r s) ((N 2).toNat : Nat) 0 = q) = _
  rw [show (((N 2).toNat : Nat) : Int) = N 2 by omega, rn_nl_lb0 v2.1]
  rw [rn_card_congr (S := fun l => rn_lb (rn_nl N r s) l 0 = q) (S' := fun l => rn_lb N l 0 = q) (N 2).toNat (fun c hc => by rw [rn_nl_lb (by omega) (by omega) (by omega) (by omega)])]
/-- what holds while the rivers of the rank R get their labels: D: the rivers that had their turn -/
def rl_pv (N0 : Nat → Int) (x R : Int) (D : Int → Prop) (N : Nat → Int) : Prop := rn_vd N ∧ rl_sm N0 N ∧ (∀ q : Int, 0 ≤ q → q < 6 → rn_o N q 1 = rn_o N0 q 1) ∧ (∀ l : Int, 0 ≤ l → l < N 2 → ¬ rn_mf N l) ∧
  (∀ i j : Int, 0 ≤ i → i < j → j < N 2 → rn_o N (rn_lb N j 0) 1 ≤ rn_o N (rn_lb N i 0) 1) ∧ (∀ l : Int, 0 ≤ l → l < N 2 → R ≤ rn_o N (rn_lb N l 0) 1 ∧ D (rn_lb N l 0)) ∧
  (∀ q : Int, 0 ≤ q → q < N 0 → rn_lo N q ≤ x) ∧ ∀ q : Int, 0 ≤ q → q < N 0 → D q → N 2 = 20 ∨ rn_lo N q = x ∨ rn_best N q = -9
/-- a river at its turn: c labels are set -/
def rl_pw (N0 : Nat → Int) (x R : Int) (D : Int → Prop) (r c : Int) (N : Nat → Int) : Prop := rn_vd N ∧ rl_sm N0 N ∧ (∀ q : Int, 0 ≤ q → q < 6 → rn_o N q 1 = rn_o N0 q 1) ∧ (∀ l : Int, 0 ≤ l → l < N 2 → ¬ rn_mf N l) ∧
  (∀ i j : Int, 0 ≤ i → i < j → j < N 2 → rn_o N (rn_lb N j 0) 1 ≤ rn_o N (rn_lb N i 0) 1) ∧ (∀ l : Int, 0 ≤ l → l < N 2 → R ≤ rn_o N (rn_lb N l 0) 1 ∧ (D (rn_lb N l 0) ∨ rn_lb N l 0 = r)) ∧
  (∀ q : Int, 0 ≤ q → q < N 0 → q ≠ r → rn_lo N q ≤ x) ∧ (∀ q : Int, 0 ≤ q → q < N 0 → q ≠ r → D q → N 2 = 20 ∨ rn_lo N q = x ∨ rn_best N q = -9) ∧ rn_lo N r = c
theorem rl_pw_nl {N0 : Nat → Int} {x R r c : Int} {D : Int → Prop} (h : rl_pw N0 x R D r c N) (r0 : 0 ≤ r) (r1 : r < N 0) (hR : rn_o N0 r 1 = R) (c20 : N 2 < 20) (hb : rn_best N r ≠ -9) : rl_pw N0 x R D r (c + 1) (rn_nl N r (rn_best N r)) := by
  obtain ⟨v, sm, hr, h1, h2, h3, h4, h5, h6⟩ := h
  have v0 := v.1
  have v2 := v.2.2.1
  obtain ⟨b1, -, b3⟩ := (rl_best_no v r0 r1).elim (fun z => absurd z.1 hb) id
  generalize rn_best N r = s at *
  have fit := (rl_why0.mp b3).1
  have v' : rn_vd (rn_nl N r s) := rn_nl_vd v (by omega) r0 r1 b1 fit
  have sm1 := rl_nl_sm v (r := r) (s := s)
  have n0 : rn_nl N r s 0 = N 0 := sm1.1.1
  have rk : rn_o N r 1 = R := (hr r r0 (by omega)).trans hR
  have ol : ∀ l : Int, 0 ≤ l → l < N 2 + 1 → (l < N 2 ∧ rn_lb (rn_nl N r s) l 0 = rn_lb N l 0 ∧ rn_o (rn_nl N r s) (rn_lb (rn_nl N r s) l 0) 1 = rn_o N (rn_lb N l 0) 1) ∨ (l = N 2 ∧ rn_lb (rn_nl N r s) l 0 = r ∧ rn_o (rn_nl N r s) (rn_lb (rn_nl N r s) l 0) 1 = R) := by
    intro l l0 l1
    rcases rl_nl_lb v (r := r) (s := s) l0 l1 with ⟨q, e0, -⟩ | ⟨q, e0, -⟩
    · have vl := (v.2.2.2.2.2.2 l l0 q).1
      exact Or.inl ⟨q, e0, by rw [e0, rl_nl_o v vl.1 (by omega) (by omega) (by omega)]⟩
    · exact Or.inr ⟨q, e0, by rw [e0, rl_nl_o v r0 (by omega) (by omega) (by omega), rk]⟩
  refine ⟨v', rl_sm_tr sm sm1, fun q q0 q1 => (rl_nl_o v q0 q1 (by omega) (by omega)).trans (hr q q0 q1), fun l l0 l1 => ?_, fun i j i0 ij j1 => ?_, fun l l0 l1 => ?_, fun q q0 q1 qr => ?_, fun q q0 q1 qr hD => ?_, ?_⟩
  · rw [rn_nl_2] at l1
    rcases (by omega : l < N 2 ∨ l = N 2) with q | q
    · exact rl_nl_old v r0 r1 b1.1 b3 l0 q (h1 l l0 q) (by rw [rk]; exact (h3 l l0 q).1)
    · subst q
      rw [rl_mf_no, rn_nl_lb0 v2.1, rn_nl_lb1 v2.1, rl_nl_o v r0 (by omega) (by omega) (by omega)]
      exact rl_nl_why v r0 r1 b1.1 b3
  · rw [rn_nl_2] at j1
    rcases ol i i0 (by omega) with ⟨a1, -, a3⟩ | ⟨a1, -, a3⟩
    · rcases ol j (by omega) j1 with ⟨c1, -, c3⟩ | ⟨c1, -, c3⟩
      · rw [a3, c3]; exact h2 i j i0 ij c1
      · rw [a3, c3]; exact (h3 i i0 a1).1
    · omega
  · rw [rn_nl_2] at l1
    rcases ol l l0 l1 with ⟨a1, a2, a3⟩ | ⟨a1, a2, a3⟩
    · rw [a3, a2]; exact h3 l l0 a1
    · rw [a3, a2]; exact ⟨Int.le_refl _, Or.inr rfl⟩
  · rw [n0] at q1
    rw [rl_nl_lo v, rn_bf (fun z => qr z.symm), Int.add_zero]
    exact h4 q q0 q1 qr
  · rw [n0] at q1
    rw [rl_nl_lo v, rn_bf (fun z => qr z.symm), Int.add_zero]
    rcases h5 q q0 q1 qr hD with z | z | z
    · omega
    · exact Or.inr (Or.inl z)
    · exact Or.inr (Or.inr (rl_nl_best v v' q0 q1 z))
  · rw [rl_nl_lo v, rn_bt rfl, h6]
theorem rl_pw_lrv {N0 : Nat → Int} {x R r : Int} {D : Int → Prop} (r0 : 0 ≤ r) (hR : rn_o N0 r 1 = R) : ∀ (k : Nat) (c : Int) (N : Nat → Int), r < N 0 → rl_pw N0 x R D r c N → 0 ≤ c → c + k = x → rl_pv N0 x R (fun q => D q ∨ q = r) (rn_lrv r k N)
  | 0, c, N, r1, h, c0, e => by
    obtain ⟨v, sm, hr, h1, h2, h3, h4, h5, h6⟩ := h
    refine ⟨v, sm, hr, h1, h2, h3, fun q q0 q1 => ?_, fun q q0 q1 hD => ?_⟩
    · by_cases z : q = r
      · rw [z]; show rn_lo N r ≤ x; omega
      · exact h4 q q0 q1 z
    · by_cases z : q = r
      · rw [z]; right; left; show rn_lo N r = x; omega
      · exact h5 q q0 q1 z (hD.elim id (fun w => absurd w z))
  | k + 1, c, N, r1, h, c0, e => by
    unfold rn_lrv
    by_cases w : N 2 < 20 ∧ rn_best N r ≠ -9
    · rw [rn_pk_t w]
      have n0 : rn_nl N r (rn_best N r) 0 = N 0 := (rl_nl_sm h.1).1.1
      exact rl_pw_lrv r0 hR k (c + 1) _ (by rw [n0]; exact r1) (rl_pw_nl h r0 r1 hR w.1 w.2) (by omega) (by omega)
    · rw [rn_pk_f w]
      obtain ⟨v, sm, hr, h1, h2, h3, h4, h5, h6⟩ := h
      have v2 := v.2.2.1
      refine ⟨v, sm, hr, h1, h2, h3, fun q q0 q1 => ?_, fun q q0 q1 hD => ?_⟩
      · by_cases z : q = r
        · rw [z]; omega
        · exact h4 q q0 q1 z
      · by_cases z : q = r
        · rw [z]
          by_cases y : rn_best N r = -9
          · exact Or.inr (Or.inr y)
          · left
            rcases Int.lt_or_le (N 2) 20 with t | t
            · exact absurd ⟨t, y⟩ w
            · omega
        · exact h5 q q0 q1 z (hD.elim id (fun y => absurd y z))
theorem rl_pv_w {N0 : Nat → Int} {x R r : Int} {D : Int → Prop} (h : rl_pv N0 x R D N) (r0 : 0 ≤ r) (hD : ¬ D r) : rl_pw N0 x R D r 0 N := by
  obtain ⟨v, sm, hr, h1, h2, h3, h4, h5⟩ := h
  refine ⟨v, sm, hr, h1, h2, fun l l0 l1 => ⟨(h3 l l0 l1).1, Or.inl (h3 l l0 l1).2⟩, fun q q0 q1 _ => h4 q q0 q1, fun q q0 q1 _ => h5 q q0 q1, ?_⟩
  unfold rn_lo
  have v2 := v.2.2.1
  exact rl_card_0 _ (fun c hc z => hD (z ▸ (h3 c (by omega) (by omega)).2))
theorem rl_pv_D {N0 : Nat → Int} {x R R' : Int} {D D' : Int → Prop} (h : rl_pv N0 x R D N) (hR : R' ≤ R) (hD : ∀ q : Int, 0 ≤ q → q < 6 → (D q ↔ D' q)) : rl_pv N0 x R' D' N := by
  obtain ⟨v, sm, hr, h1, h2, h3, h4, h5⟩ := h
  have v0 := v.1
  refine ⟨v, sm, hr, h1, h2, fun l l0 l1 => ?_, h4, fun q q0 q1 z => h5 q q0 q1 ((hD q q0 (by omega)).mpr z)⟩
  have vl := (v.2.2.2.2.2.2 l l0 l1).1
  exact ⟨Int.le_trans hR (h3 l l0 l1).1, (hD _ vl.1 (by omega)).mp (h3 l l0 l1).2⟩
/-- the rivers that had their turn, when those of the rank R below j had it -/
def rl_dn (N0 : Nat → Int) (R j q : Int) : Prop := R < rn_o N0 q 1 ∨ rn_o N0 q 1 = R ∧ q < j
theorem rl_pv_lar {N0 : Nat → Int} {x R : Int} (x0 : 0 ≤ x) (h : rl_pv N0 x R (rl_dn N0 R 0) N) : ∀ j : Nat, (j : Int) ≤ N0 0 → rl_pv N0 x R (rl_dn N0 R j) (rn_lar R x.toNat j N)
  | 0, _ => h
  | j + 1, hj => by
    have ih := rl_pv_lar x0 h j (by omega)
    have n0 : rn_lar R x.toNat j N 0 = N0 0 := ih.2.1.1.1
    have v0 := ih.1.1
    have rk := ih.2.2.1 j (by omega) (by omega)
    unfold rn_lar
    by_cases c : rn_o (rn_lar R x.toNat j N) j 1 = R
    · rw [rn_pk_t c]
      have w := rl_pw_lrv (by omega) (rk.symm.trans c) x.toNat 0 _ (by omega) (rl_pv_w ih (by omega) (fun z => by unfold rl_dn at z; omega)) (by omega) (by omega)
      refine rl_pv_D w (Int.le_refl _) (fun q q0 q1 => ?_)
      unfold rl_dn
      constructor
      · rintro ((z | z) | z)
        · exact Or.inl z
        · exact Or.inr ⟨z.1, by omega⟩
        · subst z; exact Or.inr ⟨rk.symm.trans c, by omega⟩
      · rintro (z | z)
        · exact Or.inl (Or.inl z)
        · by_cases y : q = j
          · exact Or.inr y
          · exact Or.inl (Or.inr ⟨z.1, by omega⟩)
    · rw [rn_pk_f c]
      refine rl_pv_D ih (Int.le_refl _) (fun q q0 q1 => ?_)
      unfold rl_dn
      constructor
      · rintro (z | z)
        · exact Or.inl z
        · exact Or.inr ⟨z.1, by omega⟩
      · rintro (z | z)
        · exact Or.inl z
        · refine Or.inr ⟨z.1, ?_⟩
          have : q ≠ j := fun y => c (by rw [rk, ← y]; exact z.1)
          omega
theorem rl_pv_laa {N0 : Nat → Int} {x : Int} (x0 : 0 ≤ x) (h : rl_pv N0 x 9 (rl_dn N0 9 0) N) : ∀ j : Nat, rl_pv N0 x (9 - j) (rl_dn N0 (9 - j) 0) (rn_laa x.toNat j N)
  | 0 => h
  | j + 1 => by
    have ih := rl_pv_laa x0 h j
    have n0 : rn_laa x.toNat j N 0 = N0 0 := ih.2.1.1.1
    have v0 := ih.1.1
    unfold rn_laa
    rw [n0]
    have w := rl_pv_lar x0 ih (N0 0).toNat (by omega)
    obtain ⟨v, sm, hr, h1, h2, h3, h4, h5⟩ := w
    have v0' := v.1
    have m0 := sm.1.1
    have tail : ∀ q : Int, 0 ≤ q → q < N0 0 → (rl_dn N0 (9 - (j : Int)) ((N0 0).toNat : Nat) q ↔ rl_dn N0 (9 - ((j + 1 : Nat) : Int)) 0 q) := by
      intro q q0 q1
      unfold rl_dn
      omega
    refine ⟨v, sm, hr, h1, h2, fun l l0 l1 => ?_, h4, fun q q0 q1 z => h5 q q0 q1 ((tail q q0 (by omega)).mpr z)⟩
    have vl := (v.2.2.2.2.2.2 l l0 l1).1
    have := h3 l l0 l1
    exact ⟨by omega, (tail _ vl.1 (by omega)).mp this.2⟩
/-- place, all in all -/
theorem rl_place (v : rn_vd N) (v' : rn_vd (rn_up N 2 0)) {x : Int} (x0 : 1 ≤ x) : ∀ N', N' = rn_laa x.toNat 9 (rn_up N 2 0) → rn_vd N' ∧ rl_sm N N' ∧ (∀ q : Int, 0 ≤ q → q < 6 → rn_o N' q 1 = rn_o N q 1) ∧ (∀ l : Int, 0 ≤ l → l < N' 2 → ¬ rn_mf N' l) ∧ (∀ i j : Int, 0 ≤ i → i < j → j < N' 2 → rn_o N' (rn_lb N' j 0) 1 ≤ rn_o N' (rn_lb N' i 0) 1) ∧
    (∀ q : Int, 0 ≤ q → q < N' 0 → rn_lo N' q ≤ x) ∧ ∀ q : Int, 0 ≤ q → q < N' 0 → N' 2 = 20 ∨ rn_lo N' q = x ∨ rn_best N' q = -9 := by
  rintro N' rfl
  have z2 : rn_up N 2 0 2 = 0 := rn_up_eq
  have o : ∀ q w : Int, 0 ≤ q → 0 ≤ w → rn_o (rn_up N 2 0) q w = rn_o N q w := fun q w q0 w0 => by unfold rn_o; exact rn_up_ne (by omega)
  have sm : rl_sm N (rn_up N 2 0) := ⟨⟨rn_up_ne (by omega), rn_up_ne (by omega), rn_up_ne (by omega)⟩, fun q w q0 _ w0 _ _ => o q w q0 w0, fun t w t0 _ w0 _ => by unfold rn_tw; exact rn_up_ne (by omega)⟩
  have p0 : rl_pv N x 9 (rl_dn N 9 0) (rn_up N 2 0) := by
    refine ⟨v', sm, fun q q0 _ => o q 1 q0 (by omega), fun l l0 l1 => by omega, fun i j i0 ij j1 => by omega, fun l l0 l1 => by omega, fun q q0 q1 => ?_, fun q q0 q1 hD => ?_⟩
    · unfold rn_lo
      rw [z2, rl_card_0 _ (fun c hc => by omega)]
      omega
    · have vr := (v.2.2.2.2.1 q q0 (by have := sm.1.1; omega)).2.1
      unfold rl_dn at hD
      omega
  have p9 := rl_pv_laa (by omega) p0 9
  obtain ⟨w, sm', hr, h1, h2, h3, h4, h5⟩ := p9
  refine ⟨w, sm', hr, h1, h2, h4, fun q q0 q1 => h5 q q0 q1 (Or.inl ?_)⟩
  have m0 := sm'.1.1
  have vr := (v.2.2.2.2.1 q q0 (by omega)).2.1
  omega
end PLC
