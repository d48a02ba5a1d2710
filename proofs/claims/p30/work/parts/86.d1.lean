/-! areCells -/
section LD
variable {G : Nat × (Nat → Int)} {M : rn_M} {Q : rn_Q} {N : Nat → Int} {n : Int} {K : Nat → Nat → Int}
theorem rs_ac_274 {r p : Int} (r0 : 0 ≤ r) (r1 : r < N 0) (p0 : 1 ≤ p ∧ p ≤ 8) : ∀ (k : Nat) (s le : Int) (M : rn_M) (v7 : rn_V), rn_Jq G M N n K → 0 ≤ s → s + k = ((rn_o N r 5 + 1 - p + 1).toNat : Nat) → le = rn_stn N r p s.toNat → (∀ M' v5' v6' v7', rn_Jq G M' N n K → rn_WP 128 256 [rn_R 8, rn_I r, rn_I (rn_o N r 5), rn_I 1, rn_I (p + 3), v5', v6', v7'] [] M' Q) → rn_WP 128 274 [rn_R 8, rn_I r, rn_I (rn_o N r 5), rn_I 1, rn_I p, rn_I le, rn_I s, v7] [] M Q := by
  intro k
  induction k with
  | zero =>
    intro s le M v7 J s0 hs e kk
    have v5 := ((rn_Jv J).2.2.2.2.1 r r0 r1).2.2.2.1
    have c : rn_o N r 5 + 1 < s + p := by omega
    have es : s.toNat = (rn_o N r 5 + 1 - p + 1).toNat := by omega
    rw [es] at e
    refine rb_Lw_areCells_274 J ?_ (fun _ => ⟨⟨⟨r0, r1⟩, by omega⟩, e.symm, by omega⟩) (fun z => absurd c z) (fun z => absurd c z) (fun z => absurd c z) (fun z => absurd c z) (fun z => absurd c z) (fun z => absurd c z) (fun z => absurd c z) (fun z => absurd c z) (fun z => absurd c z) (fun z => absurd c z) (fun _ M' J' => kk M' _ _ _ J') (fun z => absurd c z) (fun z => absurd c z) (fun z => absurd c z) (fun z => absurd c z) (fun z => absurd c z) (fun z => absurd c z)
    omega
  | succ k ih =>
    intro s le M v7 J s0 hs e kk
    have vr := (rn_Jv J).2.2.2.2.1 r r0 r1
    have v5 := vr.2.2.2.1
    have c : ¬ rn_o N r 5 + 1 < s + p := by omega
    have st := rl_stn_r (N := N) (r := r) (p := p) s.toNat
    rw [← e] at st
    have en : ((s.toNat : Nat) : Int) = s := by omega
    have up : ∀ {le' : Int}, le' = rn_pick (rn_stn N r p s.toNat = -9 ∨ rn_bend N r s p < rn_bend N r (rn_stn N r p s.toNat) p) s (rn_stn N r p s.toNat) → le' = rn_stn N r p (s + 1).toNat := by
      intro le' h
      rw [show (s + 1).toNat = s.toNat + 1 by omega]
      unfold rn_stn
      rw [en]
      exact h
    have nx : ∀ {le' : Int} {M' : rn_M} {v7' : rn_V}, rn_Jq G M' N n K → le' = rn_stn N r p (s + 1).toNat → rn_WP 128 274 [rn_R 8, rn_I r, rn_I (rn_o N r 5), rn_I 1, rn_I p, rn_I le', rn_I (s + 1), v7'] [] M' Q := fun J' e' => ih (s + 1) _ _ _ J' (by omega) (by omega) e' kk
    have sx : s = rn_pick (rn_stn N r p s.toNat = -9 ∨ rn_bend N r s p < rn_bend N r (rn_stn N r p s.toNat) p) s (rn_stn N r p s.toNat) ∨ ¬ (le = -9 ∨ rn_bend N r s p < rn_bend N r le p) := by
      rw [← e]
      by_cases q : le = -9 ∨ rn_bend N r s p < rn_bend N r le p
      · exact Or.inl (rn_pick_t q _ _).symm
      · exact Or.inr q
    have lx : le = rn_pick (rn_stn N r p s.toNat = -9 ∨ rn_bend N r s p < rn_bend N r (rn_stn N r p s.toNat) p) s (rn_stn N r p s.toNat) ∨ (le = -9 ∨ rn_bend N r s p < rn_bend N r le p) := by
      rw [← e]
      by_cases q : le = -9 ∨ rn_bend N r s p < rn_bend N r le p
      · exact Or.inr q
      · exact Or.inl (rn_pick_f q _ _).symm
    have hb3 : ¬ p < 3 → (0 ≤ rn_bend N r s (p - 1) ∧ rn_bend N r s (p - 1) ≤ 240) ∧ (0 ≤ rn_bend N r (s + p - 3) 3 ∧ rn_bend N r (s + p - 3) 3 ≤ 4) ∧ rn_bend N r s p = rn_bend N r s (p - 1) + rn_bend N r (s + p - 3) 3 := fun q => ⟨rn_bend_r vr s0 (by omega), rl_bend_3r vr (by omega) (by omega), rl_bend3 (by omega)⟩
    refine rb_Lw_areCells_274 J ?_ (fun z => absurd z c) (fun _ => ⟨⟨r0, r1⟩, by omega⟩) (fun _ _ _ => by omega) (fun _ _ z => ⟨⟨r0, r1⟩, by omega⟩) (fun _ _ _ _ => by omega) (fun _ _ _ _ => by omega) (fun _ q => ?_) (fun _ _ _ => by omega) (fun _ _ z => ⟨⟨r0, r1⟩, by omega⟩) (fun _ _ _ _ => by omega) (fun _ _ _ _ => by omega) (fun z => absurd z c) ?_ ?_ ?_ ?_ ?_ ?_
    · omega
    · have := hb3 q
      omega
    · exact fun _ _ z M' J' => nx J' (up (sx.elim id (fun w => absurd (Or.inl (by omega)) w)))
    · exact fun _ _ z y M' J' => nx J' (up (sx.elim id (fun w => absurd (Or.inr y) w)))
    · exact fun _ _ z y M' J' => nx J' (up (lx.elim id (fun w => w.elim (fun t => by omega) (fun t => absurd t y))))
    · exact fun _ _ z M' J' => nx J' (up (sx.elim id (fun w => absurd (Or.inl (by omega)) w)))
    · exact fun _ _ z y M' J' => nx J' (up (sx.elim id (fun w => absurd (Or.inr y) w)))
    · exact fun _ _ z y M' J' => nx J' (up (lx.elim id (fun w => w.elim (fun t => by omega) (fun t => absurd t y))))
theorem rs_ac_256 {r : Int} (r0 : 0 ≤ r) (r1 : r < N 0) (kq : ∀ M', rn_Jq G M' N n K → Q (some (rn_I 1)) M') : ∀ (k : Nat) (p : Int) (M : rn_M) (v5 v6 v7 : rn_V), rn_Jq G M N n K → 1 ≤ p → p + 3 * k = 10 → rn_WP 128 256 [rn_R 8, rn_I r, rn_I (rn_o N r 5), rn_I 1, rn_I p, v5, v6, v7] [] M Q
  | 0, p, M, v5, v6, v7, J, p0, e => rb_Lw_areCells_256 J (fun z => by omega) (fun _ M' J' => kq M' J')
  | k + 1, p, M, v5, v6, v7, J, p0, e => rb_Lw_areCells_256 J (fun _ M1 J1 => rs_ac_274 r0 r1 (by omega) _ 0 (-9) M1 v7 J1 (by omega) (Int.zero_add _) rfl (fun M2 w5 w6 w7 J2 => rs_ac_256 r0 r1 kq k (p + 3) M2 w5 w6 w7 J2 (by omega) (by omega))) (fun z => by omega)
theorem rs_ac_158 (J : rn_Jq G M N n K) {r k a b m : Int} {v7 : rn_V} (r0 : 0 ≤ r) (r1 : r < N 0) (k0 : 0 ≤ k) (k1 : k < rn_o N r 5) (ha : -1 ≤ a ∧ a ≤ 1) (hb : -1 ≤ b ∧ b ≤ 1) (hab : a ≠ 0 ∨ b ≠ 0) (kk : ∀ M', rn_Jq G M' N n K → rn_WP 128 98 [rn_R 8, rn_I r, rn_I m, rn_I 1, rn_I (k + 1), rn_I a, rn_I b, v7] [] M' Q) : rn_WP 128 158 [rn_R 8, rn_I r, rn_I m, rn_I 1, rn_I k, rn_I a, rn_I b, v7] [] M Q := by
  have vr := (rn_Jv J).2.2.2.2.1 r r0 r1
  have v5 := vr.2.2.2.1
  have h1 : (a * a = 0 ∧ a = 0) ∨ (a * a = 1 ∧ a ≠ 0) := by
    rcases (by omega : a = -1 ∨ a = 0 ∨ a = 1) with e | e | e <;> subst e <;> decide
  have h2 : (b * b = 0 ∧ b = 0) ∨ (b * b = 1 ∧ b ≠ 0) := by
    rcases (by omega : b = -1 ∨ b = 0 ∨ b = 1) with e | e | e <;> subst e <;> decide
  have b12 := rl_bend_12 (N := N) (r := r) (s := k)
  have b3 : ¬ k = 0 → 0 ≤ rn_bend N r (k - 1) 3 ∧ rn_bend N r (k - 1) 3 ≤ 4 := fun q => rl_bend_3r vr (by omega) (by omega)
  refine rb_Lw_areCells_158 J rfl ?_ (fun _ => by omega) (fun q => ?_) (fun _ => kk) (fun _ => kk)
  · omega
  · have := b3 q
    omega
theorem rs_ac_98 {r : Int} (r0 : 0 ≤ r) (r1 : r < N 0) (kq : ∀ M', rn_Jq G M' N n K → Q (some (rn_I 1)) M') : ∀ (j : Nat) (k : Int) (M : rn_M) (v5 v6 v7 : rn_V), rn_Jq G M N n K → 0 ≤ k → k + j = rn_o N r 5 → rn_WP 128 98 [rn_R 8, rn_I r, rn_I (rn_o N r 5), rn_I 1, rn_I k, v5, v6, v7] [] M Q := by
  intro j
  induction j with
  | zero =>
    intro k M v5 v6 v7 J k0 e
    exact rb_Lw_areCells_98 J (fun z => by omega) (fun z => by omega) (fun _ M1 J1 => rs_ac_256 r0 r1 kq 3 1 M1 v5 v6 v7 J1 (by omega) (by omega))
  | succ j ih =>
    intro k M v5 v6 v7 J k0 e
    have vr := (rn_Jv J).2.2.2.2.1 r r0 r1
    have w5 := vr.2.2.2.1
    have c1 := vr.2.2.2.2.2.2 k k0 (by omega)
    have c2 := vr.2.2.2.2.2.2 (k + 1) (by omega) (by omega)
    obtain ⟨dx, dy, ex, ey, hx, hy, hd⟩ := rl_step vr k0 (by omega)
    refine rb_Lw_areCells_98 J (fun _ => by omega) (fun _ M1 J1 => ?_) (fun z => by omega)
    exact rs_ac_158 J1 r0 r1 k0 (by omega) (by omega) (by omega) (by omega) (fun M2 J2 => ih (k + 1) M2 _ _ _ J2 (by omega) (by omega))
theorem iq_areCells (J : rn_Jq G M N n K) {r : Int} (h : 0 ≤ r ∧ r < N 0) (k : ∀ M', rn_Jq G M' N n K → Q (some (rn_I 1)) M') : rn_ME 128 [rn_R 8, rn_I r] M Q := by
  obtain ⟨r0, r1⟩ := h
  have vr := (rn_Jv J).2.2.2.2.1 r r0 r1
  have v5 := vr.2.2.2.1
  have cc := rl_card_clr vr
  have c1 := vr.2.2.2.2.2.2 (rn_o N r 5) (by omega) (by omega)
  have go : ∀ M', rn_Jq G M' N n K → rn_WP 128 98 [rn_R 8, rn_I r, rn_I (rn_o N r 5), rn_I 1, rn_I 0, rn_J, rn_J, rn_J] [] M' Q := fun M' J' => rs_ac_98 r0 r1 k (rn_o N r 5).toNat 0 M' _ _ _ J' (by omega) (by omega)
  refine re_Lw_areCells (rb_Lw_areCells_0 J (by omega) (fun c => by omega) (fun c => by omega) (fun _ => go) (fun _ => go))
end LD
