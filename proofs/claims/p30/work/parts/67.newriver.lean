/-! a new river: its row, on a board, in the reference -/
def rn_nv (L m x y k h : Int) (nm : Nat → Int) (w : Nat) : Int := if w = 0 then L else if w = 1 then k else if w = 2 then h else if w = 3 then x else if w = 4 then y else if 6 ≤ w ∧ (w : Int) < 6 + m then nm (w - 6) else 0
def rn_nr (N : Nat → Int) (L x y k h : Int) (nm : Nat → Int) : Nat → Int := fun j => if j = 0 then N 0 + 1 else if (j : Int) < 4 + 78 * N 0 ∨ 82 + 78 * N 0 ≤ (j : Int) then N j else rn_nv L L x y k h nm ((j : Int) - 4 - 78 * N 0).toNat
def rn_rg (L x y k h : Int) : Prop := (1 ≤ L ∧ L ≤ 12) ∧ ((0 ≤ x ∧ x < 60) ∧ 0 ≤ y ∧ y < 40) ∧ (1 ≤ k ∧ k ≤ 9) ∧ 0 ≤ h ∧ h ≤ 2
section NRV
variable {M : rn_M} {Q : rn_Q} {N : Nat → Int} {n B : Int} {K : Nat → Nat → Int} {L x y k h : Int} {nm : Nat → Int}
theorem rn_nr_ne {j : Nat} (n0 : 0 ≤ N 0) (h1 : j ≠ 0) (h2 : (j : Int) < 4 + 78 * N 0 ∨ 82 + 78 * N 0 ≤ (j : Int)) : rn_nr N L x y k h nm j = N j := by
  unfold rn_nr; rw [if_neg h1, if_pos h2]
theorem rn_nr_0 : rn_nr N L x y k h nm 0 = N 0 + 1 := by unfold rn_nr; rw [if_pos rfl]
theorem rn_nr_o (n0 : 0 ≤ N 0) {w : Int} (w0 : 0 ≤ w) (w1 : w < 78) : rn_o (rn_nr N L x y k h nm) (N 0) w = rn_nv L L x y k h nm w.toNat := by
  unfold rn_o rn_nr
  rw [if_neg (by omega), if_neg (by omega)]
  congr 1
  omega
theorem rn_nr_eqR (n0 : 0 ≤ N 0) {r : Int} (r0 : 0 ≤ r) (ne : r ≠ N 0) : rn_eqR N (rn_nr N L x y k h nm) r := fun w w0 w1 => by
  unfold rn_o; exact rn_nr_ne n0 (by omega) (by omega)
theorem rn_nv_0 {m : Int} : rn_nv L m x y k h nm 0 = L := rfl
theorem rn_nv_5 {m : Int} : rn_nv L m x y k h nm 5 = 0 := by unfold rn_nv; rw [if_neg (by omega), if_neg (by omega), if_neg (by omega), if_neg (by omega), if_neg (by omega), if_neg (by omega)]
theorem rn_nv_n {m : Int} {i : Nat} (hi : (i : Int) < m) : rn_nv L m x y k h nm (6 + i) = nm i := by
  unfold rn_nv; rw [if_neg (by omega), if_neg (by omega), if_neg (by omega), if_neg (by omega), if_neg (by omega), if_pos (by omega), show 6 + i - 6 = i by omega]
theorem rn_nv_z {m : Int} {w : Nat} (hw : 5 ≤ w) (hi : 6 + m ≤ (w : Int)) : rn_nv L m x y k h nm w = 0 := by
  unfold rn_nv; rw [if_neg (by omega), if_neg (by omega), if_neg (by omega), if_neg (by omega), if_neg (by omega), if_neg (by omega)]
theorem rn_nv_st {i w : Nat} (hw : w ≠ 6 + i) : rn_nv L (i : Int) x y k h nm w = rn_nv L ((i + 1 : Nat) : Int) x y k h nm w := by
  have e : (6 ≤ w ∧ (w : Int) < 6 + (i : Int)) = (6 ≤ w ∧ (w : Int) < 6 + ((i + 1 : Nat) : Int)) := propext (by omega)
  unfold rn_nv
  simp only [e]
theorem rn_nr_vR (n0 : 0 ≤ N 0) (g : rn_rg L x y k h) (hn : ∀ i : Nat, (i : Int) < L → 0 ≤ nm i ∧ nm i ≤ 255) : rn_vR (rn_nr N L x y k h nm) (N 0) := by
  unfold rn_rg at g
  have o := fun (w : Int) (w0 : 0 ≤ w) (w1 : w < 78) => rn_nr_o (N := N) (L := L) (x := x) (y := y) (k := k) (h := h) (nm := nm) n0 w0 w1
  have o5 : rn_o (rn_nr N L x y k h nm) (N 0) 5 = 0 := (o 5 (by omega) (by omega)).trans rn_nv_5
  refine ⟨?_, ?_, ?_, ?_, fun z z0 z1 => ?_, fun z z0 z1 => ?_, fun z z0 z1 => ?_⟩
  · rw [o 0 (by omega) (by omega)]; exact g.1
  · rw [o 1 (by omega) (by omega)]; exact g.2.2.1
  · rw [o 2 (by omega) (by omega)]; exact g.2.2.2
  · rw [o5]; omega
  · rw [o (18 + z) (by omega) (by omega), rn_nv_z (by omega) (by omega)]; omega
  · rw [o (6 + z) (by omega) (by omega)]
    by_cases c : z < L
    · rw [show (6 + z).toNat = 6 + z.toNat by omega, rn_nv_n (by omega)]; exact hn _ (by omega)
    · rw [rn_nv_z (by omega) (by omega)]; omega
  · rw [o5] at z1
    rw [show z.toNat = 0 by omega]
    show (0 ≤ rn_o _ _ 3 ∧ rn_o _ _ 3 < 60) ∧ 0 ≤ rn_o _ _ 4 ∧ rn_o _ _ 4 < 40
    rw [o 3 (by omega) (by omega), o 4 (by omega) (by omega)]
    exact g.2.1
theorem rn_nr_vd (v : rn_vd N) (c : N 0 ≤ 5) (g : rn_rg L x y k h) (hn : ∀ i : Nat, (i : Int) < L → 0 ≤ nm i ∧ nm i ≤ 255) : rn_vd (rn_nr N L x y k h nm) := by
  obtain ⟨u0, u1, u2, u3, u4, u5, u6⟩ := v
  have ne : ∀ j : Nat, j ≠ 0 → ((j : Int) < 4 + 78 * N 0 ∨ 82 + 78 * N 0 ≤ (j : Int)) → rn_nr N L x y k h nm j = N j := fun j a b => rn_nr_ne u0.1 a b
  refine ⟨by rw [rn_nr_0]; omega, by rw [ne 1 (by omega) (by omega)]; exact u1, by rw [ne 2 (by omega) (by omega)]; exact u2, by rw [ne 3 (by omega) (by omega)]; exact u3, fun s s0 s1 => ?_, fun t t0 t1 => ?_, fun l j0 j1 => ?_⟩
  · rw [rn_nr_0] at s1
    by_cases e : s = N 0
    · rw [e]; exact rn_nr_vR u0.1 g hn
    · exact rn_vR_cg (rn_nr_eqR u0.1 s0 e) (u4 s s0 (by omega))
  · rw [ne 1 (by omega) (by omega)] at t1
    have := u5 t t0 t1
    unfold rn_vT rn_tw at *
    rw [ne (472 + 5 * t + 0).toNat (by omega) (by omega), ne (472 + 5 * t + 1).toNat (by omega) (by omega), ne (472 + 5 * t + 2).toNat (by omega) (by omega), ne (472 + 5 * t + 3).toNat (by omega) (by omega), ne (472 + 5 * t + 4).toNat (by omega) (by omega)]
    exact this
  · rw [ne 2 (by omega) (by omega)] at j1
    have := u6 l j0 j1
    have t2 := this.1.2
    have lb : ∀ w' : Int, 0 ≤ w' → rn_lb (rn_nr N L x y k h nm) l w' = rn_lb N l w' := fun w' b => by unfold rn_lb; exact ne _ (by omega) (by omega)
    unfold rn_vL at *
    rw [lb 0 (by omega), lb 1 (by omega), rn_nr_0, rn_nr_eqR u0.1 this.1.1 (by omega) 0 (by omega) (by omega), rn_nr_eqR u0.1 this.1.1 (by omega) 5 (by omega) (by omega)]
    exact ⟨⟨this.1.1, by omega⟩, this.2⟩
theorem rn_Rp_nr {M' : rn_M} {b : Nat} (p : rn_isB b) (hb : rn_Rp M b N) (v : rn_vd N) (c : N 0 ≤ 5) (f : ∀ z, 14 ≤ z → z < 462 → z ≠ b → ¬ rn_PR (b + 4 + 5 * (N 0).toNat) z → rn_gi M' z = rn_gi M z) (fr : ∀ z k, rn_gr M' z k = rn_gr M z k) (g : ∀ j, j ≠ 0 → rn_gi M' b j = rn_gi M b j) (g0 : rn_gi M' b 0 = N 0 + 1)
    (e0 : rn_gi M' (b + 4 + 5 * (N 0).toNat) 0 = rn_gi M (b + 4 + 5 * (N 0).toNat) 0) (e1 : rn_gi M' (b + 4 + 5 * (N 0).toNat) 1 = k) (e2 : rn_gi M' (b + 4 + 5 * (N 0).toNat) 2 = h) (e3 : rn_gi M' (b + 4 + 5 * (N 0).toNat) 3 = L) (e4 : rn_gi M' (b + 4 + 5 * (N 0).toNat) 4 = 0)
    (en : ∀ i : Nat, (i : Int) < L → rn_gi M' (b + 4 + 5 * (N 0).toNat + 1) i = nm i) (ex : rn_gi M' (b + 4 + 5 * (N 0).toNat + 3) 0 = x) (ey : rn_gi M' (b + 4 + 5 * (N 0).toNat + 4) 0 = y) (hL : L ≤ 12) : rn_Rp M' b (rn_nr N L x y k h nm) := by
  have bd := rn_bdB p
  have v0 := v.1
  have v1 := v.2.1
  have v2 := v.2.2.1
  have ne : ∀ j : Nat, j ≠ 0 → ((j : Int) < 4 + 78 * N 0 ∨ 82 + 78 * N 0 ≤ (j : Int)) → rn_nr N L x y k h nm j = N j := fun j a b => rn_nr_ne v0.1 a b
  have o := fun (w : Int) (w0 : 0 ≤ w) (w1 : w < 78) => rn_nr_o (N := N) (L := L) (x := x) (y := y) (k := k) (h := h) (nm := nm) v0.1 w0 w1
  have o5 : rn_o (rn_nr N L x y k h nm) (N 0) 5 = 0 := (o 5 (by omega) (by omega)).trans rn_nv_5
  obtain ⟨⟨q0, q1, q2, q3⟩, p2, p3, p4, p5⟩ := hb
  refine ⟨⟨?_, ?_, ?_, ?_⟩, fun s s0 s1 => ?_, fun s s0 s1 => ?_, fun t t0 t1 => ?_, fun l j0 j1 => ?_⟩
  · rw [g0, rn_nr_0]
  · rw [g 1 (by omega), ne 1 (by omega) (by omega)]; exact q1
  · rw [g 2 (by omega), ne 2 (by omega) (by omega)]; exact q2
  · rw [g 3 (by omega), ne 3 (by omega) (by omega)]; exact q3
  · by_cases e : s = N 0
    · rw [e, e0, ← e]; exact p2 s s0 s1
    · rw [f _ (by omega) (by omega) (by omega) (by unfold rn_PR; omega)]; exact p2 s s0 s1
  · rw [rn_nr_0] at s1
    by_cases e : s = N 0
    · rw [e]
      refine ⟨?_, ?_, ?_, ?_, fun z z0 z1 => ?_, fun z z0 z1 => ?_, fun z z0 z1 => ?_⟩
      · rw [o 1 (by omega) (by omega)]; exact e1
      · rw [o 2 (by omega) (by omega)]; exact e2
      · rw [o 0 (by omega) (by omega)]; exact e3
      · rw [o5]; exact e4
      · rw [o 0 (by omega) (by omega)] at z1
        have z1 : z < L := z1
        rw [o (6 + z) (by omega) (by omega), show (6 + z).toNat = 6 + z.toNat by omega, rn_nv_n (by omega)]
        exact en _ (by omega)
      · rw [o5] at z1; omega
      · rw [o5] at z1
        rw [show z.toNat = 0 by omega]
        show _ = rn_o _ _ 3 ∧ _ = rn_o _ _ 4
        rw [o 3 (by omega) (by omega), o 4 (by omega) (by omega)]
        exact ⟨ex, ey⟩
    · exact rn_Rv_cg (rn_nr_eqR v0.1 s0 e) (v.2.2.2.2.1 s s0 (by omega)) (rn_Rv_eq (f _ (by omega) (by omega) (by omega) (by unfold rn_PR; omega)) (f _ (by omega) (by omega) (by omega) (by unfold rn_PR; omega)) (f _ (by omega) (by omega) (by omega) (by unfold rn_PR; omega)) (f _ (by omega) (by omega) (by omega) (by unfold rn_PR; omega)) (f _ (by omega) (by omega) (by omega) (by unfold rn_PR; omega)) (p3 s s0 (by omega)))
  · rw [ne 1 (by omega) (by omega)] at t1
    have := p4 t t0 t1
    unfold rn_Tw rn_tw at *
    rw [f _ (by omega) (by omega) (by omega) (by unfold rn_PR; omega), ne (472 + 5 * t + 0).toNat (by omega) (by omega), ne (472 + 5 * t + 1).toNat (by omega) (by omega), ne (472 + 5 * t + 2).toNat (by omega) (by omega), ne (472 + 5 * t + 3).toNat (by omega) (by omega), ne (472 + 5 * t + 4).toNat (by omega) (by omega)]
    exact this
  · rw [ne 2 (by omega) (by omega)] at j1
    obtain ⟨q, z1, z2, z3, z4⟩ := p5 l j0 j1
    have bq := rn_bdL z2
    have nq : q ≠ b ∧ ¬ rn_PR (b + 4 + 5 * (N 0).toNat) q := by
      unfold rn_PR
      obtain ⟨j, hj, rfl⟩ := p
      obtain ⟨j', i', a1, a2, a3⟩ := z2
      rcases Nat.lt_trichotomy j j' with h | h | h <;> omega
    have lb : ∀ w' : Int, 0 ≤ w' → rn_lb (rn_nr N L x y k h nm) l w' = rn_lb N l w' := fun w' b => by unfold rn_lb; exact ne _ (by omega) (by omega)
    refine ⟨q, (fr _ _).trans z1, z2, ?_, ?_⟩
    · rw [lb 0 (by omega), fr]; exact z3
    · rw [f q (by omega) (by omega) nq.1 nq.2, lb 1 (by omega)]; exact z4
/-- the name of a river on a board, letter by letter: i letters so far -/
def rn_na (M M' : rn_M) (a : Nat) (i : Int) (nm : Nat → Int) : Prop := rn_ch (fun z => z = a ∨ z = a + 1) M M' ∧ (∀ j, j ≠ 3 → rn_gi M' a j = rn_gi M a j) ∧ rn_gi M' a 3 = i ∧ ∀ j : Nat, (j : Int) < i → rn_gi M' (a + 1) j = nm j
theorem rn_na_0 {a : Nat} (e : rn_gi M a 3 = 0) : rn_na M M a 0 nm := ⟨rn_ch_rf, fun _ _ => rfl, e, fun j hj => by omega⟩
theorem rs_addLetter {M1 : rn_M} {a : Nat} {i s : Int} (hM : rn_sh M1) (p : rn_isR a) (h : rn_na M M1 a i nm) (i0 : 0 ≤ i ∧ i ≤ 11) (e : s = nm i.toNat) (k : ∀ M', rn_na M M' a (i + 1) nm → Q none M') : rn_ME 60 [rn_R a, rn_I s] M1 Q := by
  obtain ⟨h1, h2, h3, h4⟩ := h
  refine re_Ri_addLetter (rb_Ri_addLetter_0 hM p ?_ ?_ ?_) <;> (try rw [h3])
  · omega
  · intro c; omega
  · intro _
    refine k _ ⟨rn_ch_tr h1 (rn_ch_tr (rn_ch_si (Or.inr rfl)) (rn_ch_si (Or.inl rfl))), fun j hj => ?_, rn_si_eq, fun j hj => ?_⟩
    · rw [rn_si_ne (by omega), rn_si_gif (by omega)]; exact h2 j hj
    · rw [rn_si_gif (by omega)]
      by_cases c : j = i.toNat
      · rw [c, rn_si_eq]; exact e
      · rw [rn_si_ne (by omega)]; exact h4 j (by omega)
theorem rq_addRiver (hM : rn_sh M) (hc : rn_Cs M N n K) (k0 : ¬ rn_rg L x y k h → Q (some (rn_I (-1))) M)
    (k1 : rn_rg L x y k h → N 0 = 6 → ∀ M', rn_fc M M' → rn_sh M' → rn_Cs M' N n K → Q (some (rn_I (-3))) M')
    (k2 : rn_rg L x y k h → N 0 ≠ 6 → ∀ M', rn_fc M M' → rn_sh M' → rn_Cs M' (rn_nr N L x y k h (fun i => 97 + i)) (min (n + 1) 5) (rn_nK n K N) → Q (some (rn_I (N 0))) M') : rn_ME 94 [rn_R 8, rn_I L, rn_I x, rn_I y, rn_I k, rn_I h] M Q := by
  refine re_RN_addRiver (rb_RN_addRiver_0 hM ?_ ?_ ?_ ?_ ?_)
  · intro c; exact k0 (fun z => c z.1)
  · intro _ c; exact k0 (fun z => c z.2.1)
  · intro _ _ c; exact k0 (fun z => c z.2.2.1)
  · intro _ _ _ c; exact k0 (fun z => c z.2.2.2)
  · intro g1 g2 g3 g4
    have rg : rn_rg L x y k h := ⟨g1, g2, g3, g4⟩
    refine rs_draft hM hc (fun M1 pr dr kp f1 s1 h1 p wd rp => ?_)
    have bd := rn_bdB p
    have v := h1.2.2.1
    have v0 := v.1
    refine rb_RN_addRiver_43 s1 p (rs_nextRiver s1 p (c := N 0) rp.1.1 (fun c => rb_RN_addRiver_46s ?_) (fun c => rb_RN_addRiver_46n (k1 rg (by omega) M1 f1 s1 (rn_Cs_of h1))))
    have pa : rn_isR (dr + 4 + 5 * (N 0).toNat) := rn_isR_of p (by omega)
    have r0 : rn_gi M1 (dr + 4 + 5 * (N 0).toNat) 0 = N 0 := rp.2.1 (N 0) v0.1 (by omega)
    have s2 : rn_sh (rn_si (rn_si (rn_si M1 (dr + 4 + 5 * (N 0).toNat) 3 0) (dr + 4 + 5 * (N 0).toNat) 4 0) dr 0 (N 0 + 1)) := rn_sh_si (rn_sh_si (rn_sh_si s1))
    have a3 : rn_gi (rn_si (rn_si (rn_si M1 (dr + 4 + 5 * (N 0).toNat) 3 0) (dr + 4 + 5 * (N 0).toNat) 4 0) dr 0 (N 0 + 1)) (dr + 4 + 5 * (N 0).toNat) 3 = 0 := by
      rw [rn_si_gif (by omega), rn_si_ne (by omega), rn_si_eq]
    have a4 : rn_gi (rn_si (rn_si (rn_si M1 (dr + 4 + 5 * (N 0).toNat) 3 0) (dr + 4 + 5 * (N 0).toNat) 4 0) dr 0 (N 0 + 1)) (dr + 4 + 5 * (N 0).toNat) 4 = 0 := by
      rw [rn_si_gif (by omega), rn_si_eq]
    have a0 : rn_gi (rn_si (rn_si (rn_si M1 (dr + 4 + 5 * (N 0).toNat) 3 0) (dr + 4 + 5 * (N 0).toNat) 4 0) dr 0 (N 0 + 1)) (dr + 4 + 5 * (N 0).toNat) 0 = N 0 := by
      rw [rn_si_gif (by omega), rn_si_ne (by omega), rn_si_ne (by omega)]; exact r0
    have b0 : rn_gi (rn_si (rn_si (rn_si M1 (dr + 4 + 5 * (N 0).toNat) 3 0) (dr + 4 + 5 * (N 0).toNat) 4 0) dr 0 (N 0 + 1)) dr 0 = N 0 + 1 := rn_si_eq
    have bj : ∀ j, j ≠ 0 → rn_gi (rn_si (rn_si (rn_si M1 (dr + 4 + 5 * (N 0).toNat) 3 0) (dr + 4 + 5 * (N 0).toNat) 4 0) dr 0 (N 0 + 1)) dr j = rn_gi M1 dr j := fun j hj => by
      rw [rn_si_ne (by omega), rn_si_gif (by omega), rn_si_gif (by omega)]
    have bz : ∀ z, z ≠ dr → z ≠ dr + 4 + 5 * (N 0).toNat → rn_gi (rn_si (rn_si (rn_si M1 (dr + 4 + 5 * (N 0).toNat) 3 0) (dr + 4 + 5 * (N 0).toNat) 4 0) dr 0 (N 0 + 1)) z = rn_gi M1 z := fun z z1 z2 => by
      rw [rn_si_gif (by omega), rn_si_gif (by omega), rn_si_gif (by omega)]
    have br : ∀ z k, rn_gr (rn_si (rn_si (rn_si M1 (dr + 4 + 5 * (N 0).toNat) 3 0) (dr + 4 + 5 * (N 0).toNat) 4 0) dr 0 (N 0 + 1)) z k = rn_gr M1 z k := fun _ _ => rfl
    have b1 : (rn_si (rn_si (rn_si M1 (dr + 4 + 5 * (N 0).toNat) 3 0) (dr + 4 + 5 * (N 0).toNat) 4 0) dr 0 (N 0 + 1)).1 = M1.1 := rfl
    generalize rn_si (rn_si (rn_si M1 (dr + 4 + 5 * (N 0).toNat) 3 0) (dr + 4 + 5 * (N 0).toNat) 4 0) dr 0 (N 0 + 1) = M2 at *
    have loop : ∀ (m : Nat) (i : Int) (M3 : rn_M), i + m = L → 0 ≤ i → rn_na M2 M3 (dr + 4 + 5 * (N 0).toNat) i (fun i => 97 + i) → rn_WP 94 59 [rn_R 8, rn_I L, rn_I x, rn_I y, rn_I k, rn_I h, rn_R (dr + 4 + 5 * (N 0).toNat), rn_I i] [] M3 Q := by
      intro m
      induction m with
      | zero =>
        intro i M3 hi i0 na
        have s3 := rn_sh_ch na.1 s2
        refine rb_RN_addRiver_59 s3 pa ?_ ?_ ?_
        · omega
        · intro z; omega
        · intro _
          obtain ⟨n1, n2, n3, n4⟩ := na
          refine re_Ri_begin (rb_Ri_begin_0 s3 pa ?_)
          have s4 : rn_sh (rn_si (rn_si (rn_si (rn_si M3 (dr + 4 + 5 * (N 0).toNat + 3) 0 x) (dr + 4 + 5 * (N 0).toNat + 4) 0 y) (dr + 4 + 5 * (N 0).toNat) 1 k) (dr + 4 + 5 * (N 0).toNat) 2 h) := rn_sh_si (rn_sh_si (rn_sh_si (rn_sh_si s3)))
          have w : ∀ z, z ≠ dr + 4 + 5 * (N 0).toNat → z ≠ dr + 4 + 5 * (N 0).toNat + 3 → z ≠ dr + 4 + 5 * (N 0).toNat + 4 → rn_gi (rn_si (rn_si (rn_si (rn_si M3 (dr + 4 + 5 * (N 0).toNat + 3) 0 x) (dr + 4 + 5 * (N 0).toNat + 4) 0 y) (dr + 4 + 5 * (N 0).toNat) 1 k) (dr + 4 + 5 * (N 0).toNat) 2 h) z = rn_gi M3 z := fun z z1 z2 z3 => by
            rw [rn_si_gif (by omega), rn_si_gif (by omega), rn_si_gif (by omega), rn_si_gif (by omega)]
          have wa : ∀ j, j ≠ 1 → j ≠ 2 → rn_gi (rn_si (rn_si (rn_si (rn_si M3 (dr + 4 + 5 * (N 0).toNat + 3) 0 x) (dr + 4 + 5 * (N 0).toNat + 4) 0 y) (dr + 4 + 5 * (N 0).toNat) 1 k) (dr + 4 + 5 * (N 0).toNat) 2 h) (dr + 4 + 5 * (N 0).toNat) j = rn_gi M3 (dr + 4 + 5 * (N 0).toNat) j := fun j z1 z2 => by
            rw [rn_si_ne (by omega), rn_si_ne (by omega), rn_si_gif (by omega), rn_si_gif (by omega)]
          have w1 : rn_gi (rn_si (rn_si (rn_si (rn_si M3 (dr + 4 + 5 * (N 0).toNat + 3) 0 x) (dr + 4 + 5 * (N 0).toNat + 4) 0 y) (dr + 4 + 5 * (N 0).toNat) 1 k) (dr + 4 + 5 * (N 0).toNat) 2 h) (dr + 4 + 5 * (N 0).toNat) 1 = k := by
            rw [rn_si_ne (by omega), rn_si_eq]
          have w2 : rn_gi (rn_si (rn_si (rn_si (rn_si M3 (dr + 4 + 5 * (N 0).toNat + 3) 0 x) (dr + 4 + 5 * (N 0).toNat + 4) 0 y) (dr + 4 + 5 * (N 0).toNat) 1 k) (dr + 4 + 5 * (N 0).toNat) 2 h) (dr + 4 + 5 * (N 0).toNat) 2 = h := rn_si_eq
          have wx : rn_gi (rn_si (rn_si (rn_si (rn_si M3 (dr + 4 + 5 * (N 0).toNat + 3) 0 x) (dr + 4 + 5 * (N 0).toNat + 4) 0 y) (dr + 4 + 5 * (N 0).toNat) 1 k) (dr + 4 + 5 * (N 0).toNat) 2 h) (dr + 4 + 5 * (N 0).toNat + 3) 0 = x := by
            rw [rn_si_gif (by omega), rn_si_gif (by omega), rn_si_gif (by omega), rn_si_eq]
          have wy : rn_gi (rn_si (rn_si (rn_si (rn_si M3 (dr + 4 + 5 * (N 0).toNat + 3) 0 x) (dr + 4 + 5 * (N 0).toNat + 4) 0 y) (dr + 4 + 5 * (N 0).toNat) 1 k) (dr + 4 + 5 * (N 0).toNat) 2 h) (dr + 4 + 5 * (N 0).toNat + 4) 0 = y := by
            rw [rn_si_gif (by omega), rn_si_gif (by omega), rn_si_eq]
          have wr : ∀ z j, rn_gr (rn_si (rn_si (rn_si (rn_si M3 (dr + 4 + 5 * (N 0).toNat + 3) 0 x) (dr + 4 + 5 * (N 0).toNat + 4) 0 y) (dr + 4 + 5 * (N 0).toNat) 1 k) (dr + 4 + 5 * (N 0).toNat) 2 h) z j = rn_gr M3 z j := fun _ _ => rfl
          have wk : (rn_si (rn_si (rn_si (rn_si M3 (dr + 4 + 5 * (N 0).toNat + 3) 0 x) (dr + 4 + 5 * (N 0).toNat + 4) 0 y) (dr + 4 + 5 * (N 0).toNat) 1 k) (dr + 4 + 5 * (N 0).toNat) 2 h).1 = M3.1 := rfl
          generalize rn_si (rn_si (rn_si (rn_si M3 (dr + 4 + 5 * (N 0).toNat + 3) 0 x) (dr + 4 + 5 * (N 0).toNat + 4) 0 y) (dr + 4 + 5 * (N 0).toNat) 1 k) (dr + 4 + 5 * (N 0).toNat) 2 h = M4 at *
          have ff : ∀ z, z ≠ dr → ¬ rn_PR (dr + 4 + 5 * (N 0).toNat) z → rn_gi M4 z = rn_gi M1 z := fun z z1 z2 => by
            unfold rn_PR at z2
            rw [w z (by omega) (by omega) (by omega), n1.2.2 z (by omega), bz z z1 (by omega)]
          have fr : ∀ z j, rn_gr M4 z j = rn_gr M1 z j := fun z j => (wr z j).trans ((n1.2.1 z j).trans (br z j))
          have gd : ∀ j, rn_gi M4 dr j = rn_gi M2 dr j := fun j => by rw [w dr (by omega) (by omega) (by omega), n1.2.2 dr (by omega)]
          have e0 : rn_gi M4 (dr + 4 + 5 * (N 0).toNat) 0 = N 0 := by rw [wa 0 (by omega) (by omega), n2 0 (by omega), a0]
          have r4 := rn_Rp_nr (M' := M4) (L := L) (x := x) (y := y) (k := k) (h := h) (nm := fun i => 97 + i) p rp v (by omega) (fun z _ _ => ff z) fr (fun j hj => (gd j).trans (bj j hj)) ((gd 0).trans b0) (e0.trans r0.symm) w1 w2 (by rw [wa 3 (by omega) (by omega), n3]; omega) (by rw [wa 4 (by omega) (by omega), n2 4 (by omega), a4]) (fun j hj => by rw [w _ (by omega) (by omega) (by omega)]; exact n4 j (by omega)) wx wy (by omega)
          have v4 := rn_nr_vd (L := L) (x := x) (y := y) (k := k) (h := h) (nm := fun i => 97 + i) v (by omega) rg (fun i hi => by omega)
          have cb : rn_cb dr M1 M4 := ⟨wk.trans (n1.1.trans b1), fun z hz => ⟨ff z (by omega) (by unfold rn_PR; omega), fun j => fr z j⟩⟩
          have w4 : rn_Bw M4 dr := by
            refine rn_Bw_eq (M := M1) (fun i hi => ?_) (fun j => fr _ j) wd
            by_cases e : i = (N 0).toNat
            · rw [e, e0, r0]
            · rw [ff _ (by omega) (by unfold rn_PR; omega)]
          refine rb_RN_addRiver_92 s4 (rs_enter2 s4 h1 (rn_cj_cb cb) w4 r4 v4 (fun M' f2 s3 c6 g => rb_RN_addRiver_99 s3 pa ?_))
          rw [(g.2 _ (by omega) (by omega)).1, e0]
          exact k2 rg (by omega) M' (rn_fc_tr f1 (rn_fc_tr (rn_fc_cj p (rn_cj_cb cb)) f2)) s3 c6
      | succ m ih =>
        intro i M3 hi i0 na
        have s3 := rn_sh_ch na.1 s2
        refine rb_RN_addRiver_59 s3 pa ?_ ?_ ?_
        · omega
        · intro _
          refine rs_addLetter s3 pa na (by omega) (by show 97 + i = 97 + ((i.toNat : Nat) : Int); omega) (fun M4 na4 => rb_RN_addRiver_75 (by omega) ?_)
          exact ih (i + 1) M4 (by omega) (by omega) na4
        · intro z; omega
    exact loop L.toNat 0 M2 (by omega) (by omega) (rn_na_0 a3)
end NRV
