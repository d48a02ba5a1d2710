/-! the law, over the abstract machine -/
theorem rn_fm7 : (List.range 7).flatMap (fun _ => rn_SB) = rn_bl 7 := by decide +kernel
theorem rn_SH_l8 (N : Nat) : rn_SH N = [(21, N), (21, 8), (21, 8), (24, 0), (24, 0), (24, 0), (24, 0), (24, 0)] ++ [(10, 4)] ++ rn_l8 := by
  unfold rn_SH rn_l8
  rw [rn_fm7]
  simp
theorem rn_l8_len : rn_l8.length = 457 := by decide +kernel
section LWS
variable {M : rn_M}
theorem rn_nbd_Bw {b : Nat} (h : rn_nbd M b) : rn_Bw M b :=
  ⟨fun i hi => (h.2.2.1 i hi).2.1, fun l => l, fun l hl => ⟨h.2.2.2.2 l hl, hl⟩, fun l l' _ _ e => e⟩
theorem rn_N0_vd : rn_vd rn_N0 := by
  have e0 : rn_N0 0 = 0 := rfl
  have e1 : rn_N0 1 = 0 := rfl
  have e2 : rn_N0 2 = 0 := rfl
  have e3 : rn_N0 3 = 10 := rfl
  refine ⟨by omega, by omega, by omega, by omega, fun r r0 r1 => by omega, fun t t0 t1 => by omega, fun l l0 l1 => by omega⟩
theorem rn_nbd_Rp {b : Nat} (h : rn_nbd M b) : rn_Rp M b rn_N0 := by
  have e0 : rn_N0 0 = 0 := rfl
  have e1 : rn_N0 1 = 0 := rfl
  have e2 : rn_N0 2 = 0 := rfl
  have e3 : rn_N0 3 = 10 := rfl
  refine ⟨⟨h.1.1.trans e0.symm, h.1.2.1.trans e1.symm, h.1.2.2.1.trans e2.symm, h.1.2.2.2.trans e3.symm⟩, fun r r0 r1 => ?_, fun r r0 r1 => by omega, fun t t0 t1 => by omega, fun l l0 l1 => by omega⟩
  have := (h.2.2.1 r.toNat (by omega)).2.1
  rw [this]; omega
theorem rn_ok8_Cs (h : rn_ok8 M) : rn_Cs M rn_N0 0 (fun _ _ => 0) := by
  obtain ⟨h1, h2, h3, h4, h5, h6⟩ := h
  have isB : ∀ j, j < 7 → rn_isB (14 + 64 * j) := fun j hj => ⟨j, hj, rfl⟩
  refine ⟨14, 78, fun i => 142 + 64 * i, ⟨⟨h2.2.2.2.1, h2.2.2.2.2.1, h3⟩, ⟨⟨isB 0 (by omega), rn_nbd_Bw (h4 0 (by omega))⟩, ⟨isB 1 (by omega), rn_nbd_Bw (h4 1 (by omega))⟩, fun i hi => ?_⟩, by omega, fun i hi => ⟨by show 142 + 64 * i ≠ 14; omega, by show 142 + 64 * i ≠ 78; omega⟩, fun i j hi hj e => by have e : 142 + 64 * i = 142 + 64 * j := e; omega⟩, rn_nbd_Rp (h4 0 (by omega)), rn_N0_vd, h6, by omega, fun i hi => by omega⟩
  have e : 142 + 64 * i = 14 + 64 * (2 + i) := by omega
  show rn_isB (142 + 64 * i) ∧ rn_Bw M (142 + 64 * i)
  rw [e]
  exact ⟨isB (2 + i) (by omega), rn_nbd_Bw (h4 (2 + i) (by omega))⟩
theorem rn_ok8_sh {N : Nat} (l : M.1 = rn_SH N) (h : rn_ok8 M) : rn_sh M := by
  obtain ⟨⟨a0, a1, a2, a3⟩, ⟨b1, b2, b3, b4, b5, b6, b7⟩, h3, h4, h5, h6⟩ := h
  refine ⟨⟨N, l⟩, fun a k v hv => ?_, fun j hj => ?_⟩
  · unfold rn_fx at hv
    split at hv <;> first | (cases hv; assumption) | (cases hv)
  · obtain ⟨g1, g2, g3, g4, g5⟩ := h4 j hj
    have q1 : 14 + 64 * j + 1 = 15 + 64 * j := by omega
    have q2 : 14 + 64 * j + 2 = 16 + 64 * j := by omega
    have q3 : 14 + 64 * j + 3 = 17 + 64 * j := by omega
    rw [q1, q2, q3] at g2
    rw [q1] at g3
    rw [q2] at g4
    refine ⟨g2.1, g2.2.1, g2.2.2, fun i hi => ?_, fun i hi => ?_⟩
    · have := g3 i hi
      rw [show 14 + 64 * j + 4 + 5 * i = 18 + 64 * j + 5 * i by omega, show 14 + 64 * j + 5 + 5 * i = 19 + 64 * j + 5 * i by omega, show 14 + 64 * j + 6 + 5 * i = 20 + 64 * j + 5 * i by omega, show 14 + 64 * j + 7 + 5 * i = 21 + 64 * j + 5 * i by omega, show 14 + 64 * j + 8 + 5 * i = 22 + 64 * j + 5 * i by omega] at this
      exact ⟨this.1, this.2.2.1, this.2.2.2.1, this.2.2.2.2.1, this.2.2.2.2.2⟩
    · have := g4 i hi
      rw [show 14 + 64 * j + 34 + i = 48 + 64 * j + i by omega] at this
      exact this
theorem rn_St_M0 {N : Nat} {xs : Nat → Int} (x : rn_xl 8 (rn_M0 N xs) M) : rn_St M := by
  intro k k0 k1
  rw [(x 1 (by omega)).1, (x 2 (by omega)).1]
  show rn_sR.getD k.toNat 0 = _ ∧ rn_sD.getD k.toNat 0 = _
  rcases (by omega : k = 0 ∨ k = 1 ∨ k = 2 ∨ k = 3 ∨ k = 4 ∨ k = 5 ∨ k = 6 ∨ k = 7) with q | q | q | q | q | q | q | q <;> subst q <;> decide
theorem rn_law (N : Nat) (hN : N ≤ 3072) (xs : Nat → Int) : rn_ME 215 [rn_R 0] (rn_M0 N xs) (fun r _ => r = some (rn_I 1)) := by
  have lenM : (rn_M0 N xs).1.length = 8 := rfl
  obtain ⟨a1, a2, a3, a4, a5, a6⟩ := rn_nwf (M := rn_M0 N xs) (k := 10) (n := 4) (p := 600) (q := 50000) lenM
  have w1 : (rn_nw (rn_M0 N xs) 10 4).2.1.1 = 999 := rfl
  have w2 : (rn_nw (rn_M0 N xs) 10 4).2.1.2 = 99996 := rfl
  refine re_Lw_law (rb_Lw_law_0 rn_nw_kn.1 ⟨show (1 : Nat) ≤ 1000 by omega, show (4 : Nat) ≤ 100000 by omega⟩ ?_)
  rw [w1, w2, lenM]
  refine ⟨by omega, by omega, ?_⟩
  generalize hp : 999 - 600 = p1x
  generalize hq : 99996 - 50000 = q1x
  generalize rn_sb (rn_nw (rn_M0 N xs) 10 4) 600 50000 = A at *
  refine rs_RN_init a2 a3 (by rw [a6]; decide) (by rw [a6]; decide) (fun M1 l1 x1 ok1 => ?_)
  rw [a1] at l1
  have xM : rn_xl 8 (rn_M0 N xs) M1 := rn_xl_tr a4 x1
  have lM : M1.1 = rn_SH N := by
    rw [l1, rn_SH_l8]
    rfl
  have sh : rn_sh M1 := rn_ok8_sh lM ok1
  have cs : rn_Cs M1 rn_N0 0 (fun _ _ => 0) := rn_ok8_Cs ok1
  have st := rn_St_M0 xM
  have z10 : rn_gi M1 10 0 = 0 := ok1.2.2.2.2.1
  have fa : rn_fa M1 0 N := by unfold rn_fa rn_kd rn_ln; rw [lM]; exact ⟨rfl, rfl⟩
  have g0 : rn_gi M1 0 = xs := (xM 0 (by omega)).1
  have J1 : rn_Jq (N, xs) M1 rn_N0 0 (fun _ _ => 0) := ⟨sh, st, cs, z10, ⟨fa, g0⟩, fun r x r0 r1 x0 x1 => by have : r < 0 := r1; omega, fun i hi => by omega⟩
  have c0 : rn_ch (fun _ => False) M1 (rn_sb M1 p1x q1x) := ⟨rfl, fun _ _ => rfl, fun _ _ => rfl⟩
  have J2 := rn_Jch (rn_ch_mono (fun _ z => z.elim) c0) J1
  refine rb_Lw_law_7 J2 (fun M3 J3 => iq_undo0 J3 rfl (fun M4 J4 => rb_Lw_law_12 J4 rfl (fun M5 J5 => rs_law_39 (fun _ => rfl) 70 0 rn_N0 0 _ M5 _ _ _ _ _ _ _ _ J5 (by omega) (by omega))))
end LWS
