/-! the law, over the abstract machine -/
theorem rn_fm7 : (List.range 7).flatMap (fun _ => rn_SB) = rn_bl 7 := by decide +kernel
theorem rn_SH_l8 (N : Nat) : rn_SH N = [(21, N), (21, 8), (21, 8), (22, 0), (22, 0), (23, 5), (23, 4), (24, 0)] ++ [(10, 4)] ++ rn_l8 ++ [(11, 15)] ++ [(20, 562), (20, 2810), (20, 150), (20, 61), (20, 61), (20, 2400), (20, 5), (20, 562), (20, 562)] := by
  unfold rn_SH rn_l8
  rw [rn_fm7]
  simp
theorem rn_l8_len : rn_l8.length = 457 := by decide +kernel
section LWS
variable {M : rn_M}
theorem rn_nbd_Bw {b : Nat} (h : rn_nbd M b) : rn_Bw M b :=
  ⟨fun i hi => (h.2.2.1 i hi).2.1, fun l => l, fun l hl => ⟨h.2.2.2.2 l hl, hl⟩, fun l l' _ _ e => e⟩
theorem rn_N0_vd : rn_vd rn_N0 := by
  have e0 : rn_N0 0 = 0 := rfl
  have e1 : rn_N0 1 = 0 := rfl
  have e2 : rn_N0 2 = 0 := rfl
  have e3 : rn_N0 3 = 10 := rfl
  refine ⟨by omega, by omega, by omega, by omega, fun r r0 r1 => by omega, fun t t0 t1 => by omega, fun l l0 l1 => by omega⟩
theorem rn_nbd_Rp {b : Nat} (h : rn_nbd M b) : rn_Rp M b rn_N0 := by
  have e0 : rn_N0 0 = 0 := rfl
  have e1 : rn_N0 1 = 0 := rfl
  have e2 : rn_N0 2 = 0 := rfl
  have e3 : rn_N0 3 = 10 := rfl
  refine ⟨⟨h.1.1.trans e0.symm, h.1.2.1.trans e1.symm, h.1.2.2.1.trans e2.symm, h.1.2.2.2.trans e3.symm⟩, fun r r0 r1 => ?_, fun r r0 r1 => by omega, fun t t0 t1 => by omega, fun l l0 l1 => by omega⟩
  have := (h.2.2.1 r.toNat (by omega)).2.1
  rw [this]; omega
theorem rn_ok8_Cs (h : rn_ok8 M) : rn_Cs M rn_N0 0 (fun _ _ => 0) := by
  obtain ⟨h1, h2, h3, h4, h5, h6⟩ := h
  have isB : ∀ j, j < 7 → rn_isB (14 + 64 * j) := fun j hj => ⟨j, hj, rfl⟩
  refine ⟨14, 78, fun i => 142 + 64 * i, ⟨⟨h2.2.2.2.1, h2.2.2.2.2.1, h3⟩, ⟨⟨isB 0 (by omega), rn_nbd_Bw (h4 0 (by omega))⟩, ⟨isB 1 (by omega), rn_nbd_Bw (h4 1 (by omega))⟩, fun i hi => ?_⟩, by omega, fun i hi => ⟨by show 142 + 64 * i ≠ 14; omega, by show 142 + 64 * i ≠ 78; omega⟩, fun i j hi hj e => by have e : 142 + 64 * i = 142 + 64 * j := e; omega⟩, rn_nbd_Rp (h4 0 (by omega)), rn_N0_vd, h6, by omega, fun i hi => by omega⟩
  have e : 142 + 64 * i = 14 + 64 * (2 + i) := by omega
  show rn_isB (142 + 64 * i) ∧ rn_Bw M (142 + 64 * i)
  rw [e]
  exact ⟨isB (2 + i) (by omega), rn_nbd_Bw (h4 (2 + i) (by omega))⟩
theorem rn_ok8_sh {N : Nat} (l : M.1 = rn_SH N) (h : rn_ok8 M) (r : rn_gr M 466 0 = some 467 ∧ rn_gr M 466 1 = some 468 ∧ rn_gr M 466 3 = some 469 ∧ rn_gr M 466 5 = some 470 ∧ rn_gr M 466 6 = some 471 ∧ rn_gr M 466 7 = some 472 ∧ rn_gr M 466 12 = some 473 ∧ rn_gr M 466 13 = some 474 ∧ rn_gr M 466 14 = some 475) : rn_sh M := by
  obtain ⟨⟨a0, a1, a2, a3⟩, ⟨b1, b2, b3, b4, b5, b6, b7⟩, h3, h4, h5, h6⟩ := h
  obtain ⟨c0, c1, c2, c3, c4, c5, c6, c7, c8⟩ := r
  refine ⟨⟨N, l⟩, fun a k v hv => ?_, fun j hj => ?_⟩
  · unfold rn_fx at hv
    split at hv <;> first | (cases hv; assumption) | (cases hv)
  · obtain ⟨g1, g2, g3, g4, g5⟩ := h4 j hj
    have q1 : 14 + 64 * j + 1 = 15 + 64 * j := by omega
    have q2 : 14 + 64 * j + 2 = 16 + 64 * j := by omega
    have q3 : 14 + 64 * j + 3 = 17 + 64 * j := by omega
    rw [q1, q2, q3] at g2
    rw [q1] at g3
    rw [q2] at g4
    refine ⟨g2.1, g2.2.1, g2.2.2, fun i hi => ?_, fun i hi => ?_⟩
    · have := g3 i hi
      rw [show 14 + 64 * j + 4 + 5 * i = 18 + 64 * j + 5 * i by omega, show 14 + 64 * j + 5 + 5 * i = 19 + 64 * j + 5 * i by omega, show 14 + 64 * j + 6 + 5 * i = 20 + 64 * j + 5 * i by omega, show 14 + 64 * j + 7 + 5 * i = 21 + 64 * j + 5 * i by omega, show 14 + 64 * j + 8 + 5 * i = 22 + 64 * j + 5 * i by omega] at this
      exact ⟨this.1, this.2.2.1, this.2.2.2.1, this.2.2.2.2.1, this.2.2.2.2.2⟩
    · have := g4 i hi
      rw [show 14 + 64 * j + 34 + i = 48 + 64 * j + i by omega] at this
      exact this
theorem rn_wrd_M0 {N : Nat} {xs : Nat → Int} (l : M.1 = rn_SH N) (x : rn_xl 8 (rn_M0 N xs) M) : rn_wrd M 3 5 5 rn_wR ∧ rn_wrd M 4 6 4 rn_wT := by
  have k3 : rn_kd M 3 = 22 := by unfold rn_kd; rw [l]; rfl
  have k4 : rn_kd M 4 = 22 := by unfold rn_kd; rw [l]; rfl
  have k5 : rn_ba M 5 5 := by unfold rn_ba rn_kd rn_ln; rw [l]; exact ⟨rfl, rfl⟩
  have k6 : rn_ba M 6 4 := by unfold rn_ba rn_kd rn_ln; rw [l]; exact ⟨rfl, rfl⟩
  refine ⟨⟨k3, ((x 3 (by omega)).2 0).trans rfl, by rw [(x 3 (by omega)).1]; rfl, k5, by decide, by omega, fun i hi => ?_⟩, ⟨k4, ((x 4 (by omega)).2 0).trans rfl, by rw [(x 4 (by omega)).1]; rfl, k6, by decide, by omega, fun i hi => ?_⟩⟩
  · rw [(x 5 (by omega)).1]
    refine ⟨rfl, ?_⟩
    rcases (by omega : i = 0 ∨ i = 1 ∨ i = 2 ∨ i = 3 ∨ i = 4) with q | q | q | q | q <;> subst q <;> decide
  · rw [(x 6 (by omega)).1]
    refine ⟨rfl, ?_⟩
    rcases (by omega : i = 0 ∨ i = 1 ∨ i = 2 ∨ i = 3) with q | q | q | q <;> subst q <;> decide
theorem rn_St_M0 {N : Nat} {xs : Nat → Int} (x : rn_xl 8 (rn_M0 N xs) M) : rn_St M := by
  intro k k0 k1
  rw [(x 1 (by omega)).1, (x 2 (by omega)).1]
  show rn_sR.getD k.toNat 0 = _ ∧ rn_sD.getD k.toNat 0 = _
  rcases (by omega : k = 0 ∨ k = 1 ∨ k = 2 ∨ k = 3 ∨ k = 4 ∨ k = 5 ∨ k = 6 ∨ k = 7) with q | q | q | q | q | q | q | q <;> subst q <;> decide
theorem rn_law (N : Nat) (hN : N ≤ 3072) (xs : Nat → Int) (hxs : ∀ k, -2147483648 ≤ xs k ∧ xs k ≤ 2147483647) : rn_ME 215 [rn_R 0] (rn_M0 N xs) (fun r _ => r = some (rn_I 1)) := by
  have lenM : (rn_M0 N xs).1.length = 8 := rfl
  obtain ⟨a1, a2, a3, a4, a5, a6⟩ := rn_nwf (M := rn_M0 N xs) (k := 10) (n := 4) (p := 600) (q := 50000) lenM
  have w1 : (rn_nw (rn_M0 N xs) 10 4).2.1.1 = 999 := rfl
  have w2 : (rn_nw (rn_M0 N xs) 10 4).2.1.2 = 99996 := rfl
  refine re_Lw_law (rb_Lw_law_0 rn_nw_kn.1 ⟨show (1 : Nat) ≤ 1000 by omega, show (4 : Nat) ≤ 100000 by omega⟩ ?_)
  rw [w1, w2, lenM]
  refine ⟨by omega, by omega, ?_⟩
  generalize hp : 999 - 600 = p1x
  generalize hq : 99996 - 50000 = q1x
  generalize rn_sb (rn_nw (rn_M0 N xs) 10 4) 600 50000 = A at *
  refine rs_RN_init a2 a3 (by rw [a6]; decide) (by rw [a6]; decide) (fun M1 l1 x1 ok1 => ?_)
  rw [a1] at l1
  have x1 : rn_xl 8 (rn_M0 N xs) M1 := rn_xl_tr a4 x1
  show rn_WP 215 7 [rn_R 0, rn_J, rn_J, rn_J] [rn_R 8] (rn_sb M1 p1x q1x) (fun r _ => r = some (rn_I 1))
  have lenB : (rn_sb M1 p1x q1x).1.length = 466 := by
    show M1.1.length = 466
    rw [l1, List.length_append, List.length_append, lenM, rn_l8_len]
    rfl
  obtain ⟨b1, b2, b3, b4, b5, b6⟩ := rn_nwf (M := rn_sb M1 p1x q1x) (k := 11) (n := 15) (p := 20) (q := 10000) lenB
  have w3 : (rn_nw (rn_sb M1 p1x q1x) 11 15).2.1.1 = p1x - 1 := rfl
  have w4 : (rn_nw (rn_sb M1 p1x q1x) 11 15).2.1.2 = q1x - 15 := rfl
  refine rb_Lw_law_7 (M := rn_sb M1 p1x q1x) (rs0 := some 8) rn_nw_kn.1 ⟨show 1 ≤ p1x by omega, show 15 ≤ q1x by omega⟩ ?_
  rw [w3, w4, lenB]
  refine ⟨by omega, by omega, ?_⟩
  generalize p1x - 1 - 20 = p2x
  generalize q1x - 15 - 10000 = q2x
  generalize rn_sb (rn_nw (rn_sb M1 p1x q1x) 11 15) 20 10000 = B at *
  refine rs_Mo_init b2 b3 (by rw [b6]; decide) (by rw [b6]; decide) (fun M2 l2 x2 g2 n2 z2 r2 => rb_Lw_law_15 ?_)
  rw [b1] at l2
  have x2 : rn_xl 466 M1 M2 := fun x hx => ⟨(x2 x hx).1.trans (b4 x hx).1, fun j => ((x2 x hx).2 j).trans ((b4 x hx).2 j)⟩
  have lM : M2.1 = rn_SH N := by
    rw [l2]
    show M1.1 ++ [(11, 15)] ++ _ = _
    rw [l1, rn_SH_l8]
    rfl
  have xM : rn_xl 8 (rn_M0 N xs) M2 := rn_xl_tr x1 (rn_xl_le x2 (by omega))
  have ok2 : rn_ok8 M2 := by
    obtain ⟨⟨u0, u1, u2, u3⟩, ⟨v1, v2, v3, v4, v5, v6, v7⟩, h3, h4, h5, h6⟩ := ok1
    have t : ∀ x j, x < 466 → rn_gr M2 x j = rn_gr M1 x j := fun x j hx => (x2 x hx).2 j
    refine ⟨⟨(t 8 0 (by omega)).trans u0, (t 8 1 (by omega)).trans u1, (t 8 2 (by omega)).trans u2, (t 8 3 (by omega)).trans u3⟩, ⟨(t 9 0 (by omega)).trans v1, (t 10 1 (by omega)).trans v2, (t 12 1 (by omega)).trans v3, (t 12 2 (by omega)).trans v4, (t 12 3 (by omega)).trans v5, (t 462 0 (by omega)).trans v6, (t 464 1 (by omega)).trans v7⟩, fun i hi => (t 13 i (by omega)).trans (h3 i hi), fun j hj => rn_nbd_eq (M := M1) (fun x q1 q2 => x2 x (by omega)) (h4 j hj), ?_, ?_⟩
    · rw [(x2 10 (by omega)).1]; exact h5
    · rw [(x2 12 (by omega)).1]; exact h6
  have sh : rn_sh M2 := rn_ok8_sh lM ok2 r2
  have cs : rn_Cs M2 rn_N0 0 (fun _ _ => 0) := rn_ok8_Cs ok2
  have wd := rn_wrd_M0 lM xM
  have st := rn_St_M0 xM
  have z466 : ∀ j, rn_gi M2 466 j = 0 := fun j => by rw [g2]; exact b5 j
  have z10 : rn_gi M2 10 0 = 0 := ok2.2.2.2.2.1
  have ms : rn_Ms M2 rn_N0 0 (fun _ _ => 0) 0 := ⟨n2, z466 2, fun i hi => by omega, ⟨fun c hc => by rw [z2 c, z466 8]; omega, by rw [z466 8]; omega, by rw [z466 8]; omega⟩⟩
  have tx : rn_Tx M2 := ⟨by omega, by rw [z466 4]; exact z10.symm, fun i i0 i1 => by omega⟩
  have fa : rn_fa M2 0 N := by unfold rn_fa rn_kd rn_ln; rw [lM]; exact ⟨rfl, rfl⟩
  have c0 : rn_ch (fun _ => False) M2 (rn_sb M2 p2x q2x) := ⟨rfl, fun _ _ => rfl, fun _ _ => rfl⟩
  have kk : rn_kp M2 (rn_sb M2 p2x q2x) := rn_kp_ch (fun _ _ z => z) c0
  exact rn_loop (fun _ => rfl) 512 0 (rn_sb M2 p2x q2x) rn_N0 0 (fun _ _ => 0) 0 (by omega) (by omega) (by omega) ⟨rn_sh_ch c0 sh, rn_St_kp kk st, rn_Cs_ch (fun _ _ _ z => z) c0 cs, ms, tx, rn_fa_kp kk fa, rn_wrd_kp wd.1 kk (by omega) (by omega), rn_wrd_kp wd.2 kk (by omega) (by omega)⟩ (by omega)
end LWS
