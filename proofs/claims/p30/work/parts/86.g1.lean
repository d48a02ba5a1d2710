/-! areTidied -/
section LG
variable {G : Nat × (Nat → Int)} {M : rn_M} {Q : rn_Q} {N : Nat → Int} {n : Int} {K : Nat → Nat → Int}
theorem rl_v20 (v : rn_vd N) : rn_vd (rn_up N 2 0) := by
  obtain ⟨u0, u1, u2, u3, u4, u5, u6⟩ := v
  have e0 : rn_up N 2 0 0 = N 0 := rn_up_ne (by omega)
  have e1 : rn_up N 2 0 1 = N 1 := rn_up_ne (by omega)
  have e2 : rn_up N 2 0 2 = 0 := rn_up_eq
  have e3 : rn_up N 2 0 3 = N 3 := rn_up_ne (by omega)
  refine ⟨by rw [e0]; exact u0, by rw [e1]; exact u1, by rw [e2]; omega, by rw [e3]; exact u3, fun r r0 r1 => ?_, fun t t0 t1 => ?_, fun l l0 l1 => by rw [e2] at l1; omega⟩
  · rw [e0] at r1
    exact rn_vR_cg (fun w w0 w1 => by unfold rn_o; exact rn_up_ne (by omega)) (u4 r r0 r1)
  · rw [e1] at t1
    have e : ∀ w : Int, 0 ≤ w → rn_tw (rn_up N 2 0) t w = rn_tw N t w := fun w w0 => by unfold rn_tw; exact rn_up_ne (by omega)
    have := u5 t t0 t1
    unfold rn_vT at *
    rw [e 0 (by omega), e 1 (by omega), e 2 (by omega), e 3 (by omega), e 4 (by omega)]
    exact this
theorem iq_tidy (J : rn_Jq G M N n K) (k : ∀ M', rn_Jq G M' (rn_tdf (N 2).toNat N 0) (min (n + 1) 5) (rn_nK n K N) → Q (some (rn_I (N 2 - rn_tdf (N 2).toNat N 0 2))) M') : rn_ME 104 [rn_R 8] M Q :=
  rq_tidy J.1 J.2.2.1 (fun M1 c s g => k M1 (rn_Jnw c s g (rl_sm_gd (rl_tidy (rn_Jv J)).1 (rn_Jv J) (rn_Jg J)) J))
theorem iq_place (J : rn_Jq G M N n K) {x : Int} (h : 1 ≤ x ∧ x ≤ 5) (k : ∀ M', rn_Jq G M' (rn_laa x.toNat 9 (rn_up N 2 0)) (min (n + 1) 5) (rn_nK n K N) → Q (some (rn_I (rn_laa x.toNat 9 (rn_up N 2 0) 2))) M') : rn_ME 103 [rn_R 8, rn_I x] M Q :=
  rq_place J.1 J.2.2.1 (fun _ M1 c s g => k M1 (rn_Jnw c s g (rl_sm_gd (rl_place (rn_Jv J) (rl_v20 (rn_Jv J)) h.1 _ rfl).2.1 (rn_Jv J) (rn_Jg J)) J)) (fun z => absurd h z)
theorem rl_nK_two {N1 : Nat → Int} (hn : 0 ≤ n ∧ n ≤ 5) : rn_nK (min (n + 1) 5) (rn_nK n K N) N1 (min (min (n + 1) 5) 4 - 1).toNat = N := by
  unfold rn_nK
  rw [if_neg (by omega)]
  have e : (if min (n + 1) 5 = 5 then (min (min (n + 1) 5) 4 - 1).toNat + 1 else (min (min (n + 1) 5) 4 - 1).toNat) = (min n 4).toNat := by split <;> omega
  rw [e, if_pos rfl]
theorem rs_at_244 {v2 v3 v4 v5 v6 v9 : rn_V} {x : Int} (h6 : rn_ca v6 = 1) (hb : ∀ q : Int, 0 ≤ q → q < N 0 → N 2 = 20 ∨ rn_lo N q = x ∨ rn_best N q = -9) (kk : ∀ M' w10 w11, rn_Jq G M' N n K → rn_ME 105 [rn_R 8] M' (fun r M1 => rn_WP 131 311 [rn_R 8, rn_I x, v2, v3, v4, v5, v6, rn_I 1, rn_I (N 2), v9, w10, w11] (r.toList ++ []) M1 Q)) : ∀ (j : Nat) (q : Int) (M : rn_M) (v11 : rn_V), rn_Jq G M N n K → 0 ≤ q → q + j = N 0 → rn_WP 131 244 [rn_R 8, rn_I x, v2, v3, v4, v5, v6, rn_I 1, rn_I (N 2), v9, rn_I q, v11] [] M Q := by
  intro j
  induction j with
  | zero =>
    intro q M v11 J q0 e
    exact rb_Lw_areTidied_244 J h6 (fun z => by omega) (fun z => by omega) (fun z => by omega) (fun z => by omega) (fun z => by omega) (fun z => by omega) (fun z => by omega) (fun _ M' J' => kk M' _ _ J')
  | succ j ih =>
    intro q M v11 J q0 e
    have v0 := (rn_Jv J).1
    have hq := hb q q0 (by omega)
    have nx : ∀ M', rn_Jq G M' N n K → rn_WP 131 244 [rn_R 8, rn_I x, v2, v3, v4, v5, v6, rn_I 1, rn_I (N 2), v9, rn_I (q + 1), v11] [] M' Q := fun M' J' => ih (q + 1) M' _ J' (by omega) (by omega)
    exact rb_Lw_areTidied_244 J h6 (fun _ _ => by omega) (fun _ _ => by omega) (fun _ _ _ => by omega) (fun _ c1 c2 => by omega) (fun _ _ => nx) (fun _ _ _ => nx) (fun _ _ _ => nx) (fun z => by omega)
theorem rs_at_164 {v2 v3 v4 v5 v6 : rn_V} {x : Int} (h6 : rn_ca v6 = 1) (hm : ∀ l : Int, 0 ≤ l → l < N 2 → ¬ rn_mf N l) (hs : ∀ i j : Int, 0 ≤ i → i < j → j < N 2 → rn_o N (rn_lb N j 0) 1 ≤ rn_o N (rn_lb N i 0) 1) (hc : ∀ q : Int, 0 ≤ q → q < N 0 → rn_lo N q ≤ x)
    (kk : ∀ M' w9 w11, rn_Jq G M' N n K → rn_WP 131 244 [rn_R 8, rn_I x, v2, v3, v4, v5, v6, rn_I 1, rn_I (N 2), w9, rn_I 0, w11] [] M' Q) : ∀ (j : Nat) (l rk : Int) (M : rn_M) (v11 : rn_V), rn_Jq G M N n K → 0 ≤ l → l + j = N 2 → (∀ i : Int, l ≤ i → i < N 2 → rn_o N (rn_lb N i 0) 1 ≤ rk) → rn_WP 131 164 [rn_R 8, rn_I x, v2, v3, v4, v5, v6, rn_I 1, rn_I (N 2), rn_I rk, rn_I l, v11] [] M Q := by
  intro j
  induction j with
  | zero =>
    intro l rk M v11 J l0 e hr
    exact rb_Lw_areTidied_164 J h6 (fun z => by omega) (fun z => by omega) (fun _ M' J' => kk M' _ _ J')
  | succ j ih =>
    intro l rk M v11 J l0 e hr
    have v := rn_Jv J
    have w2 := v.2.2.1
    have vl := (v.2.2.2.2.2.2 l l0 (by omega)).1
    have a1 := hr l (Int.le_refl _) (by omega)
    have a2 := hc _ vl.1 vl.2
    have a3 := rl_mf_no.mp (hm l l0 (by omega))
    refine rb_Lw_areTidied_164 J h6 (fun _ => by omega) (fun _ M1 J1 => ih (l + 1) _ M1 _ J1 (by omega) (by omega) (fun i i0 i1 => hs l i l0 (by omega) i1)) (fun z => by omega)
theorem iq_areTidied (J : rn_Jq G M N n K) {x : Int} (h : 1 ≤ x ∧ x ≤ 5) (k : ∀ M' n' K', rn_Jq G M' N n' K' → Q (some (rn_I 1)) M') : rn_ME 131 [rn_R 8, rn_I x] M Q := by
  have v := rn_Jv J
  have v2 := v.2.2.1
  have hn := rn_Jn J
  have e := rn_cmp0 (rn_pr N)
  have t1 := rl_tidy v
  refine re_Lw_areTidied (rb_Lw_areTidied_0 J rfl (fun M1 J1 => iq_tidy J1 (fun M2 J2 => ?_)))
  have vt := rn_Jv J2
  have vt2 := vt.2.2.1
  have t2 := rl_tidy vt
  generalize rn_tdf (N 2).toNat N 0 = N1 at *
  -- from the second tidy on
  have go : ∀ {v4 v5 : rn_V} {gone : Int} {M3 : rn_M}, rn_Jq G M3 N1 (min (n + 1) 5) (rn_nK n K N) → rn_ME 104 [rn_R 8] M3 (fun r M1 => rn_WP 131 80 [rn_R 8, rn_I x, rn_G (rn_pr N), rn_J, v4, v5, rn_I gone, rn_J, rn_J, rn_J, rn_J, rn_J] (r.toList ++ []) M1 Q) := by
    intro v4 v5 gone M3 J3
    refine iq_tidy J3 (fun M4 J4 => rb_Lw_areTidied_80 J4 (t2.2.2.2.mpr t1.2.1) (fun M5 J5 => iq_undoT (rn_Jn J3) J5 (fun M6 J6 => rb_Lw_areTidied_87 J6 (by omega) (fun M7 J7 => ?_))))
    refine iq_undo J7 (by omega) (fun M8 J8 => ?_)
    rw [rl_nK_two hn] at J8
    refine rb_Lw_areTidied_94 J8 rfl ⟨by omega, e⟩ (fun M9 J9 => iq_place J9 h (fun Ma Ja => ?_))
    have hn9 := rn_Jn J9
    have pl := rl_place v (rl_v20 v) h.1 _ rfl
    generalize rn_laa x.toNat 9 (rn_up N 2 0) = N5 at *
    obtain ⟨p1, p2, p3, p4, p5, p6, p7⟩ := pl
    have w0 := p1.1
    have w2 := p1.2.2.1
    refine rb_Lw_areTidied_118 Ja rfl ⟨rfl, by omega, (rl_mf_card w2.1).mpr p4⟩ (fun Mb Jb => ?_)
    refine rs_at_164 rfl p4 p5 p6 (fun Mc w9 w11 Jc => ?_) (N5 2).toNat 0 9 Mb _ Jb (by omega) (by omega) (fun i i0 i1 => ?_)
    · refine rs_at_244 rfl p7 (fun Md w10 w11 Jd => iq_undoT hn9 Jd (fun Me Je => ?_)) (N5 0).toNat 0 Mc _ Jc (by omega) (by omega)
      exact rb_Lw_areTidied_311 Je ⟨by omega, e⟩ (fun Mf Jf => k Mf _ _ Jf)
    · have vl := (p1.2.2.2.2.2.2 i i0 i1).1
      exact (p1.2.2.2.2.1 _ vl.1 vl.2).2.1.2
  have t4 := t1.2.2.2
  have c0 := rn_card_r (fun l => rn_mf N l) (N 2).toNat
  exact rb_Lw_areTidied_23 J2 (fun c1 c2 => ⟨by omega, by omega, by omega, by omega, t1.2.1⟩) (fun c1 c2 => c2 (t4.mp c1)) (fun c1 c2 => c1 (t4.mpr c2)) (fun c1 c2 => ⟨by omega, by omega, by omega, by omega, t1.2.1⟩) (fun _ _ M3 J3 => go J3) (fun _ _ M3 J3 => go J3)
end LG
