/-! the law's loop -/
section LI
variable {G : Nat × (Nat → Int)} {M : rn_M} {Q : rn_Q} {N : Nat → Int} {n : Int} {K : Nat → Nat → Int}
theorem rs_law_39 (hQ : ∀ M', Q (some (rn_I 1)) M') : ∀ (j : Nat) (t : Int) (N : Nat → Int) (n : Int) (K : Nat → Nat → Int) (M : rn_M) (v4 v5 v6 v7 v8 v9 v10 v11 : rn_V), rn_Jq G M N n K → 0 ≤ t → t + j = 70 → rn_WP 215 39 [rn_R 0, rn_R 8, rn_I 1, rn_I t, v4, v5, v6, v7, v8, v9, v10, v11] [] M Q := by
  intro j
  induction j with
  | zero =>
    intro t N n K M v4 v5 v6 v7 v8 v9 v10 v11 J t0 e
    exact rb_Lw_law_39 J (fun z => by omega) (fun z => by omega) (fun z => by omega) (fun z => by omega) (fun z => by omega) (fun z => by omega) (fun z => by omega) (fun z => by omega) (fun z => by omega) (fun z => by omega) (fun z => by omega) (fun _ M1 J1 => rb_Lw_law_413 J1 (fun M2 _ => hQ M2))
  | succ j ih =>
    intro t N n K M v4 v5 v6 v7 v8 v9 v10 v11 J t0 e
    have hn := rn_Jn J
    have a1 := rn_and31 (rn_shr (rn_cx G (2 * t)) 4)
    have a2 := rn_and31 (rn_cx G (2 * t))
    have a3 := rn_and31 (rn_cx G (2 * t + 1))
    have hy : 0 ≤ rn_and (rn_cx G (2 * t + 1)) 2147483647 % 1000000 ∧ rn_and (rn_cx G (2 * t + 1)) 2147483647 % 1000000 ≤ 999999 := by omega
    generalize hY : rn_and (rn_cx G (2 * t + 1)) 2147483647 % 1000000 = y at *
    have c0 := rn_cmp0 (rn_pr N)
    -- from 386: the next step
    have p386 : ∀ {M1 : rn_M} {N' n' K'} {w2 w4 w5 w6 w7 w8 w9 w10 w11 : rn_V}, rn_Jq G M1 N' n' K' → rn_WP 215 386 [rn_R 0, rn_R 8, w2, rn_I t, w4, w5, w6, w7, w8, w9, w10, w11] [] M1 Q := by
      intro M1 N' n' K' w2 w4 w5 w6 w7 w8 w9 w10 w11 J1
      have nx : ∀ M', rn_Jq G M' N' n' K' → rn_WP 215 39 [rn_R 0, rn_R 8, rn_I 1, rn_I (t + 1), w4, w5, w6, w7, w8, w9, w10, w11] [] M' Q := fun M' J' => ih (t + 1) N' n' K' M' _ _ _ _ _ _ _ _ J' (by omega) (by omega)
      exact rb_Lw_law_386 J1 t0 (fun _ => by omega) (fun _ => by omega) (fun _ => nx) (fun _ => nx)
    have p364 : ∀ {M1 : rn_M} {N' n' K'} {w2 w4 w6 w7 w8 w9 w10 w11 : rn_V}, rn_Jq G M1 N' n' K' → rn_WP 215 364 [rn_R 0, rn_R 8, w2, rn_I t, w4, rn_I y, w6, w7, w8, w9, w10, w11] [] M1 Q := by
      intro M1 N' n' K' w2 w4 w6 w7 w8 w9 w10 w11 J1
      exact rb_Lw_law_364 J1 t0 (fun _ => by omega) (fun _ M2 J2 => iq_areTidied J2 (by omega) (fun M3 n3 K3 J3 => rb_Lw_law_383 J3 (by omega) (fun M4 J4 => p386 J4))) (fun _ M2 J2 => p386 J2)
    have p289 : ∀ {M1 : rn_M} {N' n' K'} {w4 w6 w7 w8 w9 w10 w11 : rn_V}, rn_ca w10 = 1 → rn_Jq G M1 N' n' K' → rn_WP 215 289 [rn_R 0, rn_R 8, rn_I 1, rn_I t, w4, rn_I y, w6, w7, w8, w9, w10, w11] [] M1 Q := by
      intro M1 N' n' K' w4 w6 w7 w8 w9 w10 w11 h10 J1
      have v0 := (rn_Jv J1).1
      have md : ¬ (N' 0 = 0) → 0 ≤ y % N' 0 ∧ y % N' 0 < N' 0 := fun z => ⟨Int.emod_nonneg _ z, Int.emod_lt_of_pos _ (by omega)⟩
      have p338 : ∀ M2, rn_Jq G M2 N' n' K' → rn_WP 215 338 [rn_R 0, rn_R 8, rn_I 1, rn_I t, w4, rn_I y, w6, w7, w8, w9, w10, rn_I (N' 0)] [] M2 Q := by
        intro M2 J2
        exact rb_Lw_law_338 J2 t0 (fun _ _ => by omega) (fun _ _ M3 J3 => p364 J3) (fun _ z M3 J3 => iq_areStarts J3 (md z) (fun M4 n4 K4 J4 => rb_Lw_law_361 J4 (by omega) (fun M5 J5 => p364 J5))) (fun _ M3 J3 => p364 J3)
      have p314 : ∀ M2, rn_Jq G M2 N' n' K' → rn_WP 215 314 [rn_R 0, rn_R 8, rn_I 1, rn_I t, w4, rn_I y, w6, w7, w8, w9, w10, rn_I (N' 0)] [] M2 Q := by
        intro M2 J2
        exact rb_Lw_law_314 J2 t0 (fun _ z => ⟨by omega, by omega, md z⟩) (fun _ _ => p338) (fun _ _ => p338) (fun _ => p338)
      exact rb_Lw_law_289 J1 h10 t0 (fun _ => p314) (fun _ => p314)
    -- after the action: refused
    have q158 : ∀ {v9 v10 v11 : rn_V} {a : Int} {M1 : rn_M}, rn_ca v9 = 1 → (a = -1 ∨ a = -2 ∨ a = -3) → rn_Jq G M1 N n K → rn_WP 215 158 [rn_R 0, rn_R 8, rn_I 1, rn_I t, rn_I (rn_cx G (2 * t)), rn_I y, rn_G (rn_pr N), rn_J, rn_I n, v9, v10, v11] [rn_I a] M1 Q := by
      intro v9 v10 v11 a M1 h9 ha J1
      have nx : ∀ M', rn_Jq G M' N n K → rn_WP 215 235 [rn_R 0, rn_R 8, rn_I 1, rn_I t, rn_I (rn_cx G (2 * t)), rn_I y, rn_G (rn_pr N), rn_J, rn_I n, v9, rn_I a, v11] [] M' Q := fun M' J' => rb_Lw_law_235 J' (fun _ M2 J2 => p289 rfl J2) (fun z => by omega) (fun z => by omega)
      exact rb_Lw_law_158 J1 h9 (fun _ _ => ⟨rfl, c0⟩) (fun _ _ _ => ⟨rfl, c0⟩) (fun _ z1 z2 => ⟨by omega, rfl, c0⟩) (fun z => by omega) (fun z => by omega) (fun _ _ => nx) (fun _ _ _ => nx) (fun _ _ _ => nx) (fun z => by omega) (fun z => by omega)
    -- done
    have d158 : ∀ {v9 v10 v11 : rn_V} {a : Int} {N' : Nat → Int} {M1 : rn_M}, rn_ca v9 = 1 → 0 ≤ a → rn_Jq G M1 N' (min (n + 1) 5) (rn_nK n K N) → rn_WP 215 158 [rn_R 0, rn_R 8, rn_I 1, rn_I t, rn_I (rn_cx G (2 * t)), rn_I y, rn_G (rn_pr N), rn_J, rn_I n, v9, v10, v11] [rn_I a] M1 Q := by
      intro v9 v10 v11 a N' M1 h9 ha J1
      have nx : ∀ M', rn_Jq G M' N' (min (n + 1) 5) (rn_nK n K N) → rn_WP 215 235 [rn_R 0, rn_R 8, rn_I 1, rn_I t, rn_I (rn_cx G (2 * t)), rn_I y, rn_G (rn_pr N), rn_J, rn_I n, v9, rn_I a, v11] [] M' Q := fun M' J' => rb_Lw_law_235 J' (fun z => by omega)
        (fun _ _ M2 J2 => iq_undoT hn J2 (fun M3 J3 => rb_Lw_law_258 J3 (fun _ => ⟨by omega, c0⟩) (fun _ => ⟨by omega, c0⟩) (fun _ M4 J4 => p289 rfl J4) (fun _ M4 J4 => p289 rfl J4))) (fun _ _ M2 J2 => p289 rfl J2)
      exact rb_Lw_law_158 J1 h9 (fun z => by omega) (fun z => by omega) (fun z => by omega) (fun _ _ => by omega) (fun _ _ => by omega) (fun z => by omega) (fun z => by omega) (fun z => by omega) (fun _ _ => nx) (fun _ _ => nx)
    have act : ∀ {x : Int} {v9 v10 v11 : rn_V} {M1 : rn_M}, rn_ca v9 = 1 → rn_Jq G M1 N n K → rn_ME 132 [rn_R 8, rn_I x, rn_I y] M1 (fun r M1 => rn_WP 215 158 [rn_R 0, rn_R 8, rn_I 1, rn_I t, rn_I (rn_cx G (2 * t)), rn_I y, rn_G (rn_pr N), rn_J, rn_I n, v9, v10, v11] (r.toList ++ []) M1 Q) :=
      fun h9 J1 => iq_acts J1 hy (fun a M' ha J' => q158 h9 ha J') (fun a N' M' ha J' => d158 h9 ha J')
    subst hY
    exact rb_Lw_law_39 J (fun _ => by omega) (fun _ _ => by omega) (fun _ _ _ => by omega) (fun _ _ _ _ => by omega) (fun _ _ _ _ _ => by omega) (fun _ _ _ _ _ => by omega)
      (fun _ _ M1 J1 => act rfl J1) (fun _ _ _ M1 J1 => act rfl J1) (fun _ _ _ _ M1 J1 => act rfl J1) (fun _ _ _ _ _ M1 J1 => act rfl J1) (fun _ _ _ _ _ M1 J1 => act rfl J1) (fun z => by omega)
end LI
