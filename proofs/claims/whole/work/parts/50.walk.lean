/-! the reference: walks, bends, costs -/
def rn_PW (a : Nat) : Prop := a = 470 ∨ a = 471
def rn_Wk (M : rn_M) (N : Nat → Int) (r : Int) : Prop := ∀ x : Int, 0 ≤ x → x ≤ rn_o N r 5 → rn_gi M 470 x.toNat = rn_px N r x.toNat ∧ rn_gi M 471 x.toNat = rn_py N r x.toNat
section WLK
variable {M : rn_M} {Q : rn_Q} {N : Nat → Int} {r : Int}
theorem rn_N_ch {M' : rn_M} {P : Nat → Prop} (c : rn_ch P M M') (h : ¬ P 467) (hN : rn_gi M 467 = N) : rn_gi M' 467 = N := (c.2.2 467 h).trans hN
theorem rn_PW_467 : ¬ rn_PW 467 := fun h => by unfold rn_PW at h; omega
theorem rm_walks (hM : rn_sh M) (hN : rn_gi M 467 = N) (v : rn_vR N r) (hr : 0 ≤ r ∧ r ≤ 5) (k : ∀ M', rn_ch rn_PW M M' → rn_Wk M' N r → Q none M') : rn_ME 133 [rn_R 466, rn_I r] M Q := by
  have v5 := v.2.2.2.1
  have p0 := v.2.2.2.2.2.2 0 (by omega) (by omega)
  refine re_Mo_walks (rb_Mo_walks_0 hM (by omega) ?_)
  rw [hN]
  have loop : ∀ (m j : Nat) (M1 : rn_M), m + j = (rn_o N r 5).toNat → rn_ch rn_PW M M1 → (∀ x : Int, 0 ≤ x → x ≤ j → rn_gi M1 470 x.toNat = rn_px N r x.toNat ∧ rn_gi M1 471 x.toNat = rn_py N r x.toNat) → rn_WP 133 26 [rn_R 466, rn_I r, rn_I (j : Int)] [] M1 Q := by
    intro m
    induction m with
    | zero =>
      intro j M1 hj c1 w1
      have hN1 := rn_N_ch c1 rn_PW_467 hN
      refine rb_Mo_walks_26 (rn_sh_ch c1 hM) ?_ ?_ ?_ ?_ <;> (try rw [hN1])
      · omega
      · intro c; omega
      · intro c; omega
      · intro _; exact k M1 c1 (fun x x0 x1 => w1 x x0 (by omega))
    | succ m ih =>
      intro j M1 hj c1 w1
      have hN1 := rn_N_ch c1 rn_PW_467 hN
      have wj := w1 j (by omega) (by omega)
      have vj := v.2.2.2.2.2.2 j (by omega) (by omega)
      have sr := rn_sx_r (rn_o N r (18 + j))
      refine rb_Mo_walks_26 (rn_sh_ch c1 hM) ?_ ?_ ?_ ?_ <;> (try rw [hN1])
      · omega
      · intro _
        rw [wj.1, wj.2]
        omega
      · intro _
        rw [wj.1, wj.2]
        have := ih (j + 1) (rn_si (rn_si M1 470 ((j : Int) + 1).toNat (rn_px N r (j : Int).toNat + rn_sx (rn_o N r (18 + j)))) 471 ((j : Int) + 1).toNat (rn_py N r (j : Int).toNat + rn_sy (rn_o N r (18 + j)))) (by omega) (rn_ch_tr c1 (rn_ch_tr (rn_ch_si (Or.inl rfl)) (rn_ch_si (Or.inr rfl)))) (fun x x0 x1 => ?_)
        · rw [show ((j + 1 : Nat) : Int) = (j : Int) + 1 by omega] at this
          exact this
        · rw [rn_si_gif (a := 471) (b := 470) (by omega)]
          by_cases e : x = (j : Int) + 1
          · subst e
            rw [rn_si_eq, rn_si_eq, show ((j : Int) + 1).toNat = j + 1 by omega, Int.toNat_natCast]
            exact ⟨rfl, rfl⟩
          · rw [rn_si_ne (by omega), rn_si_ne (by omega), rn_si_gif (by omega)]
            exact w1 x x0 (by omega)
      · intro c; omega
  refine loop (rn_o N r 5).toNat 0 _ (by omega) (rn_ch_tr (rn_ch_si (Or.inl rfl)) (rn_ch_si (Or.inr rfl))) (fun x x0 x1 => ?_)
  rw [show x.toNat = 0 by omega, rn_si_gif (a := 471) (b := 470) (by omega), rn_si_eq, rn_si_eq]
  exact ⟨rfl, rfl⟩
theorem rm_bendOf (hM : rn_sh M) (hN : rn_gi M 467 = N) (v : rn_vR N r) (hr : 0 ≤ r ∧ r ≤ 5) {s n : Int} (h0 : 0 ≤ s) (hn : 0 ≤ n) (h1 : s + n ≤ rn_o N r 5 + 1) (k : Q (some (rn_I (rn_bend N r s n))) M) : rn_ME 150 [rn_R 466, rn_I r, rn_I s, rn_I n] M Q := by
  have v5 := v.2.2.2.1
  refine re_Mo_bendOf (rb_Mo_bendOf_0 (by omega) ?_)
  have loop : ∀ (m j : Nat), m + j = (n - 2).toNat → rn_WP 150 8 [rn_R 466, rn_I r, rn_I s, rn_I n, rn_I (rn_bdn N r s j), rn_I (s + 1 + j)] [] M Q := by
    intro m
    induction m with
    | zero =>
      intro j hj
      refine rb_Mo_bendOf_8 hM ?_ ?_ ?_ ?_ <;> (try rw [hN])
      · omega
      · intro c; omega
      · intro c; omega
      · intro _; unfold rn_bend at k; rw [← hj, Nat.zero_add] at k; exact k
    | succ m ih =>
      intro j hj
      have b := rn_bdn_r v h0 j (by omega)
      have e1 : 18 + (s + 1 + (j : Int)) - 1 = 18 + (s + j) := by omega
      have e2 : 18 + (s + 1 + (j : Int)) = 18 + (s + j + 1) := by omega
      have w1 := v.2.2.2.2.1 (s + j) (by omega) (by omega)
      have w2 := v.2.2.2.2.1 (s + j + 1) (by omega) (by omega)
      have b2 := rn_tu_r w1 w2
      refine rb_Mo_bendOf_8 hM ?_ ?_ ?_ ?_ <;> (try rw [hN])
      · omega
      · intro _
        rw [e1, e2]
        omega
      · intro _
        rw [e1, e2]
        have := ih (j + 1) (by omega)
        rw [show s + 1 + ((j + 1 : Nat) : Int) = s + 1 + j + 1 by omega] at this
        exact this
      · intro c; omega
  have := loop (n - 2).toNat 0 (by omega)
  rw [show s + 1 + ((0 : Nat) : Int) = s + 1 by omega] at this
  exact this
theorem rm_cost (hM : rn_sh M) (hN : rn_gi M 467 = N) (v : rn_vR N r) (hr : 0 ≤ r ∧ r ≤ 5) {s : Int} (h0 : 0 ≤ s) (h1 : s + rn_o N r 0 ≤ rn_o N r 5 + 1) (k : Q (some (rn_I (rn_cost N r s))) M) : rn_ME 152 [rn_R 466, rn_I r, rn_I s] M Q := by
  have v5 := v.2.2.2.1
  have v0 := v.1
  have b := rn_bend_r v h0 h1
  refine re_Mo_cost (rb_Mo_cost_0 hM ?_ ?_) <;> rw [hN]
  · omega
  · refine rm_bendOf hM hN v hr h0 (by omega) h1 ?_
    unfold rn_cost at k
    refine rb_Mo_cost_34 ?_ ?_ ?_ ?_ ?_
    · omega
    · omega
    · omega
    · intro c; exact rn_kv (by omega) k
    · intro c; exact rn_kv (by omega) k
theorem rm_isTurned (hM : rn_sh M) (hN : rn_gi M 467 = N) (v : rn_vR N r) (hr : 0 ≤ r ∧ r ≤ 5) {s : Int} (h0 : 0 ≤ s) (h1 : s + rn_o N r 0 ≤ rn_o N r 5 + 1) (k : ∀ M', rn_ch rn_PW M M' → Q (some (rn_I (rn_b (rn_trn N r s)))) M') : rn_ME 153 [rn_R 466, rn_I r, rn_I s] M Q := by
  have v5 := v.2.2.2.1
  have v0 := v.1
  refine re_Mo_isTurned (rb_Mo_isTurned_0 hM (rm_walks hM hN v hr (fun M1 c1 w1 => ?_)))
  have hN1 := rn_N_ch c1 rn_PW_467 hN
  have e1 := w1 s h0 (by omega)
  have e2 := w1 (s + rn_o N r 0 - 1) (by omega) (by omega)
  have k := k M1 c1
  unfold rn_trn at k
  refine rb_Mo_isTurned_5 (rn_sh_ch c1 hM) ?_ ?_ ?_ ?_ ?_ ?_ ?_ <;> rw [hN1] <;> (try rw [e1.1, e2.1]) <;> (try rw [e1.2, e2.2])
  · omega
  · intro _; omega
  · intro _ _; omega
  · intro c; exact rn_kt (Or.inl c) k
  · intro c c2 c3; exact rn_kt (Or.inr ⟨c2, c3⟩) k
  · intro c c2 c3; exact rn_kf (by omega) k
  · intro c c2; exact rn_kf (by omega) k
end WLK
