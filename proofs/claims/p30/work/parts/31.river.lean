/-! the class's rivers: what an object holds, and what its methods answer -/
def rn_Rv (M : rn_M) (a : Nat) (N : Nat → Int) (r : Int) : Prop := rn_gi M a 1 = rn_o N r 1 ∧ rn_gi M a 2 = rn_o N r 2 ∧ rn_gi M a 3 = rn_o N r 0 ∧ rn_gi M a 4 = rn_o N r 5 ∧
  (∀ x : Int, 0 ≤ x → x < rn_o N r 0 → rn_gi M (a + 1) x.toNat = rn_o N r (6 + x)) ∧ (∀ x : Int, 0 ≤ x → x < rn_o N r 5 → rn_gi M (a + 2) x.toNat = rn_o N r (18 + x)) ∧
  ∀ x : Int, 0 ≤ x → x ≤ rn_o N r 5 → rn_gi M (a + 3) x.toNat = rn_px N r x.toNat ∧ rn_gi M (a + 4) x.toNat = rn_py N r x.toNat
theorem rn_Rv_rk2 {M : rn_M} {a : Nat} {N : Nat → Int} {r : Int} (h : rn_Rv M a N r) (v : rn_vR N r) : rn_rk2 M a := by
  intro k hk
  rw [h.2.2.2.1] at hk
  have h1 := h.2.2.2.2.2.2 (k : Int) (by omega) hk
  have h2 := v.2.2.2.2.2.2 (k : Int) (by omega) hk
  rw [Int.toNat_natCast] at h1 h2
  rw [h1.1, h1.2]
  exact h2
section RIV
variable {M : rn_M} {Q : rn_Q} {a : Nat} {N : Nat → Int} {r : Int}
theorem rs_turnBehind (hM : rn_sh M) (p : rn_isR a) (h : rn_Rv M a N r) (v : rn_vR N r) {x : Int} (h0 : 0 ≤ x) (h1 : x + 1 < rn_o N r 5) (k : Q (some (rn_I (rn_tu (rn_o N r (18 + x)) (rn_o N r (18 + (x + 1)))))) M) : rn_ME 69 [rn_R a, rn_I x] M Q := by
  have e1 := h.2.2.2.2.2.1 x h0 (by omega)
  have e2 := h.2.2.2.2.2.1 (x + 1) (by omega) h1
  have e3 := h.2.2.2.1
  have v5 := v.2.2.2.1
  have v1 := v.2.2.2.2.1 x h0 (by omega)
  have v2 := v.2.2.2.2.1 (x + 1) (by omega) (by omega)
  refine re_Ri_turnBehind (rb_Ri_turnBehind_0 hM p ?_ ?_ ?_ ?_ ?_)
  · omega
  · rw [e1, e2]; omega
  · omega
  · intro _ _
    rw [e1, e2]
    refine rn_kv ?_ k
    unfold rn_tu
    (repeat' split) <;> omega
  · omega
theorem rs_bendOf (hM : rn_sh M) (p : rn_isR a) (h : rn_Rv M a N r) (v : rn_vR N r) {s n : Int} (h0 : 0 ≤ s) (hn : 0 ≤ n) (h1 : s + n ≤ rn_o N r 5 + 1) (k : Q (some (rn_I (rn_bend N r s n))) M) : rn_ME 70 [rn_R a, rn_I s, rn_I n] M Q := by
  have v5 := v.2.2.2.1
  refine re_Ri_bendOf (rb_Ri_bendOf_0 ?_)
  have loop : ∀ (m j : Nat), m + j = (n - 2).toNat → rn_WP 70 5 [rn_R a, rn_I s, rn_I n, rn_I (rn_bdn N r s j), rn_I (s + j)] [] M Q := by
    intro m
    induction m with
    | zero =>
      intro j hj
      refine rb_Ri_bendOf_5 hM p ?_ ?_ ?_
      · omega
      · intro c; omega
      · intro _
        unfold rn_bend at k
        rw [← hj, Nat.zero_add] at k
        exact k
    | succ m ih =>
      intro j hj
      have b := rn_bdn_r v h0 j (by omega)
      have b2 := rn_tu_r (v.2.2.2.2.1 (s + j) (by omega) (by omega)) (v.2.2.2.2.1 (s + j + 1) (by omega) (by omega))
      refine rb_Ri_bendOf_5 hM p ?_ ?_ ?_
      · omega
      · intro _
        refine rs_turnBehind hM p h v (by omega) (by omega) ?_
        refine rb_Ri_bendOf_22 ?_ ?_
        · omega
        · have := ih (j + 1) (by omega)
          rw [show s + ((j + 1 : Nat) : Int) = s + j + 1 by omega] at this
          exact this
      · intro c; omega
  have := loop (n - 2).toNat 0 (by omega)
  rw [show s + ((0 : Nat) : Int) = s by omega] at this
  exact this
theorem rs_costOf (hM : rn_sh M) (p : rn_isR a) (h : rn_Rv M a N r) (v : rn_vR N r) {s : Int} (h0 : 0 ≤ s) (h1 : s + rn_o N r 0 ≤ rn_o N r 5 + 1) (k : Q (some (rn_I (rn_cost N r s))) M) : rn_ME 72 [rn_R a, rn_I s] M Q := by
  have v5 := v.2.2.2.1
  have v0 := v.1
  have b := rn_bend_r v h0 h1
  refine re_Ri_costOf (rb_Ri_costOf_0 hM p ?_)
  rw [h.2.2.1]
  refine rs_bendOf hM p h v h0 (by omega) h1 ?_
  refine rb_Ri_costOf_11 hM p ?_ ?_
  · rw [h.2.2.1, h.2.2.2.1]; omega
  · rw [h.2.2.1, h.2.2.2.1]; exact k
theorem rs_turnsNameAt (hM : rn_sh M) (p : rn_isR a) (h : rn_Rv M a N r) (v : rn_vR N r) {s : Int} (h0 : 0 ≤ s) (h1 : s + rn_o N r 0 ≤ rn_o N r 5 + 1) (k : Q (some (rn_I (rn_b (rn_trn N r s)))) M) : rn_ME 73 [rn_R a, rn_I s] M Q := by
  have v5 := v.2.2.2.1
  have v0 := v.1
  have e1 := h.2.2.2.2.2.2 s h0 (by omega)
  have e2 := h.2.2.2.2.2.2 (s + rn_o N r 0 - 1) (by omega) (by omega)
  have w1 := v.2.2.2.2.2.2 s h0 (by omega)
  have w2 := v.2.2.2.2.2.2 (s + rn_o N r 0 - 1) (by omega) (by omega)
  have e3 := h.2.2.1
  have e4 := h.2.2.2.1
  unfold rn_trn at k
  refine re_Ri_turnsNameAt (rb_Ri_turnsNameAt_0 hM p ?_ ?_ ?_ ?_ ?_ ?_) <;> rw [e3] <;> (try rw [e4]) <;> rw [e1.1, e2.1] <;> (try rw [e1.2, e2.2]) <;> intros <;> first | omega | exact rn_kt (by omega) k | exact rn_kf (by omega) k
theorem rs_straightestStart (hM : rn_sh M) (p : rn_isR a) (h : rn_Rv M a N r) (v : rn_vR N r) {n : Int} (hn : 1 ≤ n ∧ n ≤ 61) (k : Q (some (rn_I (rn_stn N r n (rn_o N r 5 + 1 - n + 1).toNat))) M) : rn_ME 71 [rn_R a, rn_I n] M Q := by
  have v5 := v.2.2.2.1
  have e4 := h.2.2.2.1
  refine re_Ri_straightestStart (rb_Ri_straightestStart_0 ?_)
  have loop : ∀ (m j : Nat), m + j = (rn_o N r 5 + 1 - n + 1).toNat → (rn_stn N r n j = -9 ∨ 0 ≤ rn_stn N r n j ∧ rn_stn N r n j < j) → ∀ (x3 : Int) (w : rn_V), (rn_stn N r n j ≠ -9 → x3 = rn_bend N r (rn_stn N r n j) n) → rn_WP 71 8 [rn_R a, rn_I n, rn_I (rn_stn N r n j), rn_I x3, rn_I j, w] [] M Q := by
    intro m
    induction m with
    | zero =>
      intro j hj _ x3 w hx
      refine rb_Ri_straightestStart_8 hM p ?_ ?_ ?_
      · omega
      · intro _; rw [Nat.zero_add] at hj; rw [← hj] at k; exact k
      · intro c; omega
    | succ m ih =>
      intro j hj hr x3 w hx
      refine rb_Ri_straightestStart_8 hM p ?_ ?_ ?_
      · omega
      · intro c; omega
      · intro _
        refine rs_bendOf hM p h v (by omega) (by omega) (by omega) ?_
        have e : ((j + 1 : Nat) : Int) = (j : Int) + 1 := by omega
        have hnew : rn_stn N r n j = -9 ∨ rn_bend N r j n < rn_bend N r (rn_stn N r n j) n → rn_WP 71 8 [rn_R a, rn_I n, rn_I j, rn_I (rn_bend N r j n), rn_I (j + 1), rn_I (rn_bend N r j n)] [] M Q := by
          intro q
          have e2 : rn_stn N r n (j + 1) = j := rn_pick_t q _ _
          have := ih (j + 1) (by omega) (Or.inr (by rw [e2]; omega)) (rn_bend N r j n) (rn_I (rn_bend N r j n)) (by rw [e2]; intro _; rfl)
          rw [e2, e] at this
          exact this
        refine rb_Ri_straightestStart_25 ?_ ?_ ?_ ?_ ?_ ?_
        · omega
        · omega
        · omega
        · intro q; exact hnew (Or.inl q)
        · intro q c; rw [hx q] at c; exact hnew (Or.inr c)
        · intro q c
          rw [hx q] at c
          have e2 : rn_stn N r n (j + 1) = rn_stn N r n j := rn_pick_f (fun z => z.elim q c) _ _
          have := ih (j + 1) (by omega) (by rw [e2]; omega) x3 (rn_I (rn_bend N r j n)) (by rw [e2]; exact hx)
          rw [e2, e] at this
          exact this
  exact loop (rn_o N r 5 + 1 - n + 1).toNat 0 (by omega) (Or.inl rfl) 0 _ (fun q => absurd rfl q)
/-- a letter of the river near to a cell -/
theorem rs_hasLetterNear (hM : rn_sh M) (p : rn_isR a) (h : rn_Rv M a N r) (v : rn_vR N r) {s x y g : Int} (h0 : 0 ≤ s) (h1 : s + rn_o N r 0 ≤ rn_o N r 5 + 1) (hx : 0 ≤ x ∧ x < 60) (hy : 0 ≤ y ∧ y < 40)
    (k : Q (some (rn_I (rn_b (∃ j : Int, s ≤ j ∧ j < s + rn_o N r 0 ∧ (rn_px N r j.toNat - x ≤ g ∧ x - rn_px N r j.toNat ≤ g) ∧ rn_py N r j.toNat - y ≤ g ∧ y - rn_py N r j.toNat ≤ g)))) M) : rn_ME 75 [rn_R a, rn_I s, rn_I x, rn_I y, rn_I g] M Q := by
  have v5 := v.2.2.2.1
  have v0 := v.1
  have e3 := h.2.2.1
  have e4 := h.2.2.2.1
  have hk2 := rn_Rv_rk2 h v
  have iff : ∀ j : Int, s ≤ j → j < s + rn_o N r 0 → (rn_rn2 M a j x y g ↔ (rn_px N r j.toNat - x ≤ g ∧ x - rn_px N r j.toNat ≤ g) ∧ rn_py N r j.toNat - y ≤ g ∧ y - rn_py N r j.toNat ≤ g) := by
    intro j h1 h2
    have e1 := h.2.2.2.2.2.2 j (by omega) (by omega)
    unfold rn_rn2
    rw [e1.1, e1.2, e4]
    constructor
    · intro q; exact q.2.2
    · intro q; exact ⟨by omega, by omega, q⟩
  refine re_Ri_hasLetterNear (rb_Ri_hasLetterNear_0 ?_)
  have loop : ∀ (m : Nat) (i : Int), i + m = s + rn_o N r 0 → s ≤ i → (∀ j : Int, s ≤ j → j < i → ¬ ((rn_px N r j.toNat - x ≤ g ∧ x - rn_px N r j.toNat ≤ g) ∧ rn_py N r j.toNat - y ≤ g ∧ y - rn_py N r j.toNat ≤ g)) → rn_WP 75 3 [rn_R a, rn_I s, rn_I x, rn_I y, rn_I g, rn_I i] [] M Q := by
    intro m
    induction m with
    | zero =>
      intro i hi h2 hno
      refine rb_Ri_hasLetterNear_3 hM p ?_ ?_ ?_ ?_ ?_ ?_
      · omega
      · omega
      · omega
      · omega
      · omega
      · intro _
        refine rn_kf ?_ k
        rintro ⟨j, j1, j2, j3⟩
        exact hno j j1 (by omega) j3
    | succ m ih =>
      intro i hi h2 hno
      refine rb_Ri_hasLetterNear_3 hM p ?_ ?_ ?_ ?_ ?_ ?_
      · omega
      · intro _; exact ⟨by omega, hk2, by omega⟩
      · omega
      · intro _ c
        refine ih (i + 1) (by omega) (by omega) (fun j j1 j2 => ?_)
        rcases Int.lt_or_le j i with q | q
        · exact hno j j1 q
        · have : j = i := by omega
          subst this
          exact fun z => c ((iff j h2 (by omega)).mpr z)
      · intro _ c
        exact rn_kt ⟨i, h2, by omega, (iff i h2 (by omega)).mp c⟩ k
      · omega
  exact loop (rn_o N r 0).toNat s (by omega) (Int.le_refl _) (fun j j1 j2 => by omega)
end RIV
