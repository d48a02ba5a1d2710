/-! the reference: labelsOf, costs -/
section SM2
variable {M : rn_M} {Q : rn_Q} {N : Nat → Int}
theorem rm_labelsOf (hM : rn_sh M) (hN : rn_gi M 467 = N) (n2 : 0 ≤ N 2 ∧ N 2 ≤ 20) {r : Int} (k : Q (some (rn_I (rn_lo N r))) M) : rn_ME 171 [rn_R 466, rn_I r] M Q := by
  refine re_Mo_labelsOf (rb_Mo_labelsOf_0 ?_)
  have e0 : ∀ l : Int, N (522 + 2 * l).toNat = rn_lb N l 0 := fun l => by unfold rn_lb; rw [Int.add_zero]
  have loop : ∀ (m j : Nat), m + j = (N 2).toNat → rn_WP 171 4 [rn_R 466, rn_I r, rn_I (rn_card (fun l => rn_lb N l 0 = r) j), rn_I (j : Int)] [] M Q := by
    intro m
    induction m with
    | zero =>
      intro j hj
      refine rb_Mo_labelsOf_4 hM ?_ ?_ ?_ ?_ ?_ ?_ <;> rw [hN]
      · intro c; omega
      · intro c; omega
      · intro c; omega
      · intro c; omega
      · intro c; omega
      · intro _; rw [Nat.zero_add] at hj; unfold rn_lo at k; rw [← hj] at k; exact k
    | succ m ih =>
      intro j hj
      have hc := rn_card_r (fun l => rn_lb N l 0 = r) j
      have e : ((j + 1 : Nat) : Int) = (j : Int) + 1 := by omega
      have := ih (j + 1) (by omega)
      unfold rn_card at this
      rw [e] at this
      refine rb_Mo_labelsOf_4 hM ?_ ?_ ?_ ?_ ?_ ?_ <;> rw [hN] <;> (try rw [e0])
      · intro _; omega
      · intro _ _; omega
      · intro _ _; omega
      · intro _ c; rw [rn_bt c] at this; exact this
      · intro _ c; rw [rn_bf c] at this; exact this
      · intro c; omega
  exact loop (N 2).toNat 0 (by omega)
theorem rm_costs (hM : rn_sh M) (hN : rn_gi M 467 = N) (v : rn_vd N) (k : Q (some (rn_I (rn_cs N (N 2).toNat))) M) : rn_ME 169 [rn_R 466] M Q := by
  have v0 := v.1
  have v2 := v.2.2.1
  have e0 : ∀ l : Int, N (522 + 2 * l).toNat = rn_lb N l 0 := fun l => by unfold rn_lb; rw [Int.add_zero]
  have e1 : ∀ l : Int, N (522 + 2 * l + 1).toNat = rn_lb N l 1 := fun l => rfl
  refine re_Mo_costs (rb_Mo_costs_0 ?_)
  have loop : ∀ (m j : Nat), m + j = (N 2).toNat → rn_WP 169 4 [rn_R 466, rn_I (rn_cs N j), rn_I (j : Int)] [] M Q := by
    intro m
    induction m with
    | zero =>
      intro j hj
      refine rb_Mo_costs_4 hM ?_ ?_ ?_ <;> rw [hN]
      · intro c; omega
      · intro c; omega
      · intro _; rw [Nat.zero_add] at hj; rw [← hj] at k; exact k
    | succ m ih =>
      intro j hj
      have hc := rn_cs_r v j (by omega)
      have e : ((j + 1 : Nat) : Int) = (j : Int) + 1 := by omega
      have vl := v.2.2.2.2.2.2 j (by omega) (by omega)
      have vl1 := vl.1
      have vr := v.2.2.2.2.1 _ vl.1.1 vl.1.2
      have cr := rn_cost_r vr vl.2.1.1 vl.2.2
      have := ih (j + 1) (by omega)
      unfold rn_cs at this
      rw [e] at this
      refine rb_Mo_costs_4 hM ?_ ?_ ?_ <;> rw [hN] <;> (try rw [e0, e1])
      · intro _; omega
      · intro _
        exact rm_cost hM hN vr (by omega) vl.2.1.1 vl.2.2 (rb_Mo_costs_45 (by omega) this)
      · intro c; omega
  exact loop (N 2).toNat 0 (by omega)
end SM2
