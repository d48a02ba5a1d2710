/-! the reference: the best start -/
section BST
variable {M : rn_M} {Q : rn_Q} {N : Nat → Int} {r B : Int}
theorem rm_bestStart (hM : rn_sh M) (hN : rn_gi M 467 = N) (v : rn_vd N) (r0 : 0 ≤ r) (r1 : r < N 0) (ma : rn_ma M B) (hB : B ≤ 1999999000) (k : ∀ M', rn_ch rn_PQ M M' → (∀ j, j ≠ 8 → rn_gi M' 466 j = rn_gi M 466 j) → rn_ma M' (B + 61) → Q (some (rn_I (rn_best N r))) M') : rn_ME 160 [rn_R 466, rn_I r] M Q := by
  have v0 := v.1
  have vr := v.2.2.2.2.1 r r0 r1
  have vr0 := vr.1
  have vr5 := vr.2.2.2.1
  have vr1 := vr.2.1
  refine re_Mo_bestStart (rb_Mo_bestStart_0 ?_)
  have loop : ∀ (m j : Nat) (M1 : rn_M) (w : rn_V), m + j = (rn_o N r 5 + 1).toNat → rn_ch rn_PQ M M1 → (∀ j, j ≠ 8 → rn_gi M1 466 j = rn_gi M 466 j) → rn_ma M1 (B + j) → rn_WP 160 5 [rn_R 466, rn_I r, rn_I (rn_bsn N r j), rn_I (j : Int), w] [] M1 Q := by
    intro m
    induction m with
    | zero =>
      intro j M1 w hj c1 e1 m1
      have hN1 := rn_N_ch c1 rn_PQ_467 hN
      refine rb_Mo_bestStart_5 (rn_sh_ch c1 hM) ?_ ?_ ?_ ?_ <;> (try rw [hN1])
      · omega
      · intro c; omega
      · intro _
        rw [Nat.zero_add] at hj
        unfold rn_best at k
        rw [← hj] at k
        exact k M1 c1 e1 ⟨m1.1, m1.2.1, by have := m1.2.2; omega⟩
      · intro c; omega
    | succ m ih =>
      intro j M1 w hj c1 e1 m1
      have hN1 := rn_N_ch c1 rn_PQ_467 hN
      have hb := rn_bsn_r (N := N) r j
      have e : ((j + 1 : Nat) : Int) = (j : Int) + 1 := by omega
      refine rb_Mo_bestStart_5 (rn_sh_ch c1 hM) ?_ ?_ ?_ ?_ <;> (try rw [hN1])
      · omega
      · intro _; omega
      · intro c; omega
      · intro _
        refine rm_why (rn_sh_ch c1 hM) hN1 v r0 r1 (by omega) m1 (by omega) (fun M2 c2 e2 m2 => ?_)
        have hN2 := rn_N_ch c2 rn_PQ_467 hN1
        have hM2 := rn_sh_ch c2 (rn_sh_ch c1 hM)
        have m2' : rn_ma M2 (B + ((j + 1 : Nat) : Int)) := by rw [e, ← Int.add_assoc]; exact m2
        have skip : ∀ w : rn_V, ¬ (rn_why N r j (rn_o N r 1) (-9) = 0 ∧ (rn_bsn N r j = -9 ∨ rn_cost N r j < rn_cost N r (rn_bsn N r j))) → rn_WP 160 5 [rn_R 466, rn_I r, rn_I (rn_bsn N r j), rn_I ((j : Int) + 1), w] [] M2 Q := by
          intro w c
          have e3 : rn_bsn N r (j + 1) = rn_bsn N r j := rn_pick_f c _ _
          have := ih (j + 1) M2 w (by omega) (rn_ch_tr c1 c2) (fun j hj => (e2 j hj).trans (e1 j hj)) m2'
          rw [e3, e] at this
          exact this
        have take : ∀ w : rn_V, rn_why N r j (rn_o N r 1) (-9) = 0 ∧ (rn_bsn N r j = -9 ∨ rn_cost N r j < rn_cost N r (rn_bsn N r j)) → rn_WP 160 5 [rn_R 466, rn_I r, rn_I (j : Int), rn_I ((j : Int) + 1), w] [] M2 Q := by
          intro w c
          have e3 : rn_bsn N r (j + 1) = j := rn_pick_t c _ _
          have := ih (j + 1) M2 w (by omega) (rn_ch_tr c1 c2) (fun j hj => (e2 j hj).trans (e1 j hj)) m2'
          rw [e3, e] at this
          exact this
        refine rb_Mo_bestStart_29 hM2 ?_ ?_ ?_ ?_ ?_
        · omega
        · omega
        · intro a b; exact take _ ⟨a, Or.inl b⟩
        · intro a b
          have fj := (rn_why0.mp a).1
          have hb2 : 0 ≤ rn_bsn N r j ∧ rn_bsn N r j < j ∧ rn_why N r (rn_bsn N r j) (rn_o N r 1) (-9) = 0 := hb.elim (fun z => absurd z b) id
          have fb := (rn_why0.mp hb2.2.2).1
          refine rm_cost hM2 hN2 vr (by omega) (by omega) fj ?_
          refine rb_Mo_bestStart_44 hM2 (rm_cost hM2 hN2 vr (by omega) hb2.1 fb ?_)
          refine rb_Mo_bestStart_50 ?_ ?_ ?_ ?_
          · omega
          · omega
          · intro c; exact take _ ⟨a, Or.inr c⟩
          · intro c; exact skip _ (fun z => z.2.elim b c)
        · intro a; exact skip _ (fun z => a z.1)
  have := loop (rn_o N r 5 + 1).toNat 0 M rn_J (by omega) rn_ch_rf (fun _ _ => rfl) (by rw [show B + ((0 : Nat) : Int) = B by omega]; exact ma)
  exact this
end BST
