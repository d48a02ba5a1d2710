/-! the reference: wrong -/
section WRG
variable {M : rn_M} {Q : rn_Q} {N : Nat → Int} {B : Int}
theorem rm_wrong (hM : rn_sh M) (hN : rn_gi M 467 = N) (v : rn_vd N) (ma : rn_ma M B) (hB : B ≤ 1999999000) (k : ∀ M', rn_ch rn_PQ M M' → (∀ j, j ≠ 8 → rn_gi M' 466 j = rn_gi M 466 j) → rn_ma M' (B + 20) → Q (some (rn_I (rn_card (fun l => rn_mf N l) (N 2).toNat))) M') : rn_ME 170 [rn_R 466] M Q := by
  have v2 := v.2.2.1
  refine re_Mo_wrong (rb_Mo_wrong_0 ?_)
  have loop : ∀ (m j : Nat) (M1 : rn_M), m + j = (N 2).toNat → rn_ch rn_PQ M M1 → (∀ j, j ≠ 8 → rn_gi M1 466 j = rn_gi M 466 j) → rn_ma M1 (B + j) → rn_WP 170 4 [rn_R 466, rn_I (rn_card (fun l => rn_mf N l) j), rn_I (j : Int)] [] M1 Q := by
    intro m
    induction m with
    | zero =>
      intro j M1 hj c1 e1 m1
      have hN1 := rn_N_ch c1 rn_PQ_467 hN
      refine rb_Mo_wrong_4 (rn_sh_ch c1 hM) ?_ ?_ <;> rw [hN1]
      · intro c; omega
      · intro _; rw [Nat.zero_add] at hj; rw [← hj] at k; exact k M1 c1 e1 ⟨m1.1, m1.2.1, by have := m1.2.2; omega⟩
    | succ m ih =>
      intro j M1 hj c1 e1 m1
      have hN1 := rn_N_ch c1 rn_PQ_467 hN
      have hc := rn_card_r (fun l => rn_mf N l) j
      have e : ((j + 1 : Nat) : Int) = (j : Int) + 1 := by omega
      refine rb_Mo_wrong_4 (rn_sh_ch c1 hM) ?_ ?_ <;> rw [hN1]
      · intro _
        refine rm_whyLabel (rn_sh_ch c1 hM) hN1 v (by omega) (by omega) m1 (by omega) (fun M2 c2 e2 m2 => ?_)
        have := ih (j + 1) M2 (by omega) (rn_ch_tr c1 c2) (fun i hi => (e2 i hi).trans (e1 i hi)) (by rw [e, ← Int.add_assoc]; exact m2)
        unfold rn_card at this
        rw [e] at this
        refine rb_Mo_wrong_20 ?_ ?_ ?_ ?_
        · omega
        · omega
        · intro c; rw [rn_bf (P := rn_mf N (j : Int)) (fun z => z c)] at this; exact this
        · intro c; rw [rn_bt (P := rn_mf N (j : Int)) c] at this; exact this
      · intro c; omega
  exact loop (N 2).toNat 0 M (by omega) rn_ch_rf (fun _ _ => rfl) (by rw [show B + ((0 : Nat) : Int) = B by omega]; exact ma)
end WRG
