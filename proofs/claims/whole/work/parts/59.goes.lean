/-! the reference: goesLabel -/
section GOS
variable {M : rn_M} {Q : rn_Q} {N : Nat → Int} {l : Int}
theorem rm_goesLabel (hM : rn_sh M) (hN : rn_gi M 467 = N) (l0 : 0 ≤ l) (l1 : l < N 2) (n2 : N 2 ≤ 20) (k : ∀ M', rn_ch rn_P67 M M' → rn_gi M' 467 = rn_dl N l → Q none M') : rn_ME 165 [rn_R 466, rn_I l] M Q := by
  refine re_Mo_goesLabel (rb_Mo_goesLabel_0 hM ?_ ?_) <;> rw [hN]
  · omega
  have loop : ∀ (m : Nat) (i : Int) (M1 : rn_M), i + m = 522 + 2 * (N 2 - 1) → 522 + 2 * l ≤ i → rn_ch rn_P67 M M1 → (∀ x : Nat, rn_gi M1 467 x = if x = 2 then N 2 - 1 else if 522 + 2 * l ≤ (x : Int) ∧ (x : Int) < i then N (x + 2) else N x) → rn_WP 165 18 [rn_R 466, rn_I l, rn_I i] [] M1 Q := by
    intro m
    induction m with
    | zero =>
      intro i M1 hi i0 c1 w1
      have e2 : rn_gi M1 467 2 = N 2 - 1 := by rw [w1, if_pos rfl]
      refine rb_Mo_goesLabel_18 (rn_sh_ch c1 hM) ?_ ?_ ?_ ?_ <;> rw [e2]
      · omega
      · intro c; omega
      · intro c; omega
      · intro _
        refine k M1 c1 (funext fun x => ?_)
        rw [w1 x, show i = 522 + 2 * (N 2 - 1) by omega]
        rfl
    | succ m ih =>
      intro i M1 hi i0 c1 w1
      have e2 : rn_gi M1 467 2 = N 2 - 1 := by rw [w1, if_pos rfl]
      refine rb_Mo_goesLabel_18 (rn_sh_ch c1 hM) ?_ ?_ ?_ ?_ <;> rw [e2]
      · omega
      · intro _; omega
      · intro _
        refine ih (i + 1) _ (by omega) (by omega) (rn_ch_tr c1 (rn_ch_si rfl)) (fun x => ?_)
        by_cases e : x = i.toNat
        · rw [e, rn_si_eq, w1, if_neg (by omega), if_neg (by omega), if_neg (by omega), if_pos (by omega)]
          congr 1; omega
        · rw [rn_si_ne (fun z => e z.2), w1]
          by_cases c : x = 2
          · rw [if_pos c, if_pos c]
          · rw [if_neg c, if_neg c]
            by_cases c2 : 522 + 2 * l ≤ (x : Int) ∧ (x : Int) < i
            · rw [if_pos c2, if_pos (by omega)]
            · rw [if_neg c2, if_neg (by omega)]
      · intro c; omega
  refine loop (2 * (N 2 - 1 - l)).toNat (522 + 2 * l) _ (by omega) (Int.le_refl _) (rn_ch_si rfl) (fun x => ?_)
  by_cases c : x = 2
  · rw [c, rn_si_eq, if_pos rfl]
  · rw [rn_si_ne (fun z => c z.2), hN, if_neg c, if_neg (by omega)]
end GOS
