/-! the reference: does a marked cell lie in a town, in a label's area -/
/-- a town's cells -/
def rn_tc (N : Nat → Int) (t : Int) (c : Nat) : Prop := ∃ x y : Int, (rn_tw N t 0 ≤ x ∧ x < rn_tw N t 0 + rn_tw N t 2) ∧ (rn_tw N t 1 ≤ y ∧ y < rn_tw N t 1 + rn_tw N t 3) ∧ (c : Int) = 60 * y + x
section MTS
variable {M : rn_M} {Q : rn_Q} {N : Nat → Int} {S : Nat → Prop}
theorem rm_meetsTown (hM : rn_sh M) (hN : rn_gi M 467 = N) {t : Int} (t0 : 0 ≤ t ∧ t < 10) (v : rn_vT N t) (hS : rn_Mk M S) (k : Q (some (rn_I (rn_b (∃ c : Nat, c < 2400 ∧ rn_tc N t c ∧ S c)))) M) : rn_ME 157 [rn_R 466, rn_I t] M Q := by
  have ex : N (472 + 5 * t).toNat = rn_tw N t 0 := by unfold rn_tw; rw [Int.add_zero]
  have ey : N (472 + 5 * t + 1).toNat = rn_tw N t 1 := rfl
  have ew : N (472 + 5 * t + 2).toNat = rn_tw N t 2 := rfl
  have eh : N (472 + 5 * t + 3).toNat = rn_tw N t 3 := rfl
  unfold rn_vT at v
  refine re_Mo_meetsTown (rb_Mo_meetsTown_0 hM (by omega) ?_)
  rw [hN, ex]
  have outer : ∀ (m : Nat) (x : Int) (w : rn_V), x + m = rn_tw N t 0 + rn_tw N t 2 → rn_tw N t 0 ≤ x → (∀ a b : Int, rn_tw N t 0 ≤ a → a < x → rn_tw N t 1 ≤ b → b < rn_tw N t 1 + rn_tw N t 3 → ¬ S (60 * b + a).toNat) → rn_WP 157 15 [rn_R 466, rn_I t, rn_I (472 + 5 * t), rn_I x, w] [] M Q := by
    intro m
    induction m with
    | zero =>
      intro x w hx x0 no
      refine rb_Mo_meetsTown_15 hM ?_ ?_ ?_ ?_ <;> rw [hN, ex, ew]
      · omega
      · intro c; omega
      · intro c; omega
      · intro _
        refine rn_kf ?_ k
        rintro ⟨c, c0, ⟨a, b, q1, q2, q3⟩, q4⟩
        refine no a b q1.1 (by omega) q2.1 q2.2 ?_
        rw [show (60 * b + a).toNat = c by omega]; exact q4
    | succ m ih =>
      intro x w hx x0 no
      refine rb_Mo_meetsTown_15 hM ?_ ?_ ?_ ?_ <;> rw [hN, ex, ew]
      · omega
      · intro _; omega
      · intro _
        rw [ey]
        have inner : ∀ (m2 : Nat) (y : Int), y + m2 = rn_tw N t 1 + rn_tw N t 3 → rn_tw N t 1 ≤ y → (∀ b : Int, rn_tw N t 1 ≤ b → b < y → ¬ S (60 * b + x).toNat) → rn_WP 157 44 [rn_R 466, rn_I t, rn_I (472 + 5 * t), rn_I x, rn_I y] [] M Q := by
          intro m2
          induction m2 with
          | zero =>
            intro y hy y0 no2
            refine rb_Mo_meetsTown_44 hM ?_ ?_ ?_ ?_ ?_ ?_ ?_ <;> rw [hN, ey, eh]
            · omega
            · intro c; omega
            · intro c; omega
            · intro _; omega
            · intro c; omega
            · intro c; omega
            · intro _
              refine ih (x + 1) _ (by omega) (by omega) (fun a b a0 a1 b0 b1 => ?_)
              rcases Int.lt_or_le a x with q | q
              · exact no a b a0 q b0 b1
              · rw [show a = x by omega]; exact no2 b b0 (by omega)
          | succ m2 ih2 =>
            intro y hy y0 no2
            have hq : (60 * y + x).toNat < 2400 := by omega
            refine rb_Mo_meetsTown_44 hM ?_ ?_ ?_ ?_ ?_ ?_ ?_ <;> rw [hN, ey, eh]
            · omega
            · intro _; omega
            · intro _ _; omega
            · intro c; omega
            · intro _ c
              exact rn_kt ⟨_, hq, ⟨x, y, by omega, by omega, by omega⟩, (hS _ hq).mp c⟩ k
            · intro _ c
              refine ih2 (y + 1) (by omega) (by omega) (fun b b0 b1 => ?_)
              rcases Int.lt_or_le b y with q | q
              · exact no2 b b0 q
              · rw [show b = y by omega]; exact fun z => c ((hS _ hq).mpr z)
            · intro c; omega
        exact inner (rn_tw N t 3).toNat _ (by omega) (Int.le_refl _) (fun b b0 b1 => by omega)
      · intro c; omega
  exact outer (rn_tw N t 2).toNat _ _ (by omega) (Int.le_refl _) (fun a b a0 a1 => by omega)
theorem rm_meetsLabel (hM : rn_sh M) (hN : rn_gi M 467 = N) {l : Int} (l0 : 0 ≤ l ∧ l < 20) (vl : rn_vL N l) (h6 : N 0 ≤ 6) (v : rn_vR N (rn_lb N l 0)) (hS : rn_Mk M S) (k : ∀ M', rn_ch rn_PW M M' → Q (some (rn_I (rn_b (∃ c : Nat, c < 2400 ∧ rn_ar N (rn_lb N l 0) (rn_lb N l 1) c ∧ S c)))) M') : rn_ME 156 [rn_R 466, rn_I l] M Q := by
  have e0 : N (522 + 2 * l).toNat = rn_lb N l 0 := by unfold rn_lb; rw [Int.add_zero]
  have e1 : N (522 + 2 * l + 1).toNat = rn_lb N l 1 := rfl
  unfold rn_vL at vl
  have v5 := v.2.2.2.1
  have v0 := v.1
  have v2 := v.2.2.1
  refine re_Mo_meetsLabel (rb_Mo_meetsLabel_0 hM (by omega) ?_)
  rw [hN, e0, e1]
  generalize hr : rn_lb N l 0 = r at *
  generalize hs : rn_lb N l 1 = s at *
  refine rm_walks hM hN v (by omega) (fun M1 c1 w1 => ?_)
  have hN1 := rn_N_ch c1 rn_PW_467 hN
  have hM1 := rn_sh_ch c1 hM
  have hS1 : rn_Mk M1 S := by
    unfold rn_Mk
    rw [c1.2.2 472 (fun h => by unfold rn_PW at h; omega), c1.2.2 466 (fun h => by unfold rn_PW at h; omega)]
    exact hS
  have k := k M1 c1
  refine rb_Mo_meetsLabel_33 hM1 (by omega) ?_
  rw [hN1]
  have outer : ∀ (m : Nat) (i : Int) (w2 w3 : rn_V), i + m = s + rn_o N r 0 → s ≤ i → (∀ q : Int, s ≤ q → q < i → ∀ c : Nat, c < 2400 → rn_sq (rn_px N r q.toNat - rn_o N r 2) (rn_px N r q.toNat + rn_o N r 2) (rn_py N r q.toNat - rn_o N r 2) (rn_py N r q.toNat + rn_o N r 2) c → ¬ S c) → rn_WP 156 44 [rn_R 466, rn_I l, rn_I r, rn_I s, rn_I (rn_o N r 2), rn_I i, w2, w3] [] M1 Q := by
    intro m
    induction m with
    | zero =>
      intro i w2 w3 hi si no
      refine rb_Mo_meetsLabel_44 hM1 ?_ ?_ ?_ ?_ <;> (try rw [hN1])
      · omega
      · intro c; omega
      · intro c; omega
      · intro _
        refine rn_kf ?_ k
        rintro ⟨c, c0, ⟨q, q1, q2, q3⟩, q4⟩
        exact no q q1 (by omega) c c0 q3 q4
    | succ m ih =>
      intro i w2 w3 hi si no
      have exy := w1 i (by omega) (by omega)
      have vxy := v.2.2.2.2.2.2 i (by omega) (by omega)
      refine rb_Mo_meetsLabel_44 hM1 ?_ ?_ ?_ ?_ <;> (try rw [hN1])
      · omega
      · intro _; rw [exy.1]; omega
      · intro _
        rw [exy.1]
        have mid : ∀ (m2 : Nat) (x : Int) (w3 : rn_V), x + m2 = rn_px N r i.toNat + rn_o N r 2 + 1 → rn_px N r i.toNat - rn_o N r 2 ≤ x → (∀ c : Nat, c < 2400 → rn_sq (rn_px N r i.toNat - rn_o N r 2) (x - 1) (rn_py N r i.toNat - rn_o N r 2) (rn_py N r i.toNat + rn_o N r 2) c → ¬ S c) → rn_WP 156 69 [rn_R 466, rn_I l, rn_I r, rn_I s, rn_I (rn_o N r 2), rn_I i, rn_I x, w3] [] M1 Q := by
          intro m2
          induction m2 with
          | zero =>
            intro x w3 hx x0 no2
            refine rb_Mo_meetsLabel_69 hM1 ?_ ?_ ?_ ?_ ?_ <;> rw [exy.1]
            · omega
            · intro _; omega
            · intro c; omega
            · intro _
              refine ih (i + 1) _ _ (by omega) (by omega) (fun q q1 q2 c c0 z => ?_)
              rcases Int.lt_or_le q i with h | h
              · exact no q q1 h c c0 z
              · rw [show q = i by omega, show rn_px N r i.toNat + rn_o N r 2 = x - 1 by omega] at z
                exact no2 c c0 z
            · intro c; omega
          | succ m2 ih2 =>
            intro x w3 hx x0 no2
            refine rb_Mo_meetsLabel_69 hM1 ?_ ?_ ?_ ?_ ?_ <;> rw [exy.1]
            · omega
            · intro c; omega
            · intro _; rw [exy.2]; omega
            · intro c; omega
            · intro _
              rw [exy.2]
              have inner : ∀ (m3 : Nat) (y : Int), y + m3 = rn_py N r i.toNat + rn_o N r 2 + 1 → rn_py N r i.toNat - rn_o N r 2 ≤ y → (∀ c : Nat, c < 2400 → rn_sq x x (rn_py N r i.toNat - rn_o N r 2) (y - 1) c → ¬ S c) → rn_WP 156 96 [rn_R 466, rn_I l, rn_I r, rn_I s, rn_I (rn_o N r 2), rn_I i, rn_I x, rn_I y] [] M1 Q := by
                intro m3
                induction m3 with
                | zero =>
                  intro y hy y0 no3
                  refine rb_Mo_meetsLabel_96 hM1 ?_ ?_ ?_ ?_ ?_ ?_ ?_ ?_ ?_ <;> rw [exy.2]
                  · omega
                  · intro _; omega
                  · intro c; omega
                  · intro c; omega
                  · intro c; omega
                  · intro _
                    refine ih2 (x + 1) _ (by omega) (by omega) (fun c c0 ⟨a, b, q1, q2, q3, q4, q5⟩ => ?_)
                    by_cases e : a = x
                    · exact no3 c c0 ⟨a, b, q1, q2, by omega, by omega, q5⟩
                    · exact no2 c c0 ⟨a, b, q1, q2, by omega, q4, q5⟩
                  · intro c; omega
                  · intro c; omega
                  · intro c; omega
                | succ m3 ih3 =>
                  intro y hy y0 no3
                  refine rb_Mo_meetsLabel_96 hM1 ?_ ?_ ?_ ?_ ?_ ?_ ?_ ?_ ?_ <;> rw [exy.2]
                  · omega
                  · intro c; omega
                  · intro _ _; omega
                  · intro _ _; omega
                  · intro _ _ _; omega
                  · intro c; omega
                  · intro _ c
                    refine ih3 (y + 1) (by omega) (by omega) (fun c' c0 ⟨a, b, q1, q2, q3, q4, q5⟩ => ?_)
                    by_cases e : b = y
                    · exact absurd ⟨by omega, by omega⟩ c
                    · exact no3 c' c0 ⟨a, b, q1, q2, q3, by omega, q5⟩
                  · intro _ c c4
                    have hq : (60 * y + x).toNat < 2400 := by omega
                    exact rn_kt ⟨_, hq, ⟨i, si, by omega, ⟨x, y, by omega, by omega, by omega, by omega, by omega⟩⟩, (hS1 _ hq).mp c4⟩ k
                  · intro _ c c4
                    have hq : (60 * y + x).toNat < 2400 := by omega
                    refine ih3 (y + 1) (by omega) (by omega) (fun c' c0 ⟨a, b, q1, q2, q3, q4, q5⟩ => ?_)
                    by_cases e : b = y
                    · rw [show c' = (60 * y + x).toNat by omega]; exact fun z => c4 ((hS1 _ hq).mpr z)
                    · exact no3 c' c0 ⟨a, b, q1, q2, q3, by omega, q5⟩
              exact inner (2 * rn_o N r 2 + 1).toNat _ (by omega) (by omega) (fun c c0 ⟨a, b, q1, q2, q3, q4, q5⟩ => by omega)
        exact mid (2 * rn_o N r 2 + 1).toNat _ _ (by omega) (by omega) (fun c c0 ⟨a, b, q1, q2, q3, q4, q5⟩ => by omega)
      · intro c; omega
  exact outer (rn_o N r 0).toNat s _ _ (by omega) (Int.le_refl _) (fun q q1 q2 => by omega)
end MTS
