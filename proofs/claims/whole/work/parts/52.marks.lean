/-! the reference: marked cells -/
def rn_PK (a : Nat) : Prop := a = 470 ∨ a = 471 ∨ a = 472
/-- the cells that bear the mark of the day are S -/
def rn_Mk (M : rn_M) (S : Nat → Prop) : Prop := ∀ c, c < 2400 → (rn_gi M 472 c = rn_gi M 466 8 ↔ S c)
theorem rn_Mk_congr {M : rn_M} {S S' : Nat → Prop} (h : ∀ c, c < 2400 → (S c ↔ S' c)) (g : rn_Mk M S) : rn_Mk M S' := fun c hc => (g c hc).trans (h c hc)
section MRK
variable {M : rn_M} {Q : rn_Q} {N : Nat → Int} {r s : Int} {S : Nat → Prop}
theorem rn_PK_467 : ¬ rn_PK 467 := fun h => by unfold rn_PK at h; omega
theorem rn_PK_466 : ¬ rn_PK 466 := fun h => by unfold rn_PK at h; omega
def rn_PM (a : Nat) : Prop := a = 472
theorem rn_PM_K : ∀ a, rn_PM a → rn_PK a := fun _ h => Or.inr (Or.inr h)
theorem rn_PW_K : ∀ a, rn_PW a → rn_PK a := fun _ h => h.elim Or.inl (fun h => Or.inr (Or.inl h))
theorem rn_Wk_PM {M' : rn_M} (c : rn_ch rn_PM M M') (h : rn_Wk M N r) : rn_Wk M' N r := fun x x0 x1 => by
  rw [c.2.2 470 (fun h => by unfold rn_PM at h; omega), c.2.2 471 (fun h => by unfold rn_PM at h; omega)]; exact h x x0 x1
/-- cells bear the day's mark, or are as they were -/
def rn_cm (M0 M1 : rn_M) : Prop := rn_ch rn_PM M0 M1 ∧ ∀ c, rn_gi M1 472 c = rn_gi M0 466 8 ∨ rn_gi M1 472 c = rn_gi M0 472 c
theorem rn_cm_si {M0 M1 : rn_M} {q : Nat} (h : rn_cm M0 M1) (e : rn_gi M1 466 = rn_gi M0 466) : rn_cm M0 (rn_si M1 472 q (rn_gi M1 466 8)) := by
  refine ⟨rn_ch_tr h.1 (rn_ch_si rfl), fun c => ?_⟩
  by_cases z : c = q
  · subst z; rw [rn_si_eq, e]; exact Or.inl rfl
  · rw [rn_si_ne (by omega)]; exact h.2 c
theorem rm_marksMore (hM : rn_sh M) (hN : rn_gi M 467 = N) (v : rn_vR N r) (hr : 0 ≤ r ∧ r ≤ 5) (s0 : 0 ≤ s) (s1 : s + rn_o N r 0 ≤ rn_o N r 5 + 1) (hS : rn_Mk M S) (k : ∀ M', rn_ch rn_PK M M' → (∀ c, rn_gi M' 472 c = rn_gi M 466 8 ∨ rn_gi M' 472 c = rn_gi M 472 c) → rn_Mk M' (fun c => S c ∨ rn_ar N r s c) → Q (some (rn_I (rn_card (fun c => S c ∨ rn_ar N r s c) 2400 - rn_card S 2400))) M') : rn_ME 155 [rn_R 466, rn_I r, rn_I s] M Q := by
  have v5 := v.2.2.2.1
  have v0 := v.1
  have v2 := v.2.2.1
  refine re_Mo_marksMore (rb_Mo_marksMore_0 hM (rm_walks hM hN v hr (fun M0 c0 w0 => ?_)))
  have hN0 := rn_N_ch c0 rn_PW_467 hN
  have hM0 := rn_sh_ch c0 hM
  have hS0 : rn_Mk M0 S := by
    unfold rn_Mk
    rw [c0.2.2 472 (fun h => by unfold rn_PW at h; omega), c0.2.2 466 (fun h => by unfold rn_PW at h; omega)]
    exact hS
  refine rb_Mo_marksMore_5 hM0 (by omega) ?_
  rw [hN0]
  have eM : ∀ M1, rn_cm M0 M1 → rn_gi M1 467 = N ∧ rn_gi M1 466 = rn_gi M0 466 ∧ rn_sh M1 ∧ rn_Wk M1 N r := fun M1 c' => have c := c'.1; ⟨rn_N_ch c (fun h => by unfold rn_PM at h; omega) hN0, c.2.2 466 (fun h => by unfold rn_PM at h; omega), rn_sh_ch c hM0, rn_Wk_PM c w0⟩
  have cr := rn_card_r
  have outer : ∀ (m : Nat) (i : Int) (M1 : rn_M) (w1 w2 : rn_V) (T : Nat → Prop), i + m = s + rn_o N r 0 → s ≤ i → rn_cm M0 M1 → rn_Mk M1 T → (∀ c, c < 2400 → (T c ↔ S c ∨ ∃ k : Int, s ≤ k ∧ k < i ∧ rn_sq (rn_px N r k.toNat - rn_o N r 2) (rn_px N r k.toNat + rn_o N r 2) (rn_py N r k.toNat - rn_o N r 2) (rn_py N r k.toNat + rn_o N r 2) c)) → rn_WP 155 18 [rn_R 466, rn_I r, rn_I s, rn_I (rn_o N r 2), rn_I (rn_card T 2400 - rn_card S 2400), rn_I i, w1, w2] [] M1 Q := by
    intro m
    induction m with
    | zero =>
      intro i M1 w1 w2 T hi si c1 t1 tT
      obtain ⟨hN1, _, hM1, _⟩ := eM M1 c1
      have iff : ∀ c, c < 2400 → (T c ↔ (S c ∨ rn_ar N r s c)) := fun c hc => by
        rw [tT c hc, show i = s + rn_o N r 0 by omega]; exact Iff.rfl
      refine rb_Mo_marksMore_18 hM1 ?_ ?_ ?_ ?_ <;> (try rw [hN1])
      · omega
      · intro c; omega
      · intro c; omega
      · intro _
        rw [rn_card_congr 2400 iff]
        exact k M1 (rn_ch_tr (rn_ch_mono rn_PW_K c0) (rn_ch_mono rn_PM_K c1.1)) (fun c => by rw [← c0.2.2 466 (fun h => by unfold rn_PW at h; omega), ← c0.2.2 472 (fun h => by unfold rn_PW at h; omega)]; exact c1.2 c) (rn_Mk_congr iff t1)
    | succ m ih =>
      intro i M1 w1 w2 T hi si c1 t1 tT
      obtain ⟨hN1, _, hM1, wk1⟩ := eM M1 c1
      have exy := wk1 i (by omega) (by omega)
      have vxy := v.2.2.2.2.2.2 i (by omega) (by omega)
      refine rb_Mo_marksMore_18 hM1 ?_ ?_ ?_ ?_ <;> (try rw [hN1])
      · omega
      · intro _; rw [exy.1]; omega
      · intro _
        rw [exy.1]
        have mid : ∀ (m2 : Nat) (x : Int) (M2 : rn_M) (w2 : rn_V) (T2 : Nat → Prop), x + m2 = rn_px N r i.toNat + rn_o N r 2 + 1 → rn_px N r i.toNat - rn_o N r 2 ≤ x → rn_cm M0 M2 → rn_Mk M2 T2 → (∀ c, c < 2400 → (T2 c ↔ T c ∨ rn_sq (rn_px N r i.toNat - rn_o N r 2) (x - 1) (rn_py N r i.toNat - rn_o N r 2) (rn_py N r i.toNat + rn_o N r 2) c)) → rn_WP 155 42 [rn_R 466, rn_I r, rn_I s, rn_I (rn_o N r 2), rn_I (rn_card T2 2400 - rn_card S 2400), rn_I i, rn_I x, w2] [] M2 Q := by
          intro m2
          induction m2 with
          | zero =>
            intro x M2 w2 T2 hx x0 c2 t2 tT2
            obtain ⟨hN2, _, hM2, wk2⟩ := eM M2 c2
            have exy := wk2 i (by omega) (by omega)
            refine rb_Mo_marksMore_42 hM2 ?_ ?_ ?_ ?_ ?_ <;> rw [exy.1]
            · omega
            · intro _; omega
            · intro c; omega
            · intro _
              refine ih (i + 1) M2 _ _ T2 (by omega) (by omega) c2 t2 (fun c hc => ?_)
              rw [tT2 c hc, tT c hc, show x - 1 = rn_px N r i.toNat + rn_o N r 2 by omega]
              constructor
              · rintro ((z | ⟨q, q1, q2, q3⟩) | z)
                · exact Or.inl z
                · exact Or.inr ⟨q, q1, by omega, q3⟩
                · exact Or.inr ⟨i, si, by omega, z⟩
              · rintro (z | ⟨q, q1, q2, q3⟩)
                · exact Or.inl (Or.inl z)
                · rcases Int.lt_or_le q i with h | h
                  · exact Or.inl (Or.inr ⟨q, q1, h, q3⟩)
                  · have : q = i := by omega
                    subst this
                    exact Or.inr q3
            · intro c; omega
          | succ m2 ih2 =>
            intro x M2 w2 T2 hx x0 c2 t2 tT2
            obtain ⟨hN2, _, hM2, wk2⟩ := eM M2 c2
            have exy := wk2 i (by omega) (by omega)
            refine rb_Mo_marksMore_42 hM2 ?_ ?_ ?_ ?_ ?_ <;> rw [exy.1]
            · omega
            · intro c; omega
            · intro _; rw [exy.2]; omega
            · intro c; omega
            · intro _
              rw [exy.2]
              have inner : ∀ (m3 : Nat) (y : Int) (M3 : rn_M) (T3 : Nat → Prop), y + m3 = rn_py N r i.toNat + rn_o N r 2 + 1 → rn_py N r i.toNat - rn_o N r 2 ≤ y → rn_cm M0 M3 → rn_Mk M3 T3 → (∀ c, c < 2400 → (T3 c ↔ T2 c ∨ rn_sq x x (rn_py N r i.toNat - rn_o N r 2) (y - 1) c)) → rn_WP 155 67 [rn_R 466, rn_I r, rn_I s, rn_I (rn_o N r 2), rn_I (rn_card T3 2400 - rn_card S 2400), rn_I i, rn_I x, rn_I y] [] M3 Q := by
                intro m3
                induction m3 with
                | zero =>
                  intro y M3 T3 hy y0 c3 t3 tT3
                  obtain ⟨hN3, _, hM3, wk3⟩ := eM M3 c3
                  have exy := wk3 i (by omega) (by omega)
                  refine rb_Mo_marksMore_67 hM3 ?_ ?_ ?_ ?_ ?_ ?_ ?_ ?_ ?_ ?_ <;> rw [exy.2]
                  · omega
                  · intro _; omega
                  · intro c; omega
                  · intro c; omega
                  · intro c; omega
                  · intro c; omega
                  · intro _
                    refine ih2 (x + 1) M3 _ T3 (by omega) (by omega) c3 t3 (fun c hc => ?_)
                    rw [tT3 c hc, tT2 c hc, show y - 1 = rn_py N r i.toNat + rn_o N r 2 by omega, show x + 1 - 1 = x by omega]
                    constructor
                    · rintro ((z | ⟨a, b, q1, q2, q3, q4, q5⟩) | ⟨a, b, q1, q2, q3, q4, q5⟩)
                      · exact Or.inl z
                      · exact Or.inr ⟨a, b, q1, q2, by omega, q4, q5⟩
                      · exact Or.inr ⟨a, b, q1, q2, by omega, q4, q5⟩
                    · rintro (z | ⟨a, b, q1, q2, q3, q4, q5⟩)
                      · exact Or.inl (Or.inl z)
                      · by_cases e : a = x
                        · exact Or.inr ⟨a, b, q1, q2, by omega, q4, q5⟩
                        · exact Or.inl (Or.inr ⟨a, b, q1, q2, by omega, q4, q5⟩)
                  · intro c; omega
                  · intro c; omega
                  · intro c; omega
                | succ m3 ih3 =>
                  intro y M3 T3 hy y0 c3 t3 tT3
                  obtain ⟨hN3, h466, hM3, wk3⟩ := eM M3 c3
                  have exy := wk3 i (by omega) (by omega)
                  have cT := cr T3 2400
                  have cS := cr S 2400
                  have skip : (∀ c, c < 2400 → rn_sq x x y y c → T3 c) → rn_WP 155 67 [rn_R 466, rn_I r, rn_I s, rn_I (rn_o N r 2), rn_I (rn_card T3 2400 - rn_card S 2400), rn_I i, rn_I x, rn_I (y + 1)] [] M3 Q := by
                    intro h
                    refine ih3 (y + 1) M3 T3 (by omega) (by omega) c3 t3 (fun c hc => ?_)
                    constructor
                    · intro z
                      rcases (tT3 c hc).mp z with z | ⟨a, b, q1, q2, q3, q4, q5⟩
                      · exact Or.inl z
                      · exact Or.inr ⟨a, b, q1, q2, q3, by omega, q5⟩
                    · rintro (z | ⟨a, b, q1, q2, q3, q4, q5⟩)
                      · exact (tT3 c hc).mpr (Or.inl z)
                      · by_cases e : b = y
                        · exact h c hc ⟨a, b, q1, q2, q3, by omega, q5⟩
                        · exact (tT3 c hc).mpr (Or.inr ⟨a, b, q1, q2, q3, by omega, q5⟩)
                  refine rb_Mo_marksMore_67 hM3 ?_ ?_ ?_ ?_ ?_ ?_ ?_ ?_ ?_ ?_ <;> rw [exy.2]
                  · omega
                  · intro c; omega
                  · intro _ _; omega
                  · intro _ _; omega
                  · intro _ _ _; omega
                  · intro _ _ _; omega
                  · intro c; omega
                  · intro _ c
                    exact skip (fun c' _ ⟨a, b, q1, q2, q3, q4, q5⟩ => absurd ⟨by omega, by omega⟩ c)
                  · intro _ c c4
                    exact skip (fun c' hc' ⟨a, b, q1, q2, q3, q4, q5⟩ => by
                      have := (t3 (60 * y + x).toNat (by omega)).mp c4
                      rw [show c' = (60 * y + x).toNat by omega]; exact this)
                  · intro _ c c4
                    have hq : (60 * y + x).toNat < 2400 := by omega
                    have nT : ¬ T3 (60 * y + x).toNat := fun z => c4 ((t3 _ hq).mpr z)
                    have := ih3 (y + 1) (rn_si M3 472 (60 * y + x).toNat (rn_gi M3 466 8)) (fun c => T3 c ∨ c = (60 * y + x).toNat) (by omega) (by omega) (rn_cm_si c3 h466) (fun c hc => ?_) (fun c hc => ?_)
                    · rw [rn_card_in 2400 hq nT, show rn_card T3 2400 + 1 - rn_card S 2400 = rn_card T3 2400 - rn_card S 2400 + 1 by omega] at this
                      exact this
                    · rw [rn_si_gif (a := 472) (b := 466) (by omega)]
                      by_cases e : c = (60 * y + x).toNat
                      · subst e; rw [rn_si_eq]; exact ⟨fun _ => Or.inr rfl, fun _ => rfl⟩
                      · rw [rn_si_ne (by omega), t3 c hc]; exact ⟨Or.inl, fun z => z.elim id (fun q => absurd q e)⟩
                    · rw [tT3 c hc]
                      constructor
                      · rintro ((z | ⟨a, b, q1, q2, q3, q4, q5⟩) | z)
                        · exact Or.inl z
                        · exact Or.inr ⟨a, b, q1, q2, q3, by omega, q5⟩
                        · exact Or.inr ⟨x, y, by omega, by omega, by omega, by omega, by omega⟩
                      · rintro (z | ⟨a, b, q1, q2, q3, q4, q5⟩)
                        · exact Or.inl (Or.inl z)
                        · by_cases e : b = y
                          · exact Or.inr (by omega)
                          · exact Or.inl (Or.inr ⟨a, b, q1, q2, q3, by omega, q5⟩)
              refine inner (2 * rn_o N r 2 + 1).toNat (rn_py N r i.toNat - rn_o N r 2) M2 T2 (by omega) (by omega) c2 t2 (fun c hc => ⟨Or.inl, fun z => z.elim id (fun ⟨a, b, q1, q2, q3, q4, q5⟩ => by omega)⟩)
        refine mid (2 * rn_o N r 2 + 1).toNat (rn_px N r i.toNat - rn_o N r 2) M1 _ T (by omega) (by omega) c1 t1 (fun c hc => ⟨Or.inl, fun z => z.elim id (fun ⟨a, b, q1, q2, q3, q4, q5⟩ => by omega)⟩)
      · intro c; omega
  have := outer (rn_o N r 0).toNat s M0 rn_J rn_J S (by omega) (Int.le_refl _) ⟨rn_ch_rf, fun _ => Or.inr rfl⟩ hS0 (fun c hc => ⟨Or.inl, fun z => z.elim id (fun ⟨q, q1, q2, _⟩ => by omega)⟩)
  rw [Int.sub_self] at this
  exact this
end MRK
