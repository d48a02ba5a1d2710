/-! the reference: a new mark of the day -/
def rn_PQ (a : Nat) : Prop := a = 466 ∨ rn_PK a
/-- no cell's mark is newer than the day's; it is at most B -/
def rn_ma (M : rn_M) (B : Int) : Prop := (∀ c, c < 2400 → rn_gi M 472 c ≤ rn_gi M 466 8) ∧ 0 ≤ rn_gi M 466 8 ∧ rn_gi M 466 8 ≤ B
section STM
variable {M : rn_M} {Q : rn_Q} {N : Nat → Int} {r s B : Int}
theorem rn_PK_Q : ∀ a, rn_PK a → rn_PQ a := fun _ h => Or.inr h
theorem rn_PQ_467 : ¬ rn_PQ 467 := fun h => h.elim (fun h => by omega) rn_PK_467
theorem rm_marks (hM : rn_sh M) (hN : rn_gi M 467 = N) (v : rn_vR N r) (hr : 0 ≤ r ∧ r ≤ 5) (s0 : 0 ≤ s) (s1 : s + rn_o N r 0 ≤ rn_o N r 5 + 1) (ma : rn_ma M B) (hB : B ≤ 2000000000) (k : ∀ M', rn_ch rn_PQ M M' → (∀ j, j ≠ 8 → rn_gi M' 466 j = rn_gi M 466 j) → rn_ma M' (B + 1) → rn_Mk M' (rn_ar N r s) → Q (some (rn_I (rn_card (rn_ar N r s) 2400))) M') : rn_ME 154 [rn_R 466, rn_I r, rn_I s] M Q := by
  obtain ⟨a1, a2, a3⟩ := ma
  refine re_Mo_marks (rb_Mo_marks_0 hM (by omega) ?_)
  have c0 : rn_ch rn_PQ M (rn_si M 466 8 (rn_gi M 466 8 + 1)) := rn_ch_si (Or.inl rfl)
  have e8 : rn_gi (rn_si M 466 8 (rn_gi M 466 8 + 1)) 466 8 = rn_gi M 466 8 + 1 := rn_si_eq
  have e7 : rn_gi (rn_si M 466 8 (rn_gi M 466 8 + 1)) 472 = rn_gi M 472 := rn_si_gif (by omega)
  have mk : rn_Mk (rn_si M 466 8 (rn_gi M 466 8 + 1)) (fun _ => False) := fun c hc => by
    rw [e8, e7]
    have := a1 c hc
    exact ⟨fun z => by omega, False.elim⟩
  refine rm_marksMore (rn_sh_si hM) (rn_N_ch c0 rn_PQ_467 hN) v hr s0 s1 mk (fun M' c1 w1 m1 => rb_Mo_marks_16 ?_)
  have h466 : rn_gi M' 466 = rn_gi (rn_si M 466 8 (rn_gi M 466 8 + 1)) 466 := c1.2.2 466 rn_PK_466
  have iff : ∀ c, c < 2400 → ((False ∨ rn_ar N r s c) ↔ rn_ar N r s c) := fun c _ => ⟨fun z => z.elim False.elim id, Or.inr⟩
  have z0 : ∀ n, rn_card (fun _ => False) n = 0 := by
    intro n
    induction n with
    | zero => rfl
    | succ n ih => unfold rn_card; rw [ih, rn_bf id]; rfl
  rw [rn_card_congr 2400 iff, z0, Int.sub_zero]
  refine k M' (rn_ch_tr c0 (rn_ch_mono rn_PK_Q c1)) (fun j hj => ?_) ⟨fun c hc => ?_, ?_, ?_⟩ (rn_Mk_congr iff m1)
  · rw [h466, rn_si_ne (by omega)]
  · rw [h466, e8]
    have := a1 c hc
    rcases w1 c with z | z
    · rw [z, e8]; omega
    · rw [z, e7]; omega
  · rw [h466, e8]; omega
  · rw [h466, e8]; omega
end STM
