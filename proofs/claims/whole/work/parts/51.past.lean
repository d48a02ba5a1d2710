/-! the reference: its earlier rows -/
def rn_P68 (a : Nat) : Prop := a = 466 ∨ a = 468
def rn_Pa (M : rn_M) (n : Int) (K : Nat → Nat → Int) : Prop := ∀ i : Nat, (i : Int) < n → ∀ j : Nat, j < 562 → rn_gi M 468 (562 * i + j) = K i j
section PST
variable {M : rn_M} {Q : rn_Q} {N : Nat → Int} {n : Int} {K : Nat → Nat → Int}
theorem rn_P68_467 : ¬ rn_P68 467 := fun h => by unfold rn_P68 at h; omega
theorem rm_rec2 {m : Int} (hM : rn_sh M) (hN : rn_gi M 467 = N) (hn : rn_gi M 466 2 = m) (m0 : 0 ≤ m ∧ m ≤ 4) (hP : rn_Pa M m K) (k : ∀ M', rn_ch rn_P68 M M' → (∀ j, j ≠ 2 → rn_gi M' 466 j = rn_gi M 466 j) → rn_gi M' 466 2 = m + 1 → rn_Pa M' (m + 1) (fun i => if (i : Int) = m then N else K i) → Q none M') : rn_WP 125 51 [rn_R 466, rn_I 0] [] M Q := by
  have loop : ∀ (c i : Nat) (M1 : rn_M), c + i = 562 → rn_ch rn_P68 M M1 → rn_gi M1 466 = rn_gi M 466 → (∀ x : Nat, ¬ (562 * m ≤ (x : Int) ∧ (x : Int) < 562 * m + i) → rn_gi M1 468 x = rn_gi M 468 x) → (∀ x : Nat, x < i → rn_gi M1 468 (562 * m.toNat + x) = N x) → rn_WP 125 51 [rn_R 466, rn_I (i : Int)] [] M1 Q := by
    intro c
    induction c with
    | zero =>
      intro i M1 hi c1 e1 o1 w1
      refine rb_Mo_records_51 (rn_sh_ch c1 hM) ?_ ?_ ?_ ?_ <;> (try rw [e1, hn])
      · intro c; omega
      · omega
      · intro c; omega
      · intro _
        refine k _ (rn_ch_tr c1 (rn_ch_si (Or.inl rfl))) (fun j hj => ?_) rn_si_eq (fun j hj x hx => ?_)
        · rw [rn_si_ne (by omega), e1]
        · rw [rn_si_gif (by omega)]
          by_cases e : (j : Int) = m
          · simp only [if_pos e]
            have := w1 x (by omega)
            rw [show m.toNat = j by omega] at this
            exact this
          · simp only [if_neg e]
            rw [o1 _ (by omega)]
            exact hP j (by omega) x hx
    | succ c ih =>
      intro i M1 hi c1 e1 o1 w1
      have hN1 := rn_N_ch c1 rn_P68_467 hN
      refine rb_Mo_records_51 (rn_sh_ch c1 hM) ?_ ?_ ?_ ?_ <;> (try rw [e1, hn])
      · intro _; omega
      · omega
      · intro _
        rw [hN1, Int.toNat_natCast]
        have := ih (i + 1) (rn_si M1 468 (562 * m + (i : Int)).toNat (N i)) (by omega) (rn_ch_tr c1 (rn_ch_si (Or.inr rfl))) (by rw [rn_si_gif (by omega)]; exact e1) (fun x hx => ?_) (fun x hx => ?_)
        · rw [show ((i + 1 : Nat) : Int) = (i : Int) + 1 by omega] at this
          exact this
        · rw [rn_si_ne (by omega)]; exact o1 x (by omega)
        · by_cases e : x = i
          · subst e; rw [show 562 * m.toNat + x = (562 * m + (x : Int)).toNat by omega, rn_si_eq]
          · rw [rn_si_ne (by omega)]; exact w1 x (by omega)
      · intro c; omega
  exact loop 562 0 M (by omega) rn_ch_rf rfl (fun _ _ => rfl) (fun x hx => by omega)
theorem rm_records (hM : rn_sh M) (hN : rn_gi M 467 = N) (hn : rn_gi M 466 2 = n) (n0 : 0 ≤ n ∧ n ≤ 5) (hP : rn_Pa M n K) (k : ∀ M', rn_ch rn_P68 M M' → (∀ j, j ≠ 2 → rn_gi M' 466 j = rn_gi M 466 j) → rn_gi M' 466 2 = min (n + 1) 5 → rn_Pa M' (min (n + 1) 5) (rn_nK n K N) → Q none M') : rn_ME 125 [rn_R 466] M Q := by
  refine re_Mo_records (rb_Mo_records_0 hM ?_ ?_) <;> rw [hn]
  · intro c
    have loop : ∀ (m i : Nat) (M1 : rn_M), m + i = 2248 → rn_ch rn_P68 M M1 → rn_gi M1 466 = rn_gi M 466 → (∀ x : Nat, i ≤ x → rn_gi M1 468 x = rn_gi M 468 x) → (∀ x : Nat, x < i → rn_gi M1 468 x = rn_gi M 468 (x + 562)) → rn_WP 125 10 [rn_R 466, rn_I (i : Int)] [] M1 Q := by
      intro m
      induction m with
      | zero =>
        intro i M1 hi c1 e1 o1 w1
        refine rb_Mo_records_10 (rn_sh_ch c1 hM) ?_ ?_ ?_ ?_ <;> (try rw [e1, hn])
        · intro c; omega
        · omega
        · intro c; omega
        · intro _
          refine rm_rec2 (N := N) (m := 4) (K := fun i => K (i + 1)) (rn_sh_si (rn_sh_ch c1 hM)) (by rw [rn_si_gif (by omega)]; exact rn_N_ch c1 rn_P68_467 hN) (by rw [rn_si_eq]; omega) (by omega) (fun j hj x hx => ?_) (fun M' c2 e2 g2 p2 => ?_)
          · rw [rn_si_gif (by omega), w1 _ (by omega), show 562 * j + x + 562 = 562 * (j + 1) + x by omega]
            exact hP (j + 1) (by omega) x hx
          · refine k M' (rn_ch_tr (rn_ch_tr c1 (rn_ch_si (Or.inl rfl))) c2) (fun j hj => ?_) (by omega) (fun j hj x hx => ?_)
            · rw [e2 j hj, rn_si_ne (by omega), e1]
            · rw [p2 j (by omega) x hx]
              unfold rn_nK
              by_cases e : (j : Int) = 4
              · simp only [if_pos e]; rw [if_pos (by omega)]
              · simp only [if_neg e]; rw [if_neg (by omega), if_pos c]
      | succ m ih =>
        intro i M1 hi c1 e1 o1 w1
        refine rb_Mo_records_10 (rn_sh_ch c1 hM) ?_ ?_ ?_ ?_ <;> (try rw [e1, hn])
        · intro _; omega
        · omega
        · intro _
          have := ih (i + 1) (rn_si M1 468 (i : Int).toNat (rn_gi M1 468 ((i : Int) + 562).toNat)) (by omega) (rn_ch_tr c1 (rn_ch_si (Or.inr rfl))) (by rw [rn_si_gif (by omega)]; exact e1) (fun x hx => ?_) (fun x hx => ?_)
          · rw [show ((i + 1 : Nat) : Int) = (i : Int) + 1 by omega] at this
            exact this
          · rw [rn_si_ne (by omega)]; exact o1 x (by omega)
          · by_cases e : x = i
            · subst e
              rw [Int.toNat_natCast, rn_si_eq, show ((x : Int) + 562).toNat = x + 562 by omega]
              exact o1 _ (by omega)
            · rw [rn_si_ne (by omega)]; exact w1 x (by omega)
        · intro c; omega
    exact loop 2248 0 M (by omega) rn_ch_rf rfl (fun _ _ => rfl) (fun x hx => by omega)
  · intro c
    refine rm_rec2 (m := n) (K := K) hM hN hn (by omega) hP (fun M' c2 e2 g2 p2 => ?_)
    refine k M' c2 e2 (by omega) (fun j hj x hx => ?_)
    rw [p2 j (by omega) x hx]
    unfold rn_nK
    by_cases e : (j : Int) = n
    · simp only [if_pos e]; rw [if_pos (by omega)]
    · simp only [if_neg e]; rw [if_neg (by omega), if_neg c]
theorem rm_puts (hM : rn_sh M) (hN : rn_gi M 467 = N) (hn : rn_gi M 466 2 = n) (n0 : 0 ≤ n ∧ n ≤ 5) (hP : rn_Pa M n K) {a x : Int} (ha : 0 ≤ a ∧ a < 562) (k : ∀ M', rn_ch (fun z => rn_P68 z ∨ z = 467) M M' → (∀ j, j ≠ 2 → rn_gi M' 466 j = rn_gi M 466 j) → rn_gi M' 466 2 = min (n + 1) 5 → rn_Pa M' (min (n + 1) 5) (rn_nK n K N) → rn_gi M' 467 = rn_up N a.toNat x → Q (some (rn_I (N a.toNat))) M') : rn_ME 143 [rn_R 466, rn_I a, rn_I x] M Q := by
  refine re_Mo_puts (rb_Mo_puts_0 hM (rm_records hM hN hn n0 hP (fun M1 c1 e1 g1 p1 => ?_)))
  have hN1 := rn_N_ch c1 rn_P68_467 hN
  refine rb_Mo_puts_4 (rn_sh_ch c1 hM) ha ?_
  rw [hN1]
  refine k _ (rn_ch_tr (rn_ch_mono (fun _ h => Or.inl h) c1) (rn_ch_si (Or.inr rfl))) (fun j hj => ?_) ?_ (fun i hi j hj => ?_) ?_
  · rw [rn_si_gif (by omega)]; exact e1 j hj
  · rw [rn_si_gif (by omega)]; exact g1
  · rw [rn_si_gif (by omega)]; exact p1 i hi j hj
  · rw [rn_si_up, hN1]
end PST
