/-! numbers of cells -/
theorem rl_b_le {P P' : Prop} (h : P → P') : rn_b P ≤ rn_b P' := by
  by_cases c : P
  · rw [rn_bt c, rn_bt (h c)]; omega
  · rw [rn_bf c]; have := @rn_b01 P'; omega
theorem rl_b_or {P P' : Prop} : rn_b (P ∨ P') ≤ rn_b P + rn_b P' := by
  have h1 := @rn_b01 P
  have h2 := @rn_b01 P'
  by_cases c : P
  · rw [rn_bt c, rn_bt (Or.inl c)]; omega
  · by_cases d : P'
    · rw [rn_bt d, rn_bt (Or.inr d)]; omega
    · rw [rn_bf (fun z => z.elim c d)]; omega
theorem rl_card_mono {S S' : Nat → Prop} : ∀ n : Nat, (∀ c, c < n → S c → S' c) → rn_card S n ≤ rn_card S' n
  | 0, _ => Int.le_refl _
  | n + 1, h => by
    have h1 := rl_card_mono n (fun c hc => h c (by omega))
    have h2 := rl_b_le (h n (by omega))
    unfold rn_card
    omega
theorem rl_card_or {S S' : Nat → Prop} : ∀ n : Nat, rn_card (fun c => S c ∨ S' c) n ≤ rn_card S n + rn_card S' n
  | 0 => by unfold rn_card; omega
  | n + 1 => by
    have h1 := @rl_card_or S S' n
    have h2 := @rl_b_or (S n) (S' n)
    unfold rn_card
    omega
theorem rl_card_0 {S : Nat → Prop} : ∀ n : Nat, (∀ c, c < n → ¬ S c) → rn_card S n = 0
  | 0, _ => rfl
  | n + 1, h => by
    unfold rn_card
    rw [rl_card_0 n (fun c hc => h c (by omega)), rn_bf (h n (by omega))]
    rfl
theorem rl_card_pos {S : Nat → Prop} {q : Nat} : ∀ n : Nat, q < n → S q → 1 ≤ rn_card S n
  | 0, h, _ => by omega
  | n + 1, h, hs => by
    have h2 := @rn_b01 (S n)
    have h3 := rn_card_r S n
    unfold rn_card
    by_cases e : q = n
    · subst e; rw [rn_bt hs]; omega
    · have := rl_card_pos n (by omega) hs; omega
theorem rl_card_z {S : Nat → Prop} {n : Nat} (h : rn_card S n = 0) : ∀ c, c < n → ¬ S c := fun c hc hs => by
  have := rl_card_pos n hc hs
  omega
theorem rl_card_one {q : Nat} : ∀ n : Nat, rn_card (fun c => c = q) n ≤ 1
  | 0 => by unfold rn_card; omega
  | n + 1 => by
    unfold rn_card
    by_cases e : n = q
    · rw [rl_card_0 n (fun c hc => by omega), rn_bt (P := n = q) e]; omega
    · rw [rn_bf (P := n = q) e]; have := @rl_card_one q n; omega
/-- a union of k sets of at most b cells each -/
theorem rl_card_un {S : Int → Nat → Prop} {n : Nat} {a b : Int} : ∀ k : Nat, (∀ i : Int, a ≤ i → i < a + k → rn_card (S i) n ≤ b) → rn_card (fun c => ∃ i : Int, a ≤ i ∧ i < a + k ∧ S i c) n ≤ k * b
  | 0, _ => by
    rw [rl_card_0 n (fun c _ z => by obtain ⟨i, h1, h2, -⟩ := z; omega)]
    simp
  | k + 1, h => by
    have h1 := rl_card_un (S := S) (n := n) (a := a) (b := b) k (fun i i0 i1 => h i i0 (by omega))
    have h2 := h (a + k) (by omega) (by omega)
    have h3 := @rl_card_or (fun c => ∃ i : Int, a ≤ i ∧ i < a + k ∧ S i c) (S (a + k)) n
    have h4 : rn_card (fun c => ∃ i : Int, a ≤ i ∧ i < a + ((k + 1 : Nat) : Int) ∧ S i c) n ≤ rn_card (fun c => (∃ i : Int, a ≤ i ∧ i < a + k ∧ S i c) ∨ S (a + k) c) n := by
      refine rl_card_mono n (fun c _ z => ?_)
      obtain ⟨i, g1, g2, g3⟩ := z
      by_cases e : i = a + k
      · exact Or.inr (e ▸ g3)
      · exact Or.inl ⟨i, g1, by omega, g3⟩
    have h5 : ((k + 1 : Nat) : Int) * b = k * b + b := by
      rw [show ((k + 1 : Nat) : Int) = (k : Int) + 1 by omega, Int.add_mul, Int.one_mul]
    omega
theorem rl_card_at {n : Nat} {q : Int} : rn_card (fun c => (c : Int) = q) n ≤ 1 :=
  Int.le_trans (rl_card_mono (S' := fun c => c = q.toNat) n (fun c _ h => by omega)) (rl_card_one n)
theorem rl_card_sq {x y h : Int} (h0 : 0 ≤ h) : rn_card (rn_sq (x - h) (x + h) (y - h) (y + h)) 2400 ≤ (2 * h + 1) * (2 * h + 1) := by
  have k0 : (((2 * h + 1).toNat : Nat) : Int) = 2 * h + 1 := by omega
  have row : ∀ j : Int, y - h ≤ j → j < y - h + ((2 * h + 1).toNat : Nat) → rn_card (fun c => ∃ i : Int, x - h ≤ i ∧ i < x - h + ((2 * h + 1).toNat : Nat) ∧ (c : Int) = j * 60 + i) 2400 ≤ 2 * h + 1 := by
    intro j _ _
    have := rl_card_un (S := fun i c => (c : Int) = j * 60 + i) (n := 2400) (a := x - h) (b := 1) (2 * h + 1).toNat (fun i _ _ => rl_card_at)
    rw [k0] at this
    rw [k0]
    omega
  have all := rl_card_un (S := fun j c => ∃ i : Int, x - h ≤ i ∧ i < x - h + ((2 * h + 1).toNat : Nat) ∧ (c : Int) = j * 60 + i) (n := 2400) (a := y - h) (b := 2 * h + 1) (2 * h + 1).toNat row
  rw [k0] at all
  refine Int.le_trans (rl_card_mono 2400 (fun c _ z => ?_)) all
  obtain ⟨i, j, i0, j0, i1, j1, e⟩ := z
  exact ⟨j, by omega, by omega, i, by omega, by omega, e⟩
/-- the area of a label -/
theorem rl_card_ar {N : Nat → Int} {r s : Int} (h0 : 0 ≤ rn_o N r 0) (h1 : 0 ≤ rn_o N r 2) : rn_card (rn_ar N r s) 2400 ≤ rn_o N r 0 * ((2 * rn_o N r 2 + 1) * (2 * rn_o N r 2 + 1)) := by
  have := rl_card_un (S := fun k => rn_sq (rn_px N r k.toNat - rn_o N r 2) (rn_px N r k.toNat + rn_o N r 2) (rn_py N r k.toNat - rn_o N r 2) (rn_py N r k.toNat + rn_o N r 2)) (n := 2400) (a := s) (b := (2 * rn_o N r 2 + 1) * (2 * rn_o N r 2 + 1)) (rn_o N r 0).toNat (fun i _ _ => rl_card_sq h1)
  rw [show (((rn_o N r 0).toNat : Nat) : Int) = rn_o N r 0 by omega] at this
  exact this
theorem rl_card_ar1 {N : Nat → Int} {r s : Int} (v : rn_vR N r) (s0 : 0 ≤ s) (s1 : s + rn_o N r 0 ≤ rn_o N r 5 + 1) : 1 ≤ rn_card (rn_ar N r s) 2400 := by
  have v0 := v.1
  have v2 := v.2.2.1
  have vc := v.2.2.2.2.2.2 s s0 (by omega)
  refine rl_card_pos (q := (rn_py N r s.toNat * 60 + rn_px N r s.toNat).toNat) 2400 (by omega) ⟨s, by omega, by omega, rn_px N r s.toNat, rn_py N r s.toNat, vc.1, vc.2, by omega, by omega, by omega⟩
/-- the cells of a river -/
theorem rl_card_clr {N : Nat → Int} {r : Int} (v : rn_vR N r) : 1 ≤ rn_card (rn_clr N r) 2400 ∧ rn_card (rn_clr N r) 2400 ≤ rn_o N r 5 + 1 := by
  have v5 := v.2.2.2.1
  have vc := v.2.2.2.2.2.2 0 (by omega) (by omega)
  refine ⟨rl_card_pos (q := (rn_py N r (0 : Int).toNat * 60 + rn_px N r (0 : Int).toNat).toNat) 2400 (by omega) ⟨0, by omega, by omega, by omega⟩, ?_⟩
  have := rl_card_un (S := fun k c => (c : Int) = rn_py N r k.toNat * 60 + rn_px N r k.toNat) (n := 2400) (a := 0) (b := 1) (rn_o N r 5 + 1).toNat (fun i _ _ => rl_card_at)
  refine Int.le_trans (rl_card_mono 2400 (fun c _ z => ?_)) (Int.le_trans this (by omega))
  obtain ⟨k, k0, k1, e⟩ := z
  exact ⟨k, k0, by omega, e⟩
/-! bends -/
theorem rl_bend_12 {N : Nat → Int} {r s : Int} : rn_bend N r s 2 = 0 ∧ rn_bend N r s 1 = 0 := ⟨rfl, rfl⟩
theorem rl_bend3 {N : Nat → Int} {r s p : Int} (h : 3 ≤ p) : rn_bend N r s p = rn_bend N r s (p - 1) + rn_bend N r (s + p - 3) 3 := by
  obtain ⟨k, rfl⟩ : ∃ k : Nat, p = k + 3 := ⟨(p - 3).toNat, by omega⟩
  unfold rn_bend
  rw [show ((k : Int) + 3 - 2).toNat = k + 1 by omega, show ((k : Int) + 3 - 1 - 2).toNat = k by omega, show ((3 : Int) - 2).toNat = 1 from rfl]
  show rn_bdn N r s k + rn_tu (rn_o N r (18 + (s + k))) (rn_o N r (18 + (s + k + 1))) = rn_bdn N r s k + (0 + rn_tu (rn_o N r (18 + (s + (k + 3) - 3 + ((0 : Nat) : Int)))) (rn_o N r (18 + (s + (k + 3) - 3 + ((0 : Nat) : Int) + 1))))
  rw [show s + ((k : Int) + 3) - 3 + ((0 : Nat) : Int) = s + k by omega]
  omega
theorem rl_bend_3r {N : Nat → Int} {r s : Int} (v : rn_vR N r) (s0 : 0 ≤ s) (h : s + 3 ≤ rn_o N r 5 + 1) : 0 ≤ rn_bend N r s 3 ∧ rn_bend N r s 3 ≤ 4 := by
  have v5 := v.2.2.2.1
  have := rn_bdn_r v s0 1 (by omega)
  unfold rn_bend
  rw [show ((3 : Int) - 2).toNat = 1 from rfl]
  omega
/-- a move leads to a neighbouring cell -/
theorem rl_step {N : Nat → Int} {r k : Int} (v : rn_vR N r) (k0 : 0 ≤ k) (k1 : k < rn_o N r 5) : ∃ dx dy : Int, rn_px N r (k + 1).toNat = rn_px N r k.toNat + dx ∧ rn_py N r (k + 1).toNat = rn_py N r k.toNat + dy ∧ (-1 ≤ dx ∧ dx ≤ 1) ∧ (-1 ≤ dy ∧ dy ≤ 1) ∧ (dx ≠ 0 ∨ dy ≠ 0) := by
  have v5 := v.2.2.2.1
  have d := v.2.2.2.2.1 k k0 (by omega)
  refine ⟨rn_sx (rn_o N r (18 + k)), rn_sy (rn_o N r (18 + k)), ?_, ?_, ?_⟩
  · rw [show (k + 1).toNat = k.toNat + 1 by omega]
    show rn_px N r k.toNat + rn_sx (rn_o N r (18 + (k.toNat : Int))) = _
    rw [show ((k.toNat : Nat) : Int) = k by omega]
  · rw [show (k + 1).toNat = k.toNat + 1 by omega]
    show rn_py N r k.toNat + rn_sy (rn_o N r (18 + (k.toNat : Int))) = _
    rw [show ((k.toNat : Nat) : Int) = k by omega]
  · generalize rn_o N r (18 + k) = q at d
    unfold rn_sx rn_sy
    rcases (by omega : q = 0 ∨ q = 1 ∨ q = 2 ∨ q = 3 ∨ q = 4 ∨ q = 5 ∨ q = 6 ∨ q = 7) with e | e | e | e | e | e | e | e <;> subst e <;> decide
theorem rl_stn_r {N : Nat → Int} {r p : Int} : ∀ n : Nat, (rn_stn N r p n = -9 ∧ n = 0) ∨ 0 ≤ rn_stn N r p n ∧ rn_stn N r p n < n
  | 0 => Or.inl ⟨rfl, rfl⟩
  | n + 1 => by
    have ih := rl_stn_r (N := N) (r := r) (p := p) n
    unfold rn_stn
    by_cases c : rn_stn N r p n = -9 ∨ rn_bend N r n p < rn_bend N r (rn_stn N r p n) p
    · rw [rn_pick_t c]; omega
    · rw [rn_pick_f c]; omega
