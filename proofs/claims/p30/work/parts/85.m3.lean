/-! tidy: what stands behind it -/
section TDY
variable {N : Nat → Int}
theorem rl_mf_no {l : Int} : ¬ rn_mf N l ↔ rn_why N (rn_lb N l 0) (rn_lb N l 1) (rn_o N (rn_lb N l 0) 1) l = 0 := by
  unfold rn_mf
  omega
theorem rl_dl_sm {l : Int} (l0 : 0 ≤ l) : rl_sm N (rn_dl N l) :=
  ⟨⟨rn_dl_lo l0 (by omega) (by omega), rn_dl_lo l0 (by omega) (by omega), rn_dl_lo l0 (by omega) (by omega)⟩, fun q w q0 q1 w0 w1 _ => rn_dl_eqR l0 q0 q1 w w0 w1, fun t w t0 t1 w0 w1 => rn_dl_tw l0 t0 t1 w0 w1⟩
theorem rl_dl_fine (v : rn_vd N) {k l : Int} (l0 : 0 ≤ l) (lk : l < k) (k1 : k < N 2) (h : ¬ rn_mf N l) : ¬ rn_mf (rn_dl N k) l := by
  have v0 := v.1
  have vl := v.2.2.2.2.2.2 l l0 (by omega)
  have vl1 := vl.1
  have vl2 := vl.2
  have vr := v.2.2.2.2.1 _ vl.1.1 vl.1.2
  have v5 := vr.2.2.2.1
  have k0 : 0 ≤ k := by omega
  have sm := rl_dl_sm (N := N) k0
  rw [rl_mf_no] at h ⊢
  rw [rn_dl_lt k0 l0 lk (by omega) (by omega), rn_dl_lt k0 l0 lk (by omega) (by omega), rn_dl_eqR k0 vl.1.1 (by omega) 1 (by omega) (by omega)]
  obtain ⟨h1, h2, h3⟩ := rl_why0.mp h
  refine rl_why0.mpr ⟨?_, fun z => h2 ((rl_sm_w3 sm v vl.1.1 (by omega) (by omega)).mp z), fun i i0 i1 i2 z => ?_⟩
  · rw [rn_dl_eqR k0 vl.1.1 (by omega) 0 (by omega) (by omega), rn_dl_eqR k0 vl.1.1 (by omega) 5 (by omega) (by omega)]; exact h1
  · rw [rn_dl_2] at i1
    obtain ⟨i', e0, e1, j0, j1, j2⟩ : ∃ i', rn_lb (rn_dl N k) i 0 = rn_lb N i' 0 ∧ rn_lb (rn_dl N k) i 1 = rn_lb N i' 1 ∧ 0 ≤ i' ∧ i' < N 2 ∧ i' ≠ l := by
      rcases Int.lt_or_le i k with q | q
      · exact ⟨i, rn_dl_lt k0 i0 q (by omega) (by omega), rn_dl_lt k0 i0 q (by omega) (by omega), i0, by omega, i2⟩
      · exact ⟨i + 1, rn_dl_ge k0 q i1 (by omega) (by omega), rn_dl_ge k0 q i1 (by omega) (by omega), by omega, by omega, by omega⟩
    rw [e0, e1] at z
    have wl := v.2.2.2.2.2.2 i' j0 j1
    have wl1 := wl.1
    have wl2 := wl.2
    have w5 := (v.2.2.2.2.1 _ wl.1.1 wl.1.2).2.2.2.1
    exact h3 i' j0 j1 j2 ((rl_sm_cf sm (Or.inl (rn_dl_eqR k0 wl.1.1 (by omega) 1 (by omega) (by omega))) vl.1.1 (by omega) wl.1.1 (by omega) (by omega) (by omega)).mp z)
theorem rl_tdf_sm : ∀ (m : Nat) (N : Nat → Int) (k : Int), rn_vd N → 0 ≤ k → k + m = N 2 → rl_sm N (rn_tdf m N k)
  | 0, N, k, _, _, _ => rl_sm_rf
  | m + 1, N, k, v, k0, e => by
    unfold rn_tdf
    by_cases c : rn_mf N k
    · rw [rn_pk_t c]
      exact rl_sm_tr (rl_dl_sm k0) (rl_tdf_sm m _ k (rn_dl_vd v k0 (by omega)) k0 (by rw [rn_dl_2]; omega))
    · rw [rn_pk_f c]
      exact rl_tdf_sm m N (k + 1) v (by omega) (by omega)
/-- behind it every label may stand -/
theorem rl_tdf_fine : ∀ (m : Nat) (N : Nat → Int) (k : Int), rn_vd N → 0 ≤ k → k + m = N 2 → (∀ l : Int, 0 ≤ l → l < k → ¬ rn_mf N l) → ∀ l : Int, 0 ≤ l → l < rn_tdf m N k 2 → ¬ rn_mf (rn_tdf m N k) l
  | 0, N, k, _, _, e, h, l, l0, l1 => h l l0 (by have : l < N 2 := l1; omega)
  | m + 1, N, k, v, k0, e, h, l, l0, l1 => by
    unfold rn_tdf at l1 ⊢
    by_cases c : rn_mf N k
    · rw [rn_pk_t c] at l1 ⊢
      exact rl_tdf_fine m _ k (rn_dl_vd v k0 (by omega)) k0 (by rw [rn_dl_2]; omega) (fun i i0 i1 => rl_dl_fine v i0 i1 (by omega) (h i i0 i1)) l l0 l1
    · rw [rn_pk_f c] at l1 ⊢
      refine rl_tdf_fine m N (k + 1) v (by omega) (by omega) (fun i i0 i1 => ?_) l l0 l1
      by_cases e2 : i = k
      · rw [e2]; exact c
      · exact h i i0 (by omega)
theorem rl_tdf_le : ∀ (m : Nat) (N : Nat → Int) (k : Int), rn_tdf m N k 2 ≤ N 2
  | 0, N, k => Int.le_refl _
  | m + 1, N, k => by
    unfold rn_tdf
    by_cases c : rn_mf N k
    · rw [rn_pk_t c]
      have := rl_tdf_le m (rn_dl N k) k
      rw [rn_dl_2] at this
      omega
    · rw [rn_pk_f c]
      exact rl_tdf_le m N (k + 1)
theorem rl_tdf_lt : ∀ (m : Nat) (N : Nat → Int) (k : Int), (∃ l : Int, k ≤ l ∧ l < k + m ∧ rn_mf N l) → rn_tdf m N k 2 < N 2
  | 0, N, k, h => by obtain ⟨l, h1, h2, -⟩ := h; omega
  | m + 1, N, k, h => by
    unfold rn_tdf
    by_cases c : rn_mf N k
    · rw [rn_pk_t c]
      have := rl_tdf_le m (rn_dl N k) k
      rw [rn_dl_2] at this
      omega
    · rw [rn_pk_f c]
      obtain ⟨l, h1, h2, h3⟩ := h
      have : l ≠ k := fun q => c (q ▸ h3)
      exact rl_tdf_lt m N (k + 1) ⟨l, by omega, by omega, h3⟩
theorem rl_tdf_id : ∀ (m : Nat) (N : Nat → Int) (k : Int), (∀ l : Int, k ≤ l → l < k + m → ¬ rn_mf N l) → rn_tdf m N k = N
  | 0, N, k, h => rfl
  | m + 1, N, k, h => by
    unfold rn_tdf
    rw [rn_pk_f (h k (by omega) (by omega))]
    exact rl_tdf_id m N (k + 1) (fun l l0 l1 => h l (by omega) (by omega))
theorem rl_mf_card (h0 : 0 ≤ N 2) : rn_card (fun l => rn_mf N l) (N 2).toNat = 0 ↔ ∀ l : Int, 0 ≤ l → l < N 2 → ¬ rn_mf N l := by
  constructor
  · intro h l l0 l1
    have := rl_card_z h l.toNat (by omega)
    rw [show ((l.toNat : Nat) : Int) = l by omega] at this
    exact this
  · exact fun h => rl_card_0 _ (fun c hc => h c (by omega) (by omega))
/-- tidy, all in all -/
theorem rl_tidy (v : rn_vd N) : rl_sm N (rn_tdf (N 2).toNat N 0) ∧ rn_card (fun l => rn_mf (rn_tdf (N 2).toNat N 0) l) (rn_tdf (N 2).toNat N 0 2).toNat = 0 ∧ rn_tdf (N 2).toNat N 0 2 ≤ N 2 ∧ (N 2 - rn_tdf (N 2).toNat N 0 2 = 0 ↔ rn_card (fun l => rn_mf N l) (N 2).toNat = 0) := by
  have v2 := v.2.2.1
  refine ⟨rl_tdf_sm _ N 0 v (by omega) (by omega), ?_, rl_tdf_le _ N 0, ?_⟩
  · exact rl_card_0 _ (fun c hc => rl_tdf_fine _ N 0 v (by omega) (by omega) (fun l l0 l1 => by omega) c (by omega) (by omega))
  · rw [rl_mf_card v2.1]
    constructor
    · intro h l l0 l1 z
      have := rl_tdf_lt (N 2).toNat N 0 ⟨l, l0, by omega, z⟩
      omega
    · intro h
      rw [rl_tdf_id _ N 0 (fun l l0 l1 => h l l0 (by omega))]
      omega
end TDY
