/-! rows that show the same map; what hinders a label -/
/-- the same rivers (but for ranks), towns and gap -/
def rl_sm (N N' : Nat → Int) : Prop := (N' 0 = N 0 ∧ N' 1 = N 1 ∧ N' 3 = N 3) ∧ (∀ r w : Int, 0 ≤ r → r < 6 → 0 ≤ w → w < 78 → w ≠ 1 → rn_o N' r w = rn_o N r w) ∧ ∀ t w : Int, 0 ≤ t → t < 10 → 0 ≤ w → w < 5 → rn_tw N' t w = rn_tw N t w
/-- the label of r from s on is near to that of q from j on -/
def rl_ge (N : Nat → Int) (r s q j : Int) : Prop := ∃ k : Int, s ≤ k ∧ k < s + rn_o N r 0 ∧ ∃ i : Int, j ≤ i ∧ i < j + rn_o N q 0 ∧ rn_near N r k q i (rn_o N r 2 + rn_o N q 2)
/-- the label of q from j on hinders that of r from s on, which has the rank k -/
def rl_cf (N : Nat → Int) (r s k q j : Int) : Prop := (q = r ∧ s - j < rn_o N r 0 + N 3 ∧ j - s < rn_o N r 0 + N 3) ∨ (q ≠ r ∧ k ≤ rn_o N q 1 ∧ rl_ge N r s q j)
def rl_fr (N : Nat → Int) (r s k but : Int) : Prop := ∀ l : Int, 0 ≤ l → l < N 2 → l ≠ but → ¬ rl_cf N r s k (rn_lb N l 0) (rn_lb N l 1)
theorem rl_ge_sy {N : Nat → Int} {r s q j : Int} (h : rl_ge N r s q j) : rl_ge N q j r s := by
  obtain ⟨k, k0, k1, i, i0, i1, h1, h2⟩ := h
  refine ⟨i, i0, i1, k, k0, k1, ?_⟩
  unfold rn_near
  omega
theorem rl_cf_of {N : Nat → Int} {r s k but : Int} : rl_fr N r s k but ↔ ¬ rn_cr N r s but ∧ ¬ rn_w4 N r s k but := by
  constructor
  · intro h
    refine ⟨fun z => ?_, fun z => ?_⟩
    · obtain ⟨l, l0, l1, l2, l3, l4, l5⟩ := z
      exact h l l0 l1 l2 (Or.inl ⟨l3, l4, l5⟩)
    · obtain ⟨l, l0, l1, l2, l3, l4, l5⟩ := z
      exact h l l0 l1 l2 (Or.inr ⟨l3, l4, l5⟩)
  · rintro ⟨h1, h2⟩ l l0 l1 l2 (⟨q1, q2, q3⟩ | ⟨q1, q2, q3⟩)
    · exact h1 ⟨l, l0, l1, l2, q1, q2, q3⟩
    · exact h2 ⟨l, l0, l1, l2, q1, q2, q3⟩
/-- no reason applies -/
theorem rl_why0 {N : Nat → Int} {r s k but : Int} : rn_why N r s k but = 0 ↔ s + rn_o N r 0 ≤ rn_o N r 5 + 1 ∧ ¬ rn_w3 N r s k ∧ rl_fr N r s k but := by
  rw [rl_cf_of]
  unfold rn_why
  by_cases c1 : s + rn_o N r 0 ≤ rn_o N r 5 + 1
  · rw [rn_pick_t c1]
    by_cases c2 : rn_cr N r s but
    · rw [rn_pick_t c2]; exact ⟨fun z => by omega, fun z => absurd c2 z.2.2.1⟩
    · rw [rn_pick_f c2]
      by_cases c3 : rn_w3 N r s k
      · rw [rn_pick_t c3]; exact ⟨fun z => by omega, fun z => absurd c3 z.2.1⟩
      · rw [rn_pick_f c3]
        by_cases c4 : rn_w4 N r s k but
        · rw [rn_pick_t c4]; exact ⟨fun z => by omega, fun z => absurd c4 z.2.2.2⟩
        · rw [rn_pick_f c4]; exact ⟨fun _ => ⟨c1, c3, c2, c4⟩, fun _ => rfl⟩
  · rw [rn_pick_f c1]; exact ⟨fun z => by omega, fun z => absurd z.1 c1⟩
theorem rl_why1 {N : Nat → Int} {r s k but : Int} : rn_why N r s k but = 1 ↔ ¬ s + rn_o N r 0 ≤ rn_o N r 5 + 1 := by
  have h4 := @rl_pick_or (rn_w4 N r s k but) 4 0
  have h3 := @rl_pick_or (rn_w3 N r s k) 3 (rn_pick (rn_w4 N r s k but) 4 0)
  have h2 := @rl_pick_or (rn_cr N r s but) 2 (rn_pick (rn_w3 N r s k) 3 (rn_pick (rn_w4 N r s k but) 4 0))
  unfold rn_why
  by_cases c1 : s + rn_o N r 0 ≤ rn_o N r 5 + 1
  · rw [rn_pick_t c1]; exact ⟨fun z => by omega, fun z => absurd c1 z⟩
  · rw [rn_pick_f c1]; exact ⟨fun _ => c1, fun _ => rfl⟩
section SM
variable {N N' : Nat → Int}
theorem rl_sm_rf : rl_sm N N := ⟨⟨rfl, rfl, rfl⟩, fun _ _ _ _ _ _ _ => rfl, fun _ _ _ _ _ _ => rfl⟩
theorem rl_sm_tr {N2 : Nat → Int} (h : rl_sm N N') (g : rl_sm N' N2) : rl_sm N N2 := ⟨⟨g.1.1.trans h.1.1, g.1.2.1.trans h.1.2.1, g.1.2.2.trans h.1.2.2⟩, fun r w a b c d e => (g.2.1 r w a b c d e).trans (h.2.1 r w a b c d e), fun t w a b c d => (g.2.2 t w a b c d).trans (h.2.2 t w a b c d)⟩
theorem rl_sm_p (h : rl_sm N N') {r : Int} (r0 : 0 ≤ r) (r1 : r < 6) : ∀ k : Nat, k ≤ 60 → rn_px N' r k = rn_px N r k ∧ rn_py N' r k = rn_py N r k
  | 0, _ => ⟨h.2.1 r 3 r0 r1 (by omega) (by omega) (by omega), h.2.1 r 4 r0 r1 (by omega) (by omega) (by omega)⟩
  | k + 1, hk => by
    have ih := rl_sm_p h r0 r1 k (by omega)
    unfold rn_px rn_py
    rw [ih.1, ih.2, h.2.1 r (18 + k) r0 r1 (by omega) (by omega) (by omega)]
    exact ⟨rfl, rfl⟩
theorem rl_sm_nt (h : rl_sm N N') {r k t : Int} (r0 : 0 ≤ r) (r1 : r < 6) (k1 : k ≤ 60) (t0 : 0 ≤ t) (t1 : t < 10) : rn_nt N' r k t ↔ rn_nt N r k t := by
  have p := rl_sm_p h r0 r1 k.toNat (by omega)
  unfold rn_nt
  rw [p.1, p.2, h.2.1 r 2 r0 r1 (by omega) (by omega) (by omega), h.2.2 t 0 t0 t1 (by omega) (by omega), h.2.2 t 1 t0 t1 (by omega) (by omega), h.2.2 t 2 t0 t1 (by omega) (by omega), h.2.2 t 3 t0 t1 (by omega) (by omega)]
theorem rl_sm_mt (h : rl_sm N N') {r s t : Int} (r0 : 0 ≤ r) (r1 : r < 6) (hs : s + rn_o N r 0 ≤ 61) (t0 : 0 ≤ t) (t1 : t < 10) : rn_mt' N' r s t ↔ rn_mt' N r s t := by
  have e := h.2.1 r 0 r0 r1 (by omega) (by omega) (by omega)
  unfold rn_mt'
  rw [e]
  constructor
  · rintro ⟨k, k0, k1, k2⟩; exact ⟨k, k0, k1, (rl_sm_nt h r0 r1 (by omega) t0 t1).mp k2⟩
  · rintro ⟨k, k0, k1, k2⟩; exact ⟨k, k0, k1, (rl_sm_nt h r0 r1 (by omega) t0 t1).mpr k2⟩
theorem rl_sm_w3 (h : rl_sm N N') (v : rn_vd N) {r s k : Int} (r0 : 0 ≤ r) (r1 : r < 6) (hs : s + rn_o N r 0 ≤ 61) : rn_w3 N' r s k ↔ rn_w3 N r s k := by
  have v1 := v.2.1
  unfold rn_w3
  rw [h.1.2.1]
  constructor
  · rintro ⟨t, t0, t1, t2, t3⟩
    exact ⟨t, t0, t1, by rw [← h.2.2 t 4 t0 (by omega) (by omega) (by omega)]; exact t2, (rl_sm_mt h r0 r1 hs t0 (by omega)).mp t3⟩
  · rintro ⟨t, t0, t1, t2, t3⟩
    exact ⟨t, t0, t1, by rw [h.2.2 t 4 t0 (by omega) (by omega) (by omega)]; exact t2, (rl_sm_mt h r0 r1 hs t0 (by omega)).mpr t3⟩
theorem rl_sm_ge (h : rl_sm N N') {r s q j : Int} (r0 : 0 ≤ r) (r1 : r < 6) (q0 : 0 ≤ q) (q1 : q < 6) (hs : s + rn_o N r 0 ≤ 61) (hj : j + rn_o N q 0 ≤ 61) : rl_ge N' r s q j ↔ rl_ge N r s q j := by
  have e1 := h.2.1 r 0 r0 r1 (by omega) (by omega) (by omega)
  have e2 := h.2.1 q 0 q0 q1 (by omega) (by omega) (by omega)
  have e3 := h.2.1 r 2 r0 r1 (by omega) (by omega) (by omega)
  have e4 := h.2.1 q 2 q0 q1 (by omega) (by omega) (by omega)
  unfold rl_ge
  rw [e1, e2, e3, e4]
  have nn : ∀ {k i z : Int}, k ≤ 60 → i ≤ 60 → (rn_near N' r k q i z ↔ rn_near N r k q i z) := by
    intro k i z hk hi
    have p1 := rl_sm_p h r0 r1 k.toNat (by omega)
    have p2 := rl_sm_p h q0 q1 i.toNat (by omega)
    unfold rn_near
    rw [p1.1, p1.2, p2.1, p2.2]
  constructor
  · rintro ⟨k, k0, k1, i, i0, i1, hn⟩; exact ⟨k, k0, k1, i, i0, i1, (nn (by omega) (by omega)).mp hn⟩
  · rintro ⟨k, k0, k1, i, i0, i1, hn⟩; exact ⟨k, k0, k1, i, i0, i1, (nn (by omega) (by omega)).mpr hn⟩
theorem rl_sm_cf (h : rl_sm N N') {r s k q j : Int} (hk : rn_o N' q 1 = rn_o N q 1 ∨ q = r) (r0 : 0 ≤ r) (r1 : r < 6) (q0 : 0 ≤ q) (q1 : q < 6) (hs : s + rn_o N r 0 ≤ 61) (hj : j + rn_o N q 0 ≤ 61) : rl_cf N' r s k q j ↔ rl_cf N r s k q j := by
  have e1 := h.2.1 r 0 r0 r1 (by omega) (by omega) (by omega)
  have g := rl_sm_ge h r0 r1 q0 q1 hs hj
  unfold rl_cf
  rw [e1, h.1.2.2, g]
  rcases hk with e | e
  · rw [e]
  · constructor
    · rintro (z | ⟨z, -⟩)
      · exact Or.inl z
      · exact absurd e z
    · rintro (z | ⟨z, -⟩)
      · exact Or.inl z
      · exact absurd e z
theorem rl_sm_gd (h : rl_sm N N') (v : rn_vd N) (g : rn_gd N) : rn_gd N' := by
  intro r x r0 r1 x0 x1
  have v0 := v.1
  rw [h.1.1] at r1
  have vr := (v.2.2.2.2.1 r r0 r1).1
  rw [h.2.1 r 0 r0 (by omega) (by omega) (by omega) (by omega)] at x1
  rw [h.2.1 r (6 + x) r0 (by omega) (by omega) (by omega) (by omega)]
  exact g r x r0 r1 x0 x1
/-! a river has another rank -/
theorem rl_rk_o {r x q w : Int} (r0 : 0 ≤ r) (q0 : 0 ≤ q) (w0 : 0 ≤ w) (w1 : w < 78) (h : ¬ (q = r ∧ w = 1)) : rn_o (rn_up N (4 + 78 * r + 1).toNat x) q w = rn_o N q w := by
  unfold rn_o
  exact rn_up_ne (by omega)
theorem rl_rk_1 {r x : Int} : rn_o (rn_up N (4 + 78 * r + 1).toNat x) r 1 = x := by unfold rn_o; exact rn_up_eq
theorem rl_rk_sm {r x : Int} (r0 : 0 ≤ r) (r1 : r < 6) : rl_sm N (rn_up N (4 + 78 * r + 1).toNat x) := by
  refine ⟨⟨rn_up_ne (by omega), rn_up_ne (by omega), rn_up_ne (by omega)⟩, fun q w q0 q1 w0 w1 hw => rl_rk_o r0 q0 w0 w1 (fun z => hw z.2), fun t w t0 t1 w0 w1 => ?_⟩
  unfold rn_tw
  exact rn_up_ne (by omega)
theorem rl_rk_lb {r x l w : Int} (r0 : 0 ≤ r) (r1 : r < 6) (l0 : 0 ≤ l) (w0 : 0 ≤ w) : rn_lb (rn_up N (4 + 78 * r + 1).toNat x) l w = rn_lb N l w := by
  unfold rn_lb
  exact rn_up_ne (by omega)
theorem rl_rk_fits (v : rn_vd N) {r x k : Int} (r0 : 0 ≤ r) (r1 : r < N 0) : rn_fits (rn_up N (4 + 78 * r + 1).toNat x) r k ↔ rn_fits N r k := by
  have v0 := v.1
  have vr := v.2.2.2.2.1 r r0 r1
  have v5 := vr.2.2.2.1
  have sm := rl_rk_sm (N := N) (r := r) (x := x) r0 (by omega)
  have e2 : rn_up N (4 + 78 * r + 1).toNat x 2 = N 2 := rn_up_ne (by omega)
  have one : ∀ s : Int, 0 ≤ s → (rn_why (rn_up N (4 + 78 * r + 1).toNat x) r s k (-9) = 0 ↔ rn_why N r s k (-9) = 0) := by
    intro s s0
    rw [rl_why0, rl_why0, sm.2.1 r 0 r0 (by omega) (by omega) (by omega) (by omega), sm.2.1 r 5 r0 (by omega) (by omega) (by omega) (by omega)]
    by_cases c : s + rn_o N r 0 ≤ rn_o N r 5 + 1
    · have w := rl_sm_w3 sm v (k := k) (s := s) r0 (by omega) (by omega)
      have f : rl_fr (rn_up N (4 + 78 * r + 1).toNat x) r s k (-9) ↔ rl_fr N r s k (-9) := by
        have cf : ∀ l : Int, 0 ≤ l → l < N 2 → (rl_cf (rn_up N (4 + 78 * r + 1).toNat x) r s k (rn_lb N l 0) (rn_lb N l 1) ↔ rl_cf N r s k (rn_lb N l 0) (rn_lb N l 1)) := by
          intro l l0 l1
          have vl := v.2.2.2.2.2.2 l l0 l1
          have vl1 := vl.1
          have vl2 := vl.2
          have w5 := (v.2.2.2.2.1 _ vl.1.1 vl.1.2).2.2.2.1
          refine rl_sm_cf sm ?_ r0 (by omega) vl.1.1 (by omega) (by omega) (by omega)
          by_cases q : rn_lb N l 0 = r
          · exact Or.inr q
          · exact Or.inl (rl_rk_o r0 vl.1.1 (by omega) (by omega) (fun z => q z.1))
        unfold rl_fr
        rw [e2]
        constructor
        · intro h l l0 l1 l2 z
          have := h l l0 l1 l2
          rw [rl_rk_lb r0 (by omega) l0 (by omega), rl_rk_lb r0 (by omega) l0 (by omega)] at this
          exact this ((cf l l0 l1).mpr z)
        · intro h l l0 l1 l2 z
          rw [rl_rk_lb r0 (by omega) l0 (by omega), rl_rk_lb r0 (by omega) l0 (by omega)] at z
          exact h l l0 l1 l2 ((cf l l0 l1).mp z)
      rw [w, f]
    · exact ⟨fun z => absurd z.1 c, fun z => absurd z.1 c⟩
  unfold rn_fits
  constructor
  · rintro ⟨s, s0, s1, h⟩; exact ⟨s, s0, s1, (one s s0).mp h⟩
  · rintro ⟨s, s0, s1, h⟩; exact ⟨s, s0, s1, (one s s0).mpr h⟩
/-! the best start -/
theorem rl_bsn_no {r : Int} : ∀ n : Nat, rn_bsn N r n = -9 → ∀ j : Nat, j < n → rn_why N r j (rn_o N r 1) (-9) ≠ 0
  | 0, _, j, hj => by omega
  | n + 1, h, j, hj => by
    have br := rn_bsn_r (N := N) r n
    unfold rn_bsn at h
    by_cases c : rn_why N r n (rn_o N r 1) (-9) = 0 ∧ (rn_bsn N r n = -9 ∨ rn_cost N r n < rn_cost N r (rn_bsn N r n))
    · rw [rn_pick_t c] at h; omega
    · rw [rn_pick_f c] at h
      by_cases e : j = n
      · subst e; exact fun z => c ⟨z, Or.inl h⟩
      · exact rl_bsn_no n h j (by omega)
theorem rl_bsn_61 (v : rn_vd N) {r : Int} (r0 : 0 ≤ r) (r1 : r < N 0) : rn_bsn N r 61 = rn_best N r := by
  have vr := v.2.2.2.2.1 r r0 r1
  have v5 := vr.2.2.2.1
  have vr0 := vr.1
  have := rn_bsn_st (N := N) (r := r) (n := (rn_o N r 5 + 1).toNat) (61 - (rn_o N r 5 + 1).toNat) (fun j h1 h2 => by
    rw [rl_why1.mpr (by omega)]; omega)
  unfold rn_best
  rw [← this]
  congr 1
  omega
/-- no label may stand -/
theorem rl_best_no (v : rn_vd N) {r : Int} (r0 : 0 ≤ r) (r1 : r < N 0) : (rn_best N r = -9 ∧ ¬ rn_fits N r (rn_o N r 1)) ∨ (0 ≤ rn_best N r ∧ rn_best N r ≤ 60) ∧ rn_fits N r (rn_o N r 1) ∧ rn_why N r (rn_best N r) (rn_o N r 1) (-9) = 0 := by
  have e := rl_bsn_61 v r0 r1
  have br := rn_bsn_r (N := N) r 61
  rw [e] at br
  rcases br with h | ⟨h1, h2, h3⟩
  · refine Or.inl ⟨h, ?_⟩
    rintro ⟨s, s0, s1, hs⟩
    have := rl_bsn_no 61 (e.trans h) s.toNat (by omega)
    rw [show ((s.toNat : Nat) : Int) = s by omega] at this
    exact this hs
  · exact Or.inr ⟨⟨h1, by omega⟩, ⟨_, h1, by omega, h3⟩, h3⟩
/-! a label more -/
theorem rl_nl_sm (v : rn_vd N) {r s : Int} : rl_sm N (rn_nl N r s) := by
  have v2 := v.2.2.1
  exact ⟨⟨rn_nl_lo (by omega) (by omega) v2.1, rn_nl_lo (by omega) (by omega) v2.1, rn_nl_lo (by omega) (by omega) v2.1⟩, fun q w q0 q1 w0 w1 _ => rn_nl_eqR v2.1 q0 q1 w w0 w1, fun t w t0 t1 w0 w1 => rn_nl_tw v2.1 t0 t1 w0 w1⟩
theorem rl_nl_o (v : rn_vd N) {r s q w : Int} (q0 : 0 ≤ q) (q1 : q < 6) (w0 : 0 ≤ w) (w1 : w < 78) : rn_o (rn_nl N r s) q w = rn_o N q w := rn_nl_eqR v.2.2.1.1 q0 q1 w w0 w1
theorem rl_bdn_cg {r : Int} (h : ∀ w, 0 ≤ w → w < 78 → rn_o N' r w = rn_o N r w) {s : Int} (s0 : 0 ≤ s) : ∀ n : Nat, s + n < 60 → rn_bdn N' r s n = rn_bdn N r s n
  | 0, _ => rfl
  | n + 1, hn => by
    unfold rn_bdn
    rw [rl_bdn_cg h s0 n (by omega), h (18 + (s + n)) (by omega) (by omega), h (18 + (s + n + 1)) (by omega) (by omega)]
/-- the new label beside the others -/
theorem rl_nl_why (v : rn_vd N) {r s : Int} (r0 : 0 ≤ r) (r1 : r < N 0) (s0 : 0 ≤ s) (h : rn_why N r s (rn_o N r 1) (-9) = 0) : rn_why (rn_nl N r s) r s (rn_o N r 1) (N 2) = 0 := by
  have v0 := v.1
  have v2 := v.2.2.1
  have vr := v.2.2.2.2.1 r r0 r1
  have v5 := vr.2.2.2.1
  have sm := rl_nl_sm v (r := r) (s := s)
  rw [rl_why0] at h ⊢
  obtain ⟨h1, h2, h3⟩ := h
  rw [rl_nl_o v r0 (by omega) (by omega) (by omega), rl_nl_o v r0 (by omega) (by omega) (by omega)]
  refine ⟨h1, fun z => h2 ((rl_sm_w3 sm v r0 (by omega) (by omega)).mp z), fun l l0 l1 l2 z => ?_⟩
  rw [rn_nl_2] at l1
  have vl := v.2.2.2.2.2.2 l l0 (by omega)
  have vl1 := vl.1
  have vl2 := vl.2
  have w5 := (v.2.2.2.2.1 _ vl.1.1 vl.1.2).2.2.2.1
  rw [rn_nl_lb l0 (by omega) (by omega) (by omega), rn_nl_lb l0 (by omega) (by omega) (by omega)] at z
  exact h3 l l0 (by omega) (by omega) ((rl_sm_cf sm (Or.inl (rl_nl_o v vl.1.1 (by omega) (by omega) (by omega))) r0 (by omega) vl.1.1 (by omega) (by omega) (by omega)).mp z)
end SM
