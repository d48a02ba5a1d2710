/-! THE MATHEMATICS: a state is the reference's row N of 562 ints; rivers, towns, labels by their places in it -/
def rn_px (N : Nat → Int) (r : Int) : Nat → Int
  | 0 => rn_o N r 3
  | k + 1 => rn_px N r k + rn_sx (rn_o N r (18 + k))
def rn_py (N : Nat → Int) (r : Int) : Nat → Int
  | 0 => rn_o N r 4
  | k + 1 => rn_py N r k + rn_sy (rn_o N r (18 + k))
/-- the sum of n turns from the move s on -/
def rn_bdn (N : Nat → Int) (r s : Int) : Nat → Int
  | 0 => 0
  | n + 1 => rn_bdn N r s n + rn_tu (rn_o N r (18 + (s + n))) (rn_o N r (18 + (s + n + 1)))
def rn_bend (N : Nat → Int) (r s p : Int) : Int := rn_bdn N r s (p - 2).toNat
def rn_cost (N : Nat → Int) (r s : Int) : Int := 10 * rn_bend N r s (rn_o N r 0) + max (2 * s + rn_o N r 0 - 1 - rn_o N r 5) (-(2 * s + rn_o N r 0 - 1 - rn_o N r 5))
/-- the label from s on is turned -/
def rn_trn (N : Nat → Int) (r s : Int) : Prop := rn_px N r (s + rn_o N r 0 - 1).toNat < rn_px N r s.toNat ∨ rn_px N r (s + rn_o N r 0 - 1).toNat = rn_px N r s.toNat ∧ rn_py N r (s + rn_o N r 0 - 1).toNat < rn_py N r s.toNat
/-- a river of a good state -/
def rn_vR (N : Nat → Int) (r : Int) : Prop := (1 ≤ rn_o N r 0 ∧ rn_o N r 0 ≤ 12) ∧ (1 ≤ rn_o N r 1 ∧ rn_o N r 1 ≤ 9) ∧ (0 ≤ rn_o N r 2 ∧ rn_o N r 2 ≤ 2) ∧ (0 ≤ rn_o N r 5 ∧ rn_o N r 5 ≤ 60) ∧
  (∀ x : Int, 0 ≤ x → x < 60 → 0 ≤ rn_o N r (18 + x) ∧ rn_o N r (18 + x) ≤ 7) ∧ (∀ x : Int, 0 ≤ x → x < 12 → 0 ≤ rn_o N r (6 + x) ∧ rn_o N r (6 + x) ≤ 255) ∧
  ∀ x : Int, 0 ≤ x → x ≤ rn_o N r 5 → (0 ≤ rn_px N r x.toNat ∧ rn_px N r x.toNat < 60) ∧ 0 ≤ rn_py N r x.toNat ∧ rn_py N r x.toNat < 40
/-- a cell of a town, of a label -/
def rn_tw (N : Nat → Int) (t w : Int) : Int := N (472 + 5 * t + w).toNat
def rn_lb (N : Nat → Int) (l w : Int) : Int := N (522 + 2 * l + w).toNat
def rn_vT (N : Nat → Int) (t : Int) : Prop := (0 ≤ rn_tw N t 0 ∧ rn_tw N t 0 + rn_tw N t 2 ≤ 60) ∧ (0 ≤ rn_tw N t 1 ∧ rn_tw N t 1 + rn_tw N t 3 ≤ 40) ∧ (1 ≤ rn_tw N t 2 ∧ rn_tw N t 2 ≤ 12) ∧ (1 ≤ rn_tw N t 3 ∧ rn_tw N t 3 ≤ 3) ∧ 1 ≤ rn_tw N t 4 ∧ rn_tw N t 4 ≤ 9
def rn_vL (N : Nat → Int) (l : Int) : Prop := (0 ≤ rn_lb N l 0 ∧ rn_lb N l 0 < N 0) ∧ (0 ≤ rn_lb N l 1 ∧ rn_lb N l 1 ≤ 60) ∧ rn_lb N l 1 + rn_o N (rn_lb N l 0) 0 ≤ rn_o N (rn_lb N l 0) 5 + 1
/-- a good state -/
def rn_vd (N : Nat → Int) : Prop := (0 ≤ N 0 ∧ N 0 ≤ 6) ∧ (0 ≤ N 1 ∧ N 1 ≤ 10) ∧ (0 ≤ N 2 ∧ N 2 ≤ 20) ∧ (0 ≤ N 3 ∧ N 3 ≤ 60) ∧
  (∀ r : Int, 0 ≤ r → r < N 0 → rn_vR N r) ∧ (∀ t : Int, 0 ≤ t → t < N 1 → rn_vT N t) ∧ ∀ l : Int, 0 ≤ l → l < N 2 → rn_vL N l
/-- a letter's area of a river meets a town; two labels' areas meet -/
def rn_nt (N : Nat → Int) (r k t : Int) : Prop := (rn_tw N t 0 - rn_o N r 2 ≤ rn_px N r k.toNat ∧ rn_px N r k.toNat ≤ rn_tw N t 0 + rn_tw N t 2 - 1 + rn_o N r 2) ∧ rn_tw N t 1 - rn_o N r 2 ≤ rn_py N r k.toNat ∧ rn_py N r k.toNat ≤ rn_tw N t 1 + rn_tw N t 3 - 1 + rn_o N r 2
def rn_near (N : Nat → Int) (r k q j h : Int) : Prop := (rn_px N r k.toNat - rn_px N q j.toNat ≤ h ∧ rn_px N q j.toNat - rn_px N r k.toNat ≤ h) ∧ rn_py N r k.toNat - rn_py N q j.toNat ≤ h ∧ rn_py N q j.toNat - rn_py N r k.toNat ≤ h
def rn_mt' (N : Nat → Int) (r s t : Int) : Prop := ∃ k : Int, s ≤ k ∧ k < s + rn_o N r 0 ∧ rn_nt N r k t
/-- the letter at the place k of r is near to a letter of the label l -/
def rn_kl (N : Nat → Int) (r k l : Int) : Prop := ∃ j : Int, rn_lb N l 1 ≤ j ∧ j < rn_lb N l 1 + rn_o N (rn_lb N l 0) 0 ∧ rn_near N r k (rn_lb N l 0) j (rn_o N r 2 + rn_o N (rn_lb N l 0) 2)
def rn_ml' (N : Nat → Int) (r s l : Int) : Prop := ∃ k : Int, s ≤ k ∧ k < s + rn_o N r 0 ∧ rn_kl N r k l
def rn_cr (N : Nat → Int) (r s but : Int) : Prop := ∃ l : Int, 0 ≤ l ∧ l < N 2 ∧ l ≠ but ∧ rn_lb N l 0 = r ∧ s - rn_lb N l 1 < rn_o N r 0 + N 3 ∧ rn_lb N l 1 - s < rn_o N r 0 + N 3
def rn_w3 (N : Nat → Int) (r s rank : Int) : Prop := ∃ t : Int, 0 ≤ t ∧ t < N 1 ∧ rank ≤ rn_tw N t 4 ∧ rn_mt' N r s t
def rn_w4 (N : Nat → Int) (r s rank but : Int) : Prop := ∃ l : Int, 0 ≤ l ∧ l < N 2 ∧ l ≠ but ∧ rn_lb N l 0 ≠ r ∧ rank ≤ rn_o N (rn_lb N l 0) 1 ∧ rn_ml' N r s l
/-- why a label would not stand -/
noncomputable def rn_pick (P : Prop) (a b : Int) : Int := @ite Int P (Classical.propDecidable P) a b
theorem rn_pick_t {P : Prop} (h : P) (a b : Int) : rn_pick P a b = a := by unfold rn_pick; rw [if_pos h]
theorem rn_pick_f {P : Prop} (h : ¬ P) (a b : Int) : rn_pick P a b = b := by unfold rn_pick; rw [if_neg h]
noncomputable def rn_why (N : Nat → Int) (r s rank but : Int) : Int := rn_pick (s + rn_o N r 0 ≤ rn_o N r 5 + 1) (rn_pick (rn_cr N r s but) 2 (rn_pick (rn_w3 N r s rank) 3 (rn_pick (rn_w4 N r s rank but) 4 0))) 1
/-- the best of the starts below n -/
noncomputable def rn_bsn (N : Nat → Int) (r : Int) : Nat → Int
  | 0 => -9
  | n + 1 => rn_pick (rn_why N r n (rn_o N r 1) (-9) = 0 ∧ (rn_bsn N r n = -9 ∨ rn_cost N r n < rn_cost N r (rn_bsn N r n))) n (rn_bsn N r n)
noncomputable def rn_best (N : Nat → Int) (r : Int) : Int := rn_bsn N r (rn_o N r 5 + 1).toNat
/-- the straightest of the starts below n -/
noncomputable def rn_stn (N : Nat → Int) (r p : Int) : Nat → Int
  | 0 => -9
  | n + 1 => rn_pick (rn_stn N r p n = -9 ∨ rn_bend N r n p < rn_bend N r (rn_stn N r p n) p) n (rn_stn N r p n)
theorem rn_tu_r {a b : Int} (h1 : 0 ≤ a ∧ a ≤ 7) (h2 : 0 ≤ b ∧ b ≤ 7) : 0 ≤ rn_tu a b ∧ rn_tu a b ≤ 4 := by
  unfold rn_tu; (repeat' split) <;> omega
theorem rn_bdn_r {N : Nat → Int} {r s : Int} (hv : rn_vR N r) (hs : 0 ≤ s) : ∀ n : Nat, s + n < 60 → 0 ≤ rn_bdn N r s n ∧ rn_bdn N r s n ≤ 4 * n
  | 0, _ => ⟨Int.le_refl _, by unfold rn_bdn; omega⟩
  | n + 1, h => by
    have h1 := rn_bdn_r hv hs n (by omega)
    have h2 := rn_tu_r (hv.2.2.2.2.1 (s + n) (by omega) (by omega)) (hv.2.2.2.2.1 (s + n + 1) (by omega) (by omega))
    unfold rn_bdn
    omega
theorem rn_bend_r {N : Nat → Int} {r s p : Int} (hv : rn_vR N r) (hs : 0 ≤ s) (h : s + p ≤ rn_o N r 5 + 1) : 0 ≤ rn_bend N r s p ∧ rn_bend N r s p ≤ 240 := by
  have h5 := hv.2.2.2.1
  unfold rn_bend
  rcases Int.lt_or_le p 2 with q | q
  · rw [show (p - 2).toNat = 0 by omega]; unfold rn_bdn; omega
  · have := rn_bdn_r hv hs (p - 2).toNat (by omega)
    omega
