/-! the law's own small methods: cell, low, size -/
section LA
variable {G : Nat × (Nat → Int)} {M : rn_M} {Q : rn_Q} {N : Nat → Int} {n : Int} {K : Nat → Nat → Int}
def rn_cx (G : Nat × (Nat → Int)) (k : Int) : Int := if k < (G.1 : Int) then rn_xor (G.2 k.toNat) (rn_usr (G.2 k.toNat) 15) else rn_xor (rn_wr (916318735 * rn_wr (k + 3))) (rn_usr (rn_wr (916318735 * rn_wr (k + 3))) 15)
theorem iq_cellS (J : rn_Jq G M N n K) {x : Int} (h : 0 ≤ x) (k : ∀ M', rn_Jq G M' N n K → Q (some (rn_I (rn_cx G x))) M') : rn_ME 123 [rn_R 0, rn_I x] M Q := by
  have k := k M J
  unfold rn_cx at k
  refine re_Lw_cell (rb_Lw_cell_0 (n1 := G.1) J.2.2.2.2.1.1 (fun c => ⟨h, c⟩) (fun c => ?_) (fun c => ?_))
  · rw [if_pos c] at k; rw [J.2.2.2.2.1.2]; exact k
  · rw [if_neg c] at k; exact k
theorem rn_and31 (x : Int) : 0 ≤ rn_and x 2147483647 := by
  unfold rn_and
  obtain ⟨j, hj, e⟩ := pk_andE (Int32.ofInt x) (m := Int32.ofInt 2147483647) 31 (by decide)
  rw [e, nI_toInt (by omega)]
  omega
theorem rc_Lw_low {x m : Int} (h : 0 < m) (k : Q (some (rn_I (rn_and x 2147483647 % m))) M) : rn_ME 124 [rn_I x, rn_I m] M Q := re_Lw_low (rb_Lw_low_0 ⟨rn_and31 x, h⟩ k)
theorem rc_Lw_size {x : Int} (h : -2147483647 ≤ x ∧ x ≤ 2147483647) (k : Q (some (rn_I (max x (-x)))) M) : rn_ME 125 [rn_I x] M Q := by
  refine re_Lw_size (rb_Lw_size_0 (fun _ => by omega) (fun c => ?_) (fun c => ?_))
  · rw [show max x (-x) = x by omega] at k; exact k
  · rw [show max x (-x) = -x by omega] at k; exact k
end LA
