/-- the law, over the abstract machine -/
theorem rn_law (N : Nat) (hN : N ≤ 3072) (xs : Nat → Int) (hxs : ∀ k, -2147483648 ≤ xs k ∧ xs k ≤ 2147483647) : rn_ME 215 [rn_R 0] (rn_M0 N xs) (fun r _ => r = some (rn_I 1)) := sorry
