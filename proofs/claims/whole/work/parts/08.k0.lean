theorem rn_kall : ∀ mt ∈ rn_mts, rn_chm mt = true := sorry
