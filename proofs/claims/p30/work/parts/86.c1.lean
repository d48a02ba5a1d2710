/-! refused: an error changes nothing -/
section LC
variable {G : Nat × (Nat → Int)} {M : rn_M} {Q : rn_Q} {N : Nat → Int} {n : Int} {K : Nat → Nat → Int}
theorem iq_refused (J : rn_Jq G M N n K) (k : ∀ M', rn_Jq G M' N n K → Q (some (rn_I 1)) M') : rn_ME 127 [rn_R 8] M Q := by
  have v := rn_Jv J
  have v0 := v.1
  have v1 := v.2.1
  have e := rn_cmp0 (rn_pr N)
  refine re_Lw_refused (rb_Lw_refused_0 J ?_ ?_ ?_ ?_ ?_ ?_ ?_ ?_ ?_ ?_ ?_ ?_ (fun _ _ _ => k) (fun _ _ _ => k) (fun _ _ _ => k) (fun _ _ _ => k) (fun _ _ _ => k) (fun _ _ _ => k) (fun _ _ _ => k) (fun _ _ _ => k))
  all_goals (try unfold rn_rg); (try unfold rn_tg); omega
end LC
