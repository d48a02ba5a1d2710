/-! the reference: its other actions; append and clearText of both -/
section AC2
variable {M : rn_M} {Q : rn_Q} {N : Nat → Int} {n B : Int} {K : Nat → Nat → Int}
theorem rq_append (hM : rn_sh M) (t : 0 ≤ rn_gi M 10 0 ∧ rn_gi M 10 0 ≤ 150) {x : Int} (k0 : ¬ (1 ≤ x ∧ x ≤ 255) → Q (some (rn_I (-1))) M) (k1 : 1 ≤ x ∧ x ≤ 255 → rn_gi M 10 0 = 150 → Q (some (rn_I (-3))) M)
    (k2 : 1 ≤ x ∧ x ≤ 255 → rn_gi M 10 0 ≠ 150 → Q (some (rn_I (rn_gi M 10 0 + 1))) (rn_si (rn_si M 11 (rn_gi M 10 0).toNat x) 10 0 (rn_gi M 10 0 + 1))) : rn_ME 91 [rn_R 8, rn_I x] M Q := by
  refine re_RN_append (rb_RN_append_0 hM k0 (fun c => re_Te_write (rb_Te_write_0 hM ?_ ?_ ?_)))
  · intro _; omega
  · intro z; exact rb_RN_append_24 hM (fun _ => k1 c (by omega)) (fun z => absurd rfl z)
  · intro z
    refine rb_RN_append_24 (rn_sh_si (rn_sh_si hM)) (fun z => by omega) (fun _ => ?_)
    rw [rn_si_eq]
    exact k2 c (by omega)
end AC2
