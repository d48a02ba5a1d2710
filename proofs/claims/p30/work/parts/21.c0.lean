section C0
variable {M : rn_M} {Q : rn_Q}
theorem rc_RN_within {x lo hi : Int} (k : Q (some (rn_I (rn_b (lo ≤ x ∧ x ≤ hi)))) M) : rn_ME 118 [rn_I x, rn_I lo, rn_I hi] M Q := by
  refine re_RN_within (rb_RN_within_0 ?_ ?_ ?_) <;> intros <;> first | exact rn_kf (by omega) k | exact rn_kt (by omega) k
theorem rc_RN_onMap {x y : Int} (k : Q (some (rn_I (rn_b ((0 ≤ x ∧ x < 60) ∧ 0 ≤ y ∧ y < 40)))) M) : rn_ME 119 [rn_I x, rn_I y] M Q := by
  refine re_RN_onMap (rb_RN_onMap_0 ?_ ?_ ?_ ?_ ?_) <;> intros <;> first | exact rn_kf (by omega) k | exact rn_kt (by omega) k
theorem rc_Ri_hasPlace (hM : rn_sh M) {a : Nat} (p : rn_isR a) {x : Int} (k : Q (some (rn_I (rn_b (0 ≤ x ∧ x ≤ rn_gi M a 4)))) M) : rn_ME 64 [rn_R a, rn_I x] M Q := by
  refine re_Ri_hasPlace (rb_Ri_hasPlace_0 hM p ?_ ?_ ?_) <;> intros <;> first | exact rn_kf (by omega) k | exact rn_kt (by omega) k
theorem rc_Ri_lastStart (hM : rn_sh M) {a : Nat} (p : rn_isR a) {x : Int} (h1 : -1000 ≤ x ∧ x ≤ 1000) (h2 : -1000 ≤ rn_gi M a 4 ∧ rn_gi M a 4 ≤ 1000) (k : Q (some (rn_I (rn_gi M a 4 + 1 - x))) M) : rn_ME 68 [rn_R a, rn_I x] M Q := by
  refine re_Ri_lastStart (rb_Ri_lastStart_0 hM p ?_ ?_)
  · omega
  · exact k
theorem rc_Hi_present (hM : rn_sh M) (h : rn_gr M 12 2 = some (rn_go M 12 2)) (k : Q (some (rn_R (rn_go M 12 2))) M) : rn_ME 20 [rn_R 12] M Q := re_Hi_present (rb_Hi_present_0 hM h k)
end C0
