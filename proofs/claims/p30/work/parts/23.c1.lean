section C1
variable {M : rn_M} {Q : rn_Q}
theorem rc_RN_isRank {x : Int} (k : Q (some (rn_I (rn_b (1 ≤ x ∧ x ≤ 9)))) M) : rn_ME 120 [rn_I x] M Q := re_RN_isRank (rb_RN_isRank_0 k)
theorem rc_RN_isHalo {x : Int} (k : Q (some (rn_I (rn_b (0 ≤ x ∧ x ≤ 2)))) M) : rn_ME 121 [rn_I x] M Q := re_RN_isHalo (rb_RN_isHalo_0 k)
theorem rc_RN_isPlaceNumber {x : Int} (k : Q (some (rn_I (rn_b (0 ≤ x ∧ x ≤ 60)))) M) : rn_ME 122 [rn_I x] M Q := re_RN_isPlaceNumber (rb_RN_isPlaceNumber_0 k)
theorem rc_Ri_columnAt (hM : rn_sh M) {a : Nat} (p : rn_isR a) {x : Int} (h1 : 0 ≤ x ∧ x ≤ rn_gi M a 4) (h2 : rn_gi M a 4 ≤ 60) (k : Q (some (rn_I (rn_gi M (a + 3) x.toNat))) M) : rn_ME 65 [rn_R a, rn_I x] M Q := by
  refine re_Ri_columnAt (rb_Ri_columnAt_0 hM p ?_ ?_ ?_) <;> intros <;> first | omega | exact k | exact absurd h1 (by assumption)
theorem rc_Ri_rowAt (hM : rn_sh M) {a : Nat} (p : rn_isR a) {x : Int} (h1 : 0 ≤ x ∧ x ≤ rn_gi M a 4) (h2 : rn_gi M a 4 ≤ 60) (k : Q (some (rn_I (rn_gi M (a + 4) x.toNat))) M) : rn_ME 66 [rn_R a, rn_I x] M Q := by
  refine re_Ri_rowAt (rb_Ri_rowAt_0 hM p ?_ ?_ ?_) <;> intros <;> first | omega | exact k | exact absurd h1 (by assumption)
theorem rc_Ri_letterAt (hM : rn_sh M) {a : Nat} (p : rn_isR a) {x : Int} (h1 : 0 ≤ rn_gi M a 3 ∧ rn_gi M a 3 ≤ 12) (k : Q (some (rn_I (rn_lt2 M a x))) M) : rn_ME 67 [rn_R a, rn_I x] M Q := by
  refine re_Ri_letterAt (rb_Ri_letterAt_0 hM p ?_ ?_ ?_ ?_)
  · omega
  · intros; omega
  · intro h; refine rn_kv ?_ k; unfold rn_lt2; rw [if_neg h]
  · intro h; refine rn_kv ?_ k; unfold rn_lt2; rw [if_pos h]
theorem rc_To_isNear (hM : rn_sh M) {a : Nat} (p : rn_isT a) {x y h : Int} (h1 : rn_tk M a) (h2 : -1000 ≤ h ∧ h ≤ 1000) (k : Q (some (rn_I (rn_b (rn_tn2 M a x y h)))) M) : rn_ME 89 [rn_R a, rn_I x, rn_I y, rn_I h] M Q := by
  unfold rn_tk at h1
  unfold rn_tn2 at k
  refine re_To_isNear (rb_To_isNear_0 hM p ?_ ?_ ?_ ?_ ?_) <;> intros <;> first | omega | exact rn_kf (by omega) k | exact rn_kt (by omega) k
theorem rc_Ri_isNear (hM : rn_sh M) {a : Nat} (p : rn_isR a) {q x y h : Int} (h1 : rn_gi M a 4 ≤ 60) (h2 : rn_rk2 M a) (h3 : (-1000 ≤ x ∧ x ≤ 1000) ∧ -1000 ≤ y ∧ y ≤ 1000) (k : Q (some (rn_I (rn_b (rn_rn2 M a q x y h)))) M) : rn_ME 74 [rn_R a, rn_I q, rn_I x, rn_I y, rn_I h] M Q := by
  have h4 := h2 q.toNat
  unfold rn_rn2 at k
  refine re_Ri_isNear (rb_Ri_isNear_0 hM p ?_ ?_ ?_ ?_ ?_ ?_ ?_) <;> intros <;> first | omega | exact rn_kf (by omega) k | exact rn_kt (by omega) k
end C1
