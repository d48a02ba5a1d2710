section C2
variable {M : rn_M} {Q : rn_Q}
theorem rc_Mo_isTown {x y w h : Int} (k : Q (some (rn_I (rn_b (((0 ≤ x ∧ x < 60) ∧ 0 ≤ y ∧ y < 40) ∧ (1 ≤ w ∧ w ≤ 12) ∧ (1 ≤ h ∧ h ≤ 3) ∧ x + w ≤ 60 ∧ y + h ≤ 40)))) M) : rn_ME 138 [rn_I x, rn_I y, rn_I w, rn_I h] M Q := by
  refine re_Mo_isTown (rb_Mo_isTown_0 ?_ ?_ ?_ ?_ ?_ ?_ ?_ ?_) <;> intros <;> first | omega | exact rn_kf (by omega) k | exact rn_kt (by omega) k
theorem rc_Mo_hasPlaces (hM : rn_sh M) {r s n : Int} (h1 : 0 ≤ r ∧ r ≤ 5) (h2 : -1000 ≤ s + n ∧ s + n ≤ 1000) (h3 : -1000 ≤ rn_o (rn_gi M 467) r 5 ∧ rn_o (rn_gi M 467) r 5 ≤ 1000) (k : Q (some (rn_I (rn_b (s + n ≤ rn_o (rn_gi M 467) r 5 + 1)))) M) : rn_ME 151 [rn_R 466, rn_I r, rn_I s, rn_I n] M Q := by
  refine re_Mo_hasPlaces (rb_Mo_hasPlaces_0 hM ?_ ?_ ?_) <;> intros <;> first | omega | exact rn_kf (by omega) k | exact rn_kt (by omega) k
theorem rc_Re_kindOf {x : Int} (k : Q (some (rn_I (rn_ko x))) M) : rn_ME 55 [rn_I x] M Q := by
  refine re_Re_kindOf (rb_Re_kindOf_0 ?_ ?_ ?_ ?_) <;> intros <;> (refine rn_kv ?_ k; unfold rn_ko; (repeat' split) <;> omega)
end C2
