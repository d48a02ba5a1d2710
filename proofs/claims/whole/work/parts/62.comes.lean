/-! the reference: comesTown -/
section CMS
variable {M : rn_M} {Q : rn_Q} {N : Nat → Int}
theorem rm_comesTown (hM : rn_sh M) (hN : rn_gi M 467 = N) (n1 : 0 ≤ N 1 ∧ N 1 ≤ 9) {x y w h k0 : Int} (k : ∀ M', rn_ch rn_P67 M M' → rn_gi M' 467 = rn_at5 N x y w h k0 → Q (some (rn_I (N 1))) M') : rn_ME 139 [rn_R 466, rn_I x, rn_I y, rn_I w, rn_I h, rn_I k0] M Q := by
  have e : rn_gi (rn_si (rn_si (rn_si (rn_si (rn_si M 467 (472 + 5 * N 1).toNat x) 467 (472 + 5 * N 1 + 1).toNat y) 467 (472 + 5 * N 1 + 2).toNat w) 467 (472 + 5 * N 1 + 3).toNat h) 467 (472 + 5 * N 1 + 4).toNat k0) 467 1 = N 1 := by
    rw [rn_si_ne (by omega), rn_si_ne (by omega), rn_si_ne (by omega), rn_si_ne (by omega), rn_si_ne (by omega), hN]
  refine re_Mo_comesTown (rb_Mo_comesTown_0 hM ?_ ?_) <;> rw [hN, e]
  · omega
  · rw [show N 1 + 1 - 1 = N 1 by omega]
    refine k _ (rn_ch_tr (rn_ch_tr (rn_ch_tr (rn_ch_tr (rn_ch_tr (rn_ch_si rfl) (rn_ch_si rfl)) (rn_ch_si rfl)) (rn_ch_si rfl)) (rn_ch_si rfl)) (rn_ch_si rfl)) ?_
    rw [rn_si_up, rn_si_up, rn_si_up, rn_si_up, rn_si_up, rn_si_up, hN]
    rfl
end CMS
