/-! the reference: whyLabel, lengthens, comesLabel -/
section RWS
variable {M : rn_M} {Q : rn_Q} {N : Nat → Int} {r s B : Int}
def rn_P67 (a : Nat) : Prop := a = 467
theorem rm_whyLabel (hM : rn_sh M) (hN : rn_gi M 467 = N) (v : rn_vd N) {l : Int} (l0 : 0 ≤ l) (l1 : l < N 2) (ma : rn_ma M B) (hB : B ≤ 2000000000) (k : ∀ M', rn_ch rn_PQ M M' → (∀ j, j ≠ 8 → rn_gi M' 466 j = rn_gi M 466 j) → rn_ma M' (B + 1) → Q (some (rn_I (rn_why N (rn_lb N l 0) (rn_lb N l 1) (rn_o N (rn_lb N l 0) 1) l))) M') : rn_ME 159 [rn_R 466, rn_I l] M Q := by
  have v0 := v.1
  have v2 := v.2.2.1
  have vl := v.2.2.2.2.2.2 l l0 l1
  have vl1 := vl.1
  have e0 : N (522 + 2 * l).toNat = rn_lb N l 0 := by unfold rn_lb; rw [Int.add_zero]
  have e1 : N (522 + 2 * l + 1).toNat = rn_lb N l 1 := rfl
  refine re_Mo_whyLabel (rb_Mo_whyLabel_0 hM ?_ ?_) <;> rw [hN, e0] <;> (try rw [e1])
  · omega
  · exact rm_why hM hN v vl.1.1 vl.1.2 vl.2.1 ma hB (fun M' c e m => rb_Mo_whyLabel_39 (k M' c e m))
theorem rm_lengthens (hM : rn_sh M) (hN : rn_gi M 467 = N) {d : Int} (r0 : 0 ≤ r) (r1 : r ≤ 5) (l0 : 0 ≤ rn_o N r 5) (l1 : rn_o N r 5 < 60) (k : ∀ M', rn_ch rn_P67 M M' → rn_gi M' 467 = rn_fl N r d → Q none M') : rn_ME 141 [rn_R 466, rn_I r, rn_I d] M Q := by
  have e5 : N (4 + 78 * r + 5).toNat = rn_o N r 5 := rfl
  have e6 : rn_gi (rn_si M 467 (4 + 78 * r + 18 + rn_o N r 5).toNat d) 467 (4 + 78 * r + 5).toNat = rn_o N r 5 := by
    rw [rn_si_ne (by omega), hN]; rfl
  refine re_Mo_lengthens (rb_Mo_lengthens_0 hM ?_ ?_) <;> rw [hN, e5, e6]
  · omega
  · refine k _ (rn_ch_tr (rn_ch_si rfl) (rn_ch_si rfl)) ?_
    rw [rn_si_up, rn_si_up, hN]
    rfl
theorem rm_comesLabel (hM : rn_sh M) (hN : rn_gi M 467 = N) (n0 : 0 ≤ N 2 ∧ N 2 ≤ 19) (k : ∀ M', rn_ch rn_P67 M M' → rn_gi M' 467 = rn_nl N r s → Q (some (rn_I (N 2))) M') : rn_ME 162 [rn_R 466, rn_I r, rn_I s] M Q := by
  have e2 : rn_gi (rn_si M 467 (522 + 2 * N 2).toNat r) 467 2 = N 2 := by rw [rn_si_ne (by omega), hN]
  have e3 : rn_gi (rn_si (rn_si M 467 (522 + 2 * N 2).toNat r) 467 (522 + 2 * N 2 + 1).toNat s) 467 2 = N 2 := by rw [rn_si_ne (by omega)]; exact e2
  refine re_Mo_comesLabel (rb_Mo_comesLabel_0 hM ?_ ?_) <;> rw [hN, e2, e3]
  · omega
  · rw [show N 2 + 1 - 1 = N 2 by omega]
    refine k _ (rn_ch_tr (rn_ch_tr (rn_ch_si rfl) (rn_ch_si rfl)) (rn_ch_si rfl)) ?_
    rw [rn_si_up, rn_si_up, rn_si_up, hN]
    unfold rn_nl
    rw [show (522 + 2 * N 2 + 1).toNat = (523 + 2 * N 2).toNat by omega]
end RWS
