theorem rn_k129_4 : rn_t129_4.all (rn_che rn_m129) = true := by decide +kernel
theorem rn_k129 : rn_chm rn_m129 = true := by
  show rn_t129.all (rn_che rn_m129) = true
  unfold rn_t129
  simp only [List.all_append, rn_k129_0, rn_k129_1, rn_k129_2, rn_k129_3, rn_k129_4, Bool.and_self]
theorem rn_k130_0 : rn_t130_0.all (rn_che rn_m130) = true := by decide +kernel
theorem rn_k130_1 : rn_t130_1.all (rn_che rn_m130) = true := by decide +kernel
theorem rn_k130_2 : rn_t130_2.all (rn_che rn_m130) = true := by decide +kernel
theorem rn_k130_3 : rn_t130_3.all (rn_che rn_m130) = true := by decide +kernel
theorem rn_k130_4 : rn_t130_4.all (rn_che rn_m130) = true := by decide +kernel
theorem rn_k130 : rn_chm rn_m130 = true := by
  show rn_t130.all (rn_che rn_m130) = true
  unfold rn_t130
  simp only [List.all_append, rn_k130_0, rn_k130_1, rn_k130_2, rn_k130_3, rn_k130_4, Bool.and_self]
theorem rn_k131_0 : rn_t131_0.all (rn_che rn_m131) = true := by decide +kernel
theorem rn_k131_1 : rn_t131_1.all (rn_che rn_m131) = true := by decide +kernel
