theorem rn_k127 : rn_chm rn_m127 = true := by
  show rn_t127.all (rn_che rn_m127) = true
  unfold rn_t127
  simp only [List.all_append, rn_k127_0, rn_k127_1, rn_k127_2, rn_k127_3, Bool.and_self]
theorem rn_k128_0 : rn_t128_0.all (rn_che rn_m128) = true := by decide +kernel
theorem rn_k128_1 : rn_t128_1.all (rn_che rn_m128) = true := by decide +kernel
theorem rn_k128_2 : rn_t128_2.all (rn_che rn_m128) = true := by decide +kernel
theorem rn_k128_3 : rn_t128_3.all (rn_che rn_m128) = true := by decide +kernel
theorem rn_k128 : rn_chm rn_m128 = true := by
  show rn_t128.all (rn_che rn_m128) = true
  unfold rn_t128
  simp only [List.all_append, rn_k128_0, rn_k128_1, rn_k128_2, rn_k128_3, Bool.and_self]
theorem rn_k129_0 : rn_t129_0.all (rn_che rn_m129) = true := by decide +kernel
theorem rn_k129_1 : rn_t129_1.all (rn_che rn_m129) = true := by decide +kernel
theorem rn_k129_2 : rn_t129_2.all (rn_che rn_m129) = true := by decide +kernel
theorem rn_k129_3 : rn_t129_3.all (rn_che rn_m129) = true := by decide +kernel
