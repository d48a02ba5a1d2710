theorem rn_k127 : rn_chm rn_m127 = true := by
  show rn_t127.all (rn_che rn_m127) = true
  unfold rn_t127
  simp only [List.all_append, rn_k127_0, rn_k127_1, rn_k127_2, rn_k127_3, Bool.and_self]
theorem rn_k128_0q0 : (rn_t128_0.take 18).all (rn_che rn_m128) = true := by decide +kernel
theorem rn_k128_0q1 : ((rn_t128_0.drop 18).take 18).all (rn_che rn_m128) = true := by decide +kernel
theorem rn_k128_0q2 : ((rn_t128_0.drop 36).take 18).all (rn_che rn_m128) = true := by decide +kernel
theorem rn_k128_0q3 : (rn_t128_0.drop 54).all (rn_che rn_m128) = true := by decide +kernel
theorem rn_k128_0 : rn_t128_0.all (rn_che rn_m128) = true := rn_all4 rn_k128_0q0 rn_k128_0q1 rn_k128_0q2 rn_k128_0q3
theorem rn_k128_1q0 : (rn_t128_1.take 18).all (rn_che rn_m128) = true := by decide +kernel
theorem rn_k128_1q1 : ((rn_t128_1.drop 18).take 18).all (rn_che rn_m128) = true := by decide +kernel
theorem rn_k128_1q2 : ((rn_t128_1.drop 36).take 18).all (rn_che rn_m128) = true := by decide +kernel
theorem rn_k128_1q3 : (rn_t128_1.drop 54).all (rn_che rn_m128) = true := by decide +kernel
theorem rn_k128_1 : rn_t128_1.all (rn_che rn_m128) = true := rn_all4 rn_k128_1q0 rn_k128_1q1 rn_k128_1q2 rn_k128_1q3
theorem rn_k128_2q0 : (rn_t128_2.take 18).all (rn_che rn_m128) = true := by decide +kernel
theorem rn_k128_2q1 : ((rn_t128_2.drop 18).take 18).all (rn_che rn_m128) = true := by decide +kernel
theorem rn_k128_2q2 : ((rn_t128_2.drop 36).take 18).all (rn_che rn_m128) = true := by decide +kernel
theorem rn_k128_2q3 : (rn_t128_2.drop 54).all (rn_che rn_m128) = true := by decide +kernel
theorem rn_k128_2 : rn_t128_2.all (rn_che rn_m128) = true := rn_all4 rn_k128_2q0 rn_k128_2q1 rn_k128_2q2 rn_k128_2q3
theorem rn_k128_3q0 : (rn_t128_3.take 18).all (rn_che rn_m128) = true := by decide +kernel
theorem rn_k128_3q1 : ((rn_t128_3.drop 18).take 18).all (rn_che rn_m128) = true := by decide +kernel
theorem rn_k128_3q2 : ((rn_t128_3.drop 36).take 18).all (rn_che rn_m128) = true := by decide +kernel
theorem rn_k128_3q3 : (rn_t128_3.drop 54).all (rn_che rn_m128) = true := by decide +kernel
theorem rn_k128_3 : rn_t128_3.all (rn_che rn_m128) = true := rn_all4 rn_k128_3q0 rn_k128_3q1 rn_k128_3q2 rn_k128_3q3
theorem rn_k128 : rn_chm rn_m128 = true := by
  show rn_t128.all (rn_che rn_m128) = true
  unfold rn_t128
  simp only [List.all_append, rn_k128_0, rn_k128_1, rn_k128_2, rn_k128_3, Bool.and_self]
theorem rn_k129_0q0 : (rn_t129_0.take 18).all (rn_che rn_m129) = true := by decide +kernel
theorem rn_k129_0q1 : ((rn_t129_0.drop 18).take 18).all (rn_che rn_m129) = true := by decide +kernel
theorem rn_k129_0q2 : ((rn_t129_0.drop 36).take 18).all (rn_che rn_m129) = true := by decide +kernel
theorem rn_k129_0q3 : (rn_t129_0.drop 54).all (rn_che rn_m129) = true := by decide +kernel
theorem rn_k129_0 : rn_t129_0.all (rn_che rn_m129) = true := rn_all4 rn_k129_0q0 rn_k129_0q1 rn_k129_0q2 rn_k129_0q3
theorem rn_k129_1q0 : (rn_t129_1.take 18).all (rn_che rn_m129) = true := by decide +kernel
theorem rn_k129_1q1 : ((rn_t129_1.drop 18).take 18).all (rn_che rn_m129) = true := by decide +kernel
theorem rn_k129_1q2 : ((rn_t129_1.drop 36).take 18).all (rn_che rn_m129) = true := by decide +kernel
theorem rn_k129_1q3 : (rn_t129_1.drop 54).all (rn_che rn_m129) = true := by decide +kernel
theorem rn_k129_1 : rn_t129_1.all (rn_che rn_m129) = true := rn_all4 rn_k129_1q0 rn_k129_1q1 rn_k129_1q2 rn_k129_1q3
theorem rn_k129_2q0 : (rn_t129_2.take 18).all (rn_che rn_m129) = true := by decide +kernel
theorem rn_k129_2q1 : ((rn_t129_2.drop 18).take 18).all (rn_che rn_m129) = true := by decide +kernel
theorem rn_k129_2q2 : ((rn_t129_2.drop 36).take 18).all (rn_che rn_m129) = true := by decide +kernel
theorem rn_k129_2q3 : (rn_t129_2.drop 54).all (rn_che rn_m129) = true := by decide +kernel
theorem rn_k129_2 : rn_t129_2.all (rn_che rn_m129) = true := rn_all4 rn_k129_2q0 rn_k129_2q1 rn_k129_2q2 rn_k129_2q3
theorem rn_k129_3q0 : (rn_t129_3.take 18).all (rn_che rn_m129) = true := by decide +kernel
theorem rn_k129_3q1 : ((rn_t129_3.drop 18).take 18).all (rn_che rn_m129) = true := by decide +kernel
theorem rn_k129_3q2 : ((rn_t129_3.drop 36).take 18).all (rn_che rn_m129) = true := by decide +kernel
theorem rn_k129_3q3 : (rn_t129_3.drop 54).all (rn_che rn_m129) = true := by decide +kernel
theorem rn_k129_3 : rn_t129_3.all (rn_che rn_m129) = true := rn_all4 rn_k129_3q0 rn_k129_3q1 rn_k129_3q2 rn_k129_3q3
