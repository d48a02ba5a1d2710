theorem rn_k116 : rn_chm rn_m116 = true := by decide +kernel
theorem rn_k117 : rn_chm rn_m117 = true := by decide +kernel
theorem rn_k118 : rn_chm rn_m118 = true := by decide +kernel
theorem rn_k119 : rn_chm rn_m119 = true := by decide +kernel
theorem rn_k120 : rn_chm rn_m120 = true := by decide +kernel
theorem rn_k121 : rn_chm rn_m121 = true := by decide +kernel
theorem rn_k122 : rn_chm rn_m122 = true := by decide +kernel
theorem rn_k123 : rn_chm rn_m123 = true := by decide +kernel
theorem rn_k124 : rn_chm rn_m124 = true := by decide +kernel
theorem rn_k125 : rn_chm rn_m125 = true := by decide +kernel
theorem rn_k126_0q0 : (rn_t126_0.take 18).all (rn_che rn_m126) = true := by decide +kernel
theorem rn_k126_0q1 : ((rn_t126_0.drop 18).take 18).all (rn_che rn_m126) = true := by decide +kernel
theorem rn_k126_0q2 : ((rn_t126_0.drop 36).take 18).all (rn_che rn_m126) = true := by decide +kernel
theorem rn_k126_0q3 : (rn_t126_0.drop 54).all (rn_che rn_m126) = true := by decide +kernel
theorem rn_k126_0 : rn_t126_0.all (rn_che rn_m126) = true := rn_all4 rn_k126_0q0 rn_k126_0q1 rn_k126_0q2 rn_k126_0q3
theorem rn_k126_1q0 : (rn_t126_1.take 18).all (rn_che rn_m126) = true := by decide +kernel
theorem rn_k126_1q1 : ((rn_t126_1.drop 18).take 18).all (rn_che rn_m126) = true := by decide +kernel
theorem rn_k126_1q2 : ((rn_t126_1.drop 36).take 18).all (rn_che rn_m126) = true := by decide +kernel
theorem rn_k126_1q3 : (rn_t126_1.drop 54).all (rn_che rn_m126) = true := by decide +kernel
theorem rn_k126_1 : rn_t126_1.all (rn_che rn_m126) = true := rn_all4 rn_k126_1q0 rn_k126_1q1 rn_k126_1q2 rn_k126_1q3
theorem rn_k126 : rn_chm rn_m126 = true := by
  show rn_t126.all (rn_che rn_m126) = true
  unfold rn_t126
  simp only [List.all_append, rn_k126_0, rn_k126_1, Bool.and_self]
theorem rn_k127_0q0 : (rn_t127_0.take 18).all (rn_che rn_m127) = true := by decide +kernel
theorem rn_k127_0q1 : ((rn_t127_0.drop 18).take 18).all (rn_che rn_m127) = true := by decide +kernel
theorem rn_k127_0q2 : ((rn_t127_0.drop 36).take 18).all (rn_che rn_m127) = true := by decide +kernel
theorem rn_k127_0q3 : (rn_t127_0.drop 54).all (rn_che rn_m127) = true := by decide +kernel
theorem rn_k127_0 : rn_t127_0.all (rn_che rn_m127) = true := rn_all4 rn_k127_0q0 rn_k127_0q1 rn_k127_0q2 rn_k127_0q3
theorem rn_k127_1q0 : (rn_t127_1.take 18).all (rn_che rn_m127) = true := by decide +kernel
theorem rn_k127_1q1 : ((rn_t127_1.drop 18).take 18).all (rn_che rn_m127) = true := by decide +kernel
theorem rn_k127_1q2 : ((rn_t127_1.drop 36).take 18).all (rn_che rn_m127) = true := by decide +kernel
theorem rn_k127_1q3 : (rn_t127_1.drop 54).all (rn_che rn_m127) = true := by decide +kernel
theorem rn_k127_1 : rn_t127_1.all (rn_che rn_m127) = true := rn_all4 rn_k127_1q0 rn_k127_1q1 rn_k127_1q2 rn_k127_1q3
theorem rn_k127_2q0 : (rn_t127_2.take 18).all (rn_che rn_m127) = true := by decide +kernel
theorem rn_k127_2q1 : ((rn_t127_2.drop 18).take 18).all (rn_che rn_m127) = true := by decide +kernel
theorem rn_k127_2q2 : ((rn_t127_2.drop 36).take 18).all (rn_che rn_m127) = true := by decide +kernel
theorem rn_k127_2q3 : (rn_t127_2.drop 54).all (rn_che rn_m127) = true := by decide +kernel
theorem rn_k127_2 : rn_t127_2.all (rn_che rn_m127) = true := rn_all4 rn_k127_2q0 rn_k127_2q1 rn_k127_2q2 rn_k127_2q3
theorem rn_k127_3q0 : (rn_t127_3.take 18).all (rn_che rn_m127) = true := by decide +kernel
theorem rn_k127_3q1 : ((rn_t127_3.drop 18).take 18).all (rn_che rn_m127) = true := by decide +kernel
theorem rn_k127_3q2 : ((rn_t127_3.drop 36).take 18).all (rn_che rn_m127) = true := by decide +kernel
theorem rn_k127_3q3 : (rn_t127_3.drop 54).all (rn_che rn_m127) = true := by decide +kernel
theorem rn_k127_3 : rn_t127_3.all (rn_che rn_m127) = true := rn_all4 rn_k127_3q0 rn_k127_3q1 rn_k127_3q2 rn_k127_3q3
