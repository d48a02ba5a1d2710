theorem rn_k129_4q0 : (rn_t129_4.take 18).all (rn_che rn_m129) = true := by decide +kernel
theorem rn_k129_4q1 : ((rn_t129_4.drop 18).take 18).all (rn_che rn_m129) = true := by decide +kernel
theorem rn_k129_4q2 : ((rn_t129_4.drop 36).take 18).all (rn_che rn_m129) = true := by decide +kernel
theorem rn_k129_4q3 : (rn_t129_4.drop 54).all (rn_che rn_m129) = true := by decide +kernel
theorem rn_k129_4 : rn_t129_4.all (rn_che rn_m129) = true := rn_all4 rn_k129_4q0 rn_k129_4q1 rn_k129_4q2 rn_k129_4q3
theorem rn_k129 : rn_chm rn_m129 = true := by
  show rn_t129.all (rn_che rn_m129) = true
  unfold rn_t129
  simp only [List.all_append, rn_k129_0, rn_k129_1, rn_k129_2, rn_k129_3, rn_k129_4, Bool.and_self]
theorem rn_k130_0q0 : (rn_t130_0.take 18).all (rn_che rn_m130) = true := by decide +kernel
theorem rn_k130_0q1 : ((rn_t130_0.drop 18).take 18).all (rn_che rn_m130) = true := by decide +kernel
theorem rn_k130_0q2 : ((rn_t130_0.drop 36).take 18).all (rn_che rn_m130) = true := by decide +kernel
theorem rn_k130_0q3 : (rn_t130_0.drop 54).all (rn_che rn_m130) = true := by decide +kernel
theorem rn_k130_0 : rn_t130_0.all (rn_che rn_m130) = true := rn_all4 rn_k130_0q0 rn_k130_0q1 rn_k130_0q2 rn_k130_0q3
theorem rn_k130_1q0 : (rn_t130_1.take 18).all (rn_che rn_m130) = true := by decide +kernel
theorem rn_k130_1q1 : ((rn_t130_1.drop 18).take 18).all (rn_che rn_m130) = true := by decide +kernel
theorem rn_k130_1q2 : ((rn_t130_1.drop 36).take 18).all (rn_che rn_m130) = true := by decide +kernel
theorem rn_k130_1q3 : (rn_t130_1.drop 54).all (rn_che rn_m130) = true := by decide +kernel
theorem rn_k130_1 : rn_t130_1.all (rn_che rn_m130) = true := rn_all4 rn_k130_1q0 rn_k130_1q1 rn_k130_1q2 rn_k130_1q3
theorem rn_k130_2q0 : (rn_t130_2.take 18).all (rn_che rn_m130) = true := by decide +kernel
theorem rn_k130_2q1 : ((rn_t130_2.drop 18).take 18).all (rn_che rn_m130) = true := by decide +kernel
theorem rn_k130_2q2 : ((rn_t130_2.drop 36).take 18).all (rn_che rn_m130) = true := by decide +kernel
theorem rn_k130_2q3 : (rn_t130_2.drop 54).all (rn_che rn_m130) = true := by decide +kernel
theorem rn_k130_2 : rn_t130_2.all (rn_che rn_m130) = true := rn_all4 rn_k130_2q0 rn_k130_2q1 rn_k130_2q2 rn_k130_2q3
theorem rn_k130_3q0 : (rn_t130_3.take 18).all (rn_che rn_m130) = true := by decide +kernel
theorem rn_k130_3q1 : ((rn_t130_3.drop 18).take 18).all (rn_che rn_m130) = true := by decide +kernel
theorem rn_k130_3q2 : ((rn_t130_3.drop 36).take 18).all (rn_che rn_m130) = true := by decide +kernel
theorem rn_k130_3q3 : (rn_t130_3.drop 54).all (rn_che rn_m130) = true := by decide +kernel
theorem rn_k130_3 : rn_t130_3.all (rn_che rn_m130) = true := rn_all4 rn_k130_3q0 rn_k130_3q1 rn_k130_3q2 rn_k130_3q3
theorem rn_k130_4q0 : (rn_t130_4.take 18).all (rn_che rn_m130) = true := by decide +kernel
theorem rn_k130_4q1 : ((rn_t130_4.drop 18).take 18).all (rn_che rn_m130) = true := by decide +kernel
theorem rn_k130_4q2 : ((rn_t130_4.drop 36).take 18).all (rn_che rn_m130) = true := by decide +kernel
theorem rn_k130_4q3 : (rn_t130_4.drop 54).all (rn_che rn_m130) = true := by decide +kernel
theorem rn_k130_4 : rn_t130_4.all (rn_che rn_m130) = true := rn_all4 rn_k130_4q0 rn_k130_4q1 rn_k130_4q2 rn_k130_4q3
theorem rn_k130 : rn_chm rn_m130 = true := by
  show rn_t130.all (rn_che rn_m130) = true
  unfold rn_t130
  simp only [List.all_append, rn_k130_0, rn_k130_1, rn_k130_2, rn_k130_3, rn_k130_4, Bool.and_self]
theorem rn_k131_0q0 : (rn_t131_0.take 18).all (rn_che rn_m131) = true := by decide +kernel
theorem rn_k131_0q1 : ((rn_t131_0.drop 18).take 18).all (rn_che rn_m131) = true := by decide +kernel
theorem rn_k131_0q2 : ((rn_t131_0.drop 36).take 18).all (rn_che rn_m131) = true := by decide +kernel
theorem rn_k131_0q3 : (rn_t131_0.drop 54).all (rn_che rn_m131) = true := by decide +kernel
theorem rn_k131_0 : rn_t131_0.all (rn_che rn_m131) = true := rn_all4 rn_k131_0q0 rn_k131_0q1 rn_k131_0q2 rn_k131_0q3
theorem rn_k131_1q0 : (rn_t131_1.take 18).all (rn_che rn_m131) = true := by decide +kernel
theorem rn_k131_1q1 : ((rn_t131_1.drop 18).take 18).all (rn_che rn_m131) = true := by decide +kernel
theorem rn_k131_1q2 : ((rn_t131_1.drop 36).take 18).all (rn_che rn_m131) = true := by decide +kernel
theorem rn_k131_1q3 : (rn_t131_1.drop 54).all (rn_che rn_m131) = true := by decide +kernel
theorem rn_k131_1 : rn_t131_1.all (rn_che rn_m131) = true := rn_all4 rn_k131_1q0 rn_k131_1q1 rn_k131_1q2 rn_k131_1q3
