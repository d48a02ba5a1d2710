theorem rn_k215_0 : rn_t215_0.all (rn_che rn_m215) = true := by decide +kernel
theorem rn_k215_1 : rn_t215_1.all (rn_che rn_m215) = true := by decide +kernel
theorem rn_k215_2 : rn_t215_2.all (rn_che rn_m215) = true := by decide +kernel
theorem rn_k215_3 : rn_t215_3.all (rn_che rn_m215) = true := by decide +kernel
theorem rn_k215_4 : rn_t215_4.all (rn_che rn_m215) = true := by decide +kernel
theorem rn_k215_5 : rn_t215_5.all (rn_che rn_m215) = true := by decide +kernel
theorem rn_k215_6 : rn_t215_6.all (rn_che rn_m215) = true := by decide +kernel
theorem rn_k215_7 : rn_t215_7.all (rn_che rn_m215) = true := by decide +kernel
theorem rn_k215_8 : rn_t215_8.all (rn_che rn_m215) = true := by decide +kernel
theorem rn_k215_9 : rn_t215_9.all (rn_che rn_m215) = true := by decide +kernel
theorem rn_k215 : rn_chm rn_m215 = true := by
  show rn_t215.all (rn_che rn_m215) = true
  unfold rn_t215
  simp only [List.all_append, rn_k215_0, rn_k215_1, rn_k215_2, rn_k215_3, rn_k215_4, rn_k215_5, rn_k215_6, rn_k215_7, rn_k215_8, rn_k215_9, Bool.and_self]
