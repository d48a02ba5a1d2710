theorem rn_k215_1q0 : (rn_t215_1.take 18).all (rn_che rn_m215) = true := by decide +kernel
theorem rn_k215_1q1 : ((rn_t215_1.drop 18).take 18).all (rn_che rn_m215) = true := by decide +kernel
theorem rn_k215_1q2 : ((rn_t215_1.drop 36).take 18).all (rn_che rn_m215) = true := by decide +kernel
theorem rn_k215_1q3 : (rn_t215_1.drop 54).all (rn_che rn_m215) = true := by decide +kernel
theorem rn_k215_1 : rn_t215_1.all (rn_che rn_m215) = true := rn_all4 rn_k215_1q0 rn_k215_1q1 rn_k215_1q2 rn_k215_1q3
