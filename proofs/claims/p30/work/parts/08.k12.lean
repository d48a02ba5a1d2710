theorem rn_k215_3q0 : (rn_t215_3.take 18).all (rn_che rn_m215) = true := by decide +kernel
theorem rn_k215_3q1 : ((rn_t215_3.drop 18).take 18).all (rn_che rn_m215) = true := by decide +kernel
theorem rn_k215_3q2 : ((rn_t215_3.drop 36).take 18).all (rn_che rn_m215) = true := by decide +kernel
theorem rn_k215_3q3 : (rn_t215_3.drop 54).all (rn_che rn_m215) = true := by decide +kernel
theorem rn_k215_3 : rn_t215_3.all (rn_che rn_m215) = true := rn_all4 rn_k215_3q0 rn_k215_3q1 rn_k215_3q2 rn_k215_3q3
