theorem rn_k215_2q0 : (rn_t215_2.take 18).all (rn_che rn_m215) = true := by decide +kernel
theorem rn_k215_2q1 : ((rn_t215_2.drop 18).take 18).all (rn_che rn_m215) = true := by decide +kernel
theorem rn_k215_2q2 : ((rn_t215_2.drop 36).take 18).all (rn_che rn_m215) = true := by decide +kernel
theorem rn_k215_2q3 : (rn_t215_2.drop 54).all (rn_che rn_m215) = true := by decide +kernel
theorem rn_k215_2 : rn_t215_2.all (rn_che rn_m215) = true := rn_all4 rn_k215_2q0 rn_k215_2q1 rn_k215_2q2 rn_k215_2q3
