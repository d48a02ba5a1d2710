theorem rn_k215_0q0 : (rn_t215_0.take 18).all (rn_che rn_m215) = true := by decide +kernel
theorem rn_k215_0q1 : ((rn_t215_0.drop 18).take 18).all (rn_che rn_m215) = true := by decide +kernel
theorem rn_k215_0q2 : ((rn_t215_0.drop 36).take 18).all (rn_che rn_m215) = true := by decide +kernel
theorem rn_k215_0q3 : (rn_t215_0.drop 54).all (rn_che rn_m215) = true := by decide +kernel
theorem rn_k215_0 : rn_t215_0.all (rn_che rn_m215) = true := rn_all4 rn_k215_0q0 rn_k215_0q1 rn_k215_0q2 rn_k215_0q3
