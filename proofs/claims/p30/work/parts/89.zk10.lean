theorem rn_k215_1h0 : (rn_t215_1.take 35).all (rn_che rn_m215) = true := by decide +kernel
theorem rn_k215_1h1 : (rn_t215_1.drop 35).all (rn_che rn_m215) = true := by decide +kernel
theorem rn_k215_1 : rn_t215_1.all (rn_che rn_m215) = true := by
  rw [← List.take_append_drop 35 rn_t215_1, List.all_append, rn_k215_1h0, rn_k215_1h1]
  rfl
