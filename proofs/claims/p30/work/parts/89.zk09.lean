theorem rn_k215_0h0 : (rn_t215_0.take 35).all (rn_che rn_m215) = true := by decide +kernel
theorem rn_k215_0h1 : (rn_t215_0.drop 35).all (rn_che rn_m215) = true := by decide +kernel
theorem rn_k215_0 : rn_t215_0.all (rn_che rn_m215) = true := by
  rw [← List.take_append_drop 35 rn_t215_0, List.all_append, rn_k215_0h0, rn_k215_0h1]
  rfl
