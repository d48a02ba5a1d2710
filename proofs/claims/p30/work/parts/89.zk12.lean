theorem rn_k215_3h0 : (rn_t215_3.take 35).all (rn_che rn_m215) = true := by decide +kernel
theorem rn_k215_3h1 : (rn_t215_3.drop 35).all (rn_che rn_m215) = true := by decide +kernel
theorem rn_k215_3 : rn_t215_3.all (rn_che rn_m215) = true := by
  rw [← List.take_append_drop 35 rn_t215_3, List.all_append, rn_k215_3h0, rn_k215_3h1]
  rfl
