theorem rn_k215_2h0 : (rn_t215_2.take 35).all (rn_che rn_m215) = true := by decide +kernel
theorem rn_k215_2h1 : (rn_t215_2.drop 35).all (rn_che rn_m215) = true := by decide +kernel
theorem rn_k215_2 : rn_t215_2.all (rn_che rn_m215) = true := by
  rw [← List.take_append_drop 35 rn_t215_2, List.all_append, rn_k215_2h0, rn_k215_2h1]
  rfl
