theorem rn_k215 : rn_chm rn_m215 = true := by
  show rn_t215.all (rn_che rn_m215) = true
  unfold rn_t215
  simp only [List.all_append, rn_k215_0, rn_k215_1, rn_k215_2, rn_k215_3, Bool.and_self]
