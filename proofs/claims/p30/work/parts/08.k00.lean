theorem rn_all4 {α : Type} {f : α → Bool} {l : List α} (h0 : (l.take 18).all f = true) (h1 : ((l.drop 18).take 18).all f = true) (h2 : ((l.drop 36).take 18).all f = true) (h3 : (l.drop 54).all f = true) : l.all f = true := by
  have e1 : ((l.drop 18).drop 18) = l.drop 36 := by rw [List.drop_drop]
  have e2 : ((l.drop 36).drop 18) = l.drop 54 := by rw [List.drop_drop]
  have a2 : (l.drop 36).all f = true := by rw [← List.take_append_drop 18 (l.drop 36), List.all_append, h2, e2, h3]; rfl
  have a1 : (l.drop 18).all f = true := by rw [← List.take_append_drop 18 (l.drop 18), List.all_append, h1, e1, a2]; rfl
  rw [← List.take_append_drop 18 l, List.all_append, h0, a1]; rfl
theorem rn_k0 : rn_chm rn_m0 = true := by decide +kernel
theorem rn_k1 : rn_chm rn_m1 = true := by decide +kernel
theorem rn_k2 : rn_chm rn_m2 = true := by decide +kernel
theorem rn_k3 : rn_chm rn_m3 = true := by decide +kernel
theorem rn_k4 : rn_chm rn_m4 = true := by decide +kernel
theorem rn_k5 : rn_chm rn_m5 = true := by decide +kernel
theorem rn_k6 : rn_chm rn_m6 = true := by decide +kernel
theorem rn_k7 : rn_chm rn_m7 = true := by decide +kernel
theorem rn_k8 : rn_chm rn_m8 = true := by decide +kernel
theorem rn_k9 : rn_chm rn_m9 = true := by decide +kernel
theorem rn_k10 : rn_chm rn_m10 = true := by decide +kernel
theorem rn_k11 : rn_chm rn_m11 = true := by decide +kernel
theorem rn_k12 : rn_chm rn_m12 = true := by decide +kernel
theorem rn_k13 : rn_chm rn_m13 = true := by decide +kernel
theorem rn_k14 : rn_chm rn_m14 = true := by decide +kernel
theorem rn_k15 : rn_chm rn_m15 = true := by decide +kernel
theorem rn_k16 : rn_chm rn_m16 = true := by decide +kernel
theorem rn_k17 : rn_chm rn_m17 = true := by decide +kernel
theorem rn_k18 : rn_chm rn_m18 = true := by decide +kernel
