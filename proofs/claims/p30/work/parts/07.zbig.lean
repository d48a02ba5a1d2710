theorem rn_big_at {z : Nat} (h : rn_big z = true) : z = 123 ∨ z = 124 ∨ z = 125 ∨ z = 126 ∨ z = 127 ∨ z = 128 ∨ z = 129 ∨ z = 130 ∨ z = 131 ∨ z = 132 := by
  unfold rn_big at h
  rw [Bool.and_eq_true] at h
  have h1 := Nat.le_of_ble_eq_true h.1
  have h2 := Nat.le_of_ble_eq_true h.2
  omega
set_option maxRecDepth 100000 in
theorem rn_big_123 : Cond.code yL_cell cL_cell 3 (some .int) ∈ rn_Wd := rn_Wd_mem (t := 415) rfl rfl
set_option maxRecDepth 100000 in
theorem rn_big_124 : Cond.code yL_low cL_low 2 (some .int) ∈ rn_Wd := rn_Wd_mem (t := 419) rfl rfl
set_option maxRecDepth 100000 in
theorem rn_big_125 : Cond.code yL_size cL_size 1 (some .int) ∈ rn_Wd := rn_Wd_mem (t := 731) rfl rfl
set_option maxRecDepth 100000 in
theorem rn_big_126 : Cond.code yL_print cL_print 5 (some .long) ∈ rn_Wd := rn_Wd_mem (t := 423) rfl rfl
set_option maxRecDepth 100000 in
theorem rn_big_127 : Cond.code yL_refused cL_refused 8 (some .boolean) ∈ rn_Wd := rn_Wd_mem (t := 499) rfl rfl
set_option maxRecDepth 100000 in
theorem rn_big_128 : Cond.code yL_areCells cL_areCells 8 (some .boolean) ∈ rn_Wd := rn_Wd_mem (t := 725) rfl rfl
set_option maxRecDepth 100000 in
theorem rn_big_129 : Cond.code yL_areStarts cL_areStarts 13 (some .boolean) ∈ rn_Wd := rn_Wd_mem (t := 728) rfl rfl
set_option maxRecDepth 100000 in
theorem rn_big_130 : Cond.code yL_areLabels cL_areLabels 17 (some .boolean) ∈ rn_Wd := rn_Wd_mem (t := 734) rfl rfl
set_option maxRecDepth 100000 in
theorem rn_big_131 : Cond.code yL_areTidied cL_areTidied 12 (some .boolean) ∈ rn_Wd := rn_Wd_mem (t := 737) rfl rfl
set_option maxRecDepth 100000 in
theorem rn_big_132 : Cond.code yL_acts cL_acts 5 (some .int) ∈ rn_Wd := rn_Wd_mem (t := 749) rfl rfl
theorem rn_big_in {z : Nat} {mz : rn_Mt} (h : rn_mt z = some mz) (hb : rn_big z = true) : Cond.code mz.1 mz.2.1 mz.2.2.1 mz.2.2.2.1 ∈ rn_Wd := by
  rcases rn_big_at hb with e | e | e | e | e | e | e | e | e | e <;> subst e
  · obtain rfl : rn_m123 = mz := Option.some.inj h
    exact rn_big_123
  · obtain rfl : rn_m124 = mz := Option.some.inj h
    exact rn_big_124
  · obtain rfl : rn_m125 = mz := Option.some.inj h
    exact rn_big_125
  · obtain rfl : rn_m126 = mz := Option.some.inj h
    exact rn_big_126
  · obtain rfl : rn_m127 = mz := Option.some.inj h
    exact rn_big_127
  · obtain rfl : rn_m128 = mz := Option.some.inj h
    exact rn_big_128
  · obtain rfl : rn_m129 = mz := Option.some.inj h
    exact rn_big_129
  · obtain rfl : rn_m130 = mz := Option.some.inj h
    exact rn_big_130
  · obtain rfl : rn_m131 = mz := Option.some.inj h
    exact rn_big_131
  · obtain rfl : rn_m132 = mz := Option.some.inj h
    exact rn_big_132
