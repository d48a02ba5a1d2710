theorem rn_k72 : rn_chm rn_m72 = true := by decide +kernel
theorem rn_k73 : rn_chm rn_m73 = true := by decide +kernel
theorem rn_k74 : rn_chm rn_m74 = true := by decide +kernel
theorem rn_k75 : rn_chm rn_m75 = true := by decide +kernel
theorem rn_k76 : rn_chm rn_m76 = true := by decide +kernel
theorem rn_k77 : rn_chm rn_m77 = true := by decide +kernel
theorem rn_k78 : rn_chm rn_m78 = true := by decide +kernel
theorem rn_k79 : rn_chm rn_m79 = true := by decide +kernel
theorem rn_k80 : rn_chm rn_m80 = true := by decide +kernel
theorem rn_k81 : rn_chm rn_m81 = true := by decide +kernel
theorem rn_k82 : rn_chm rn_m82 = true := by decide +kernel
theorem rn_k83 : rn_chm rn_m83 = true := by decide +kernel
theorem rn_k84 : rn_chm rn_m84 = true := rfl
theorem rn_k85 : rn_chm rn_m85 = true := rfl
theorem rn_k86 : rn_chm rn_m86 = true := by decide +kernel
theorem rn_k87 : rn_chm rn_m87 = true := by decide +kernel
theorem rn_k88 : rn_chm rn_m88 = true := by decide +kernel
theorem rn_k89 : rn_chm rn_m89 = true := by decide +kernel
theorem rn_k90 : rn_chm rn_m90 = true := by decide +kernel
theorem rn_k91 : rn_chm rn_m91 = true := by decide +kernel
theorem rn_k92 : rn_chm rn_m92 = true := rfl
theorem rn_k93 : rn_chm rn_m93 = true := rfl
theorem rn_k94 : rn_chm rn_m94 = true := by decide +kernel
theorem rn_k95 : rn_chm rn_m95 = true := by decide +kernel
theorem rn_k96 : rn_chm rn_m96 = true := by decide +kernel
