theorem rn_k36 : rn_chm rn_m36 = true := by decide +kernel
theorem rn_k37 : rn_chm rn_m37 = true := by decide +kernel
theorem rn_k38 : rn_chm rn_m38 = true := by decide +kernel
theorem rn_k39 : rn_chm rn_m39 = true := by decide +kernel
theorem rn_k40 : rn_chm rn_m40 = true := by decide +kernel
theorem rn_k41 : rn_chm rn_m41 = true := by decide +kernel
theorem rn_k42 : rn_chm rn_m42 = true := by decide +kernel
theorem rn_k43 : rn_chm rn_m43 = true := by decide +kernel
theorem rn_k44 : rn_chm rn_m44 = true := by decide +kernel
theorem rn_k45 : rn_chm rn_m45 = true := by decide +kernel
theorem rn_k46 : rn_chm rn_m46 = true := rfl
theorem rn_k47 : rn_chm rn_m47 = true := rfl
theorem rn_k48 : rn_chm rn_m48 = true := rfl
theorem rn_k49 : rn_chm rn_m49 = true := rfl
theorem rn_k50 : rn_chm rn_m50 = true := rfl
theorem rn_k51 : rn_chm rn_m51 = true := rfl
theorem rn_k52 : rn_chm rn_m52 = true := rfl
theorem rn_k53 : rn_chm rn_m53 = true := rfl
theorem rn_k54 : rn_chm rn_m54 = true := rfl
theorem rn_k55 : rn_chm rn_m55 = true := rfl
theorem rn_k56 : rn_chm rn_m56 = true := rfl
theorem rn_k57 : rn_chm rn_m57 = true := by decide +kernel
theorem rn_k58 : rn_chm rn_m58 = true := by decide +kernel
theorem rn_k59 : rn_chm rn_m59 = true := by decide +kernel
theorem rn_k60 : rn_chm rn_m60 = true := by decide +kernel
theorem rn_k61 : rn_chm rn_m61 = true := by decide +kernel
theorem rn_k62 : rn_chm rn_m62 = true := by decide +kernel
theorem rn_k63 : rn_chm rn_m63 = true := by decide +kernel
theorem rn_k64 : rn_chm rn_m64 = true := by decide +kernel
theorem rn_k65 : rn_chm rn_m65 = true := by decide +kernel
theorem rn_k66 : rn_chm rn_m66 = true := by decide +kernel
theorem rn_k67 : rn_chm rn_m67 = true := by decide +kernel
theorem rn_k68 : rn_chm rn_m68 = true := by decide +kernel
theorem rn_k69 : rn_chm rn_m69 = true := by decide +kernel
theorem rn_k70 : rn_chm rn_m70 = true := by decide +kernel
theorem rn_k71 : rn_chm rn_m71 = true := by decide +kernel
