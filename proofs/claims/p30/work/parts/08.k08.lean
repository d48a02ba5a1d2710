theorem rn_k131_2q0 : (rn_t131_2.take 18).all (rn_che rn_m131) = true := by decide +kernel
theorem rn_k131_2q1 : ((rn_t131_2.drop 18).take 18).all (rn_che rn_m131) = true := by decide +kernel
theorem rn_k131_2q2 : ((rn_t131_2.drop 36).take 18).all (rn_che rn_m131) = true := by decide +kernel
theorem rn_k131_2q3 : (rn_t131_2.drop 54).all (rn_che rn_m131) = true := by decide +kernel
theorem rn_k131_2 : rn_t131_2.all (rn_che rn_m131) = true := rn_all4 rn_k131_2q0 rn_k131_2q1 rn_k131_2q2 rn_k131_2q3
theorem rn_k131 : rn_chm rn_m131 = true := by
  show rn_t131.all (rn_che rn_m131) = true
  unfold rn_t131
  simp only [List.all_append, rn_k131_0, rn_k131_1, rn_k131_2, Bool.and_self]
theorem rn_k132_0q0 : (rn_t132_0.take 18).all (rn_che rn_m132) = true := by decide +kernel
theorem rn_k132_0q1 : ((rn_t132_0.drop 18).take 18).all (rn_che rn_m132) = true := by decide +kernel
theorem rn_k132_0q2 : ((rn_t132_0.drop 36).take 18).all (rn_che rn_m132) = true := by decide +kernel
theorem rn_k132_0q3 : (rn_t132_0.drop 54).all (rn_che rn_m132) = true := by decide +kernel
theorem rn_k132_0 : rn_t132_0.all (rn_che rn_m132) = true := rn_all4 rn_k132_0q0 rn_k132_0q1 rn_k132_0q2 rn_k132_0q3
theorem rn_k132_1q0 : (rn_t132_1.take 18).all (rn_che rn_m132) = true := by decide +kernel
theorem rn_k132_1q1 : ((rn_t132_1.drop 18).take 18).all (rn_che rn_m132) = true := by decide +kernel
theorem rn_k132_1q2 : ((rn_t132_1.drop 36).take 18).all (rn_che rn_m132) = true := by decide +kernel
theorem rn_k132_1q3 : (rn_t132_1.drop 54).all (rn_che rn_m132) = true := by decide +kernel
theorem rn_k132_1 : rn_t132_1.all (rn_che rn_m132) = true := rn_all4 rn_k132_1q0 rn_k132_1q1 rn_k132_1q2 rn_k132_1q3
theorem rn_k132_2q0 : (rn_t132_2.take 18).all (rn_che rn_m132) = true := by decide +kernel
theorem rn_k132_2q1 : ((rn_t132_2.drop 18).take 18).all (rn_che rn_m132) = true := by decide +kernel
theorem rn_k132_2q2 : ((rn_t132_2.drop 36).take 18).all (rn_che rn_m132) = true := by decide +kernel
theorem rn_k132_2q3 : (rn_t132_2.drop 54).all (rn_che rn_m132) = true := by decide +kernel
theorem rn_k132_2 : rn_t132_2.all (rn_che rn_m132) = true := rn_all4 rn_k132_2q0 rn_k132_2q1 rn_k132_2q2 rn_k132_2q3
theorem rn_k132 : rn_chm rn_m132 = true := by
  show rn_t132.all (rn_che rn_m132) = true
  unfold rn_t132
  simp only [List.all_append, rn_k132_0, rn_k132_1, rn_k132_2, Bool.and_self]
theorem rn_k133 : rn_chm rn_m133 = true := rfl
theorem rn_k134 : rn_chm rn_m134 = true := rfl
theorem rn_k135 : rn_chm rn_m135 = true := rfl
theorem rn_k136 : rn_chm rn_m136 = true := rfl
theorem rn_k137 : rn_chm rn_m137 = true := rfl
theorem rn_k138 : rn_chm rn_m138 = true := rfl
theorem rn_k139 : rn_chm rn_m139 = true := rfl
theorem rn_k140 : rn_chm rn_m140 = true := rfl
theorem rn_k141 : rn_chm rn_m141 = true := rfl
theorem rn_k142 : rn_chm rn_m142 = true := rfl
theorem rn_k143 : rn_chm rn_m143 = true := rfl
theorem rn_k144 : rn_chm rn_m144 = true := rfl
theorem rn_k145 : rn_chm rn_m145 = true := rfl
theorem rn_k146 : rn_chm rn_m146 = true := rfl
theorem rn_k147 : rn_chm rn_m147 = true := rfl
theorem rn_k148 : rn_chm rn_m148 = true := rfl
theorem rn_k149 : rn_chm rn_m149 = true := rfl
theorem rn_k150 : rn_chm rn_m150 = true := rfl
theorem rn_k151 : rn_chm rn_m151 = true := rfl
theorem rn_k152 : rn_chm rn_m152 = true := rfl
theorem rn_k153 : rn_chm rn_m153 = true := rfl
theorem rn_k154 : rn_chm rn_m154 = true := rfl
theorem rn_k155 : rn_chm rn_m155 = true := rfl
theorem rn_k156 : rn_chm rn_m156 = true := rfl
theorem rn_k157 : rn_chm rn_m157 = true := rfl
theorem rn_k158 : rn_chm rn_m158 = true := rfl
theorem rn_k159 : rn_chm rn_m159 = true := rfl
theorem rn_k160 : rn_chm rn_m160 = true := rfl
theorem rn_k161 : rn_chm rn_m161 = true := rfl
theorem rn_k162 : rn_chm rn_m162 = true := rfl
theorem rn_k163 : rn_chm rn_m163 = true := rfl
theorem rn_k164 : rn_chm rn_m164 = true := rfl
theorem rn_k165 : rn_chm rn_m165 = true := rfl
theorem rn_k166 : rn_chm rn_m166 = true := rfl
theorem rn_k167 : rn_chm rn_m167 = true := rfl
theorem rn_k168 : rn_chm rn_m168 = true := rfl
theorem rn_k169 : rn_chm rn_m169 = true := rfl
theorem rn_k170 : rn_chm rn_m170 = true := rfl
theorem rn_k171 : rn_chm rn_m171 = true := rfl
theorem rn_k172 : rn_chm rn_m172 = true := rfl
theorem rn_k173 : rn_chm rn_m173 = true := rfl
theorem rn_k174 : rn_chm rn_m174 = true := rfl
theorem rn_k175 : rn_chm rn_m175 = true := rfl
theorem rn_k176 : rn_chm rn_m176 = true := rfl
theorem rn_k177 : rn_chm rn_m177 = true := rfl
theorem rn_k178 : rn_chm rn_m178 = true := rfl
theorem rn_k179 : rn_chm rn_m179 = true := rfl
theorem rn_k180 : rn_chm rn_m180 = true := rfl
theorem rn_k181 : rn_chm rn_m181 = true := rfl
theorem rn_k182 : rn_chm rn_m182 = true := rfl
theorem rn_k183 : rn_chm rn_m183 = true := rfl
theorem rn_k184 : rn_chm rn_m184 = true := rfl
theorem rn_k185 : rn_chm rn_m185 = true := rfl
theorem rn_k186 : rn_chm rn_m186 = true := rfl
theorem rn_k187 : rn_chm rn_m187 = true := rfl
theorem rn_k188 : rn_chm rn_m188 = true := rfl
theorem rn_k189 : rn_chm rn_m189 = true := rfl
theorem rn_k190 : rn_chm rn_m190 = true := rfl
theorem rn_k191 : rn_chm rn_m191 = true := rfl
theorem rn_k192 : rn_chm rn_m192 = true := rfl
theorem rn_k193 : rn_chm rn_m193 = true := rfl
theorem rn_k194 : rn_chm rn_m194 = true := rfl
theorem rn_k195 : rn_chm rn_m195 = true := rfl
theorem rn_k196 : rn_chm rn_m196 = true := rfl
theorem rn_k197 : rn_chm rn_m197 = true := rfl
theorem rn_k198 : rn_chm rn_m198 = true := rfl
theorem rn_k199 : rn_chm rn_m199 = true := rfl
theorem rn_k200 : rn_chm rn_m200 = true := rfl
theorem rn_k201 : rn_chm rn_m201 = true := rfl
theorem rn_k202 : rn_chm rn_m202 = true := rfl
theorem rn_k203 : rn_chm rn_m203 = true := rfl
theorem rn_k204 : rn_chm rn_m204 = true := by decide +kernel
theorem rn_k205 : rn_chm rn_m205 = true := by decide +kernel
theorem rn_k206 : rn_chm rn_m206 = true := by decide +kernel
theorem rn_k207 : rn_chm rn_m207 = true := rfl
theorem rn_k208 : rn_chm rn_m208 = true := rfl
theorem rn_k209 : rn_chm rn_m209 = true := rfl
theorem rn_k210 : rn_chm rn_m210 = true := rfl
theorem rn_k211 : rn_chm rn_m211 = true := rfl
theorem rn_k212 : rn_chm rn_m212 = true := rfl
theorem rn_k213 : rn_chm rn_m213 = true := by decide +kernel
theorem rn_k214 : rn_chm rn_m214 = true := rfl
