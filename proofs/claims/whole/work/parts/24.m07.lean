theorem ck_202 : op_202.all (ex_chk ex_ms me_202) = true := by decide +kernel
theorem ck_203 : op_203.all (ex_chk ex_ms me_203) = true := by decide +kernel
theorem ck_204 : op_204.all (ex_chk ex_ms me_204) = true := by decide +kernel
theorem ck_205 : op_205.all (ex_chk ex_ms me_205) = true := by decide +kernel
theorem ck_206 : op_206.all (ex_chk ex_ms me_206) = true := by decide +kernel
theorem ck_207 : op_207.all (ex_chk ex_ms me_207) = true := by decide +kernel
theorem ck_208 : op_208.all (ex_chk ex_ms me_208) = true := by decide +kernel
theorem ck_209 : op_209.all (ex_chk ex_ms me_209) = true := by decide +kernel
theorem ck_210 : op_210.all (ex_chk ex_ms me_210) = true := by decide +kernel
theorem ck_211 : op_211.all (ex_chk ex_ms me_211) = true := by decide +kernel
theorem ck_212_0 : op_212_0.all (ex_chk ex_ms me_212) = true := by decide +kernel
theorem ck_212_1 : op_212_1.all (ex_chk ex_ms me_212) = true := by decide +kernel
theorem ck_212 : op_212.all (ex_chk ex_ms me_212) = true := by
  unfold op_212
  simp only [List.all_append, Bool.and_eq_true]
  exact ⟨ck_212_0, ck_212_1⟩
theorem ck_213 : op_213.all (ex_chk ex_ms me_213) = true := by decide +kernel
theorem ck_214 : op_214.all (ex_chk ex_ms me_214) = true := by decide +kernel
theorem ck_215 : op_215.all (ex_chk ex_ms me_215) = true := by decide +kernel
theorem ck_216 : op_216.all (ex_chk ex_ms me_216) = true := by decide +kernel
theorem ck_217 : op_217.all (ex_chk ex_ms me_217) = true := by decide +kernel
theorem ck_218 : op_218.all (ex_chk ex_ms me_218) = true := by decide +kernel
theorem ck_219 : op_219.all (ex_chk ex_ms me_219) = true := by decide +kernel
theorem ck_220 : op_220.all (ex_chk ex_ms me_220) = true := by decide +kernel
theorem ck_221 : op_221.all (ex_chk ex_ms me_221) = true := by decide +kernel
theorem ck_222 : op_222.all (ex_chk ex_ms me_222) = true := by decide +kernel
theorem ck_223 : op_223.all (ex_chk ex_ms me_223) = true := by decide +kernel
theorem ck_224 : op_224.all (ex_chk ex_ms me_224) = true := by decide +kernel
theorem ck_225 : op_225.all (ex_chk ex_ms me_225) = true := by decide +kernel
theorem ck_226 : op_226.all (ex_chk ex_ms me_226) = true := by decide +kernel
theorem ck_227 : op_227.all (ex_chk ex_ms me_227) = true := by decide +kernel
theorem ck_228 : op_228.all (ex_chk ex_ms me_228) = true := by decide +kernel
theorem ck_229 : op_229.all (ex_chk ex_ms me_229) = true := by decide +kernel
theorem ck_230 : op_230.all (ex_chk ex_ms me_230) = true := by decide +kernel
theorem ck_231 : op_231.all (ex_chk ex_ms me_231) = true := by decide +kernel
theorem ck_232 : op_232.all (ex_chk ex_ms me_232) = true := by decide +kernel
theorem ck_233 : op_233.all (ex_chk ex_ms me_233) = true := by decide +kernel
theorem ck_234 : op_234.all (ex_chk ex_ms me_234) = true := by decide +kernel
