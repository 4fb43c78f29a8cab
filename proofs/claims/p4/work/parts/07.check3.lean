set_option maxRecDepth 100000 in
theorem mjk_182_0 : mj_chunk 182 0 40 = true := by decide +kernel
set_option maxRecDepth 100000 in
theorem mjk_182_40 : mj_chunk 182 40 35 = true := by decide +kernel
set_option maxRecDepth 100000 in
theorem mjl_182_0 : mj_chl 182 0 75 = true := by decide +kernel
set_option maxRecDepth 100000 in
theorem mjl_182 : ∀ k, k < mj_len 182 → mj_ckl 182 k = true := mj_l0 mjl_182_0
set_option maxRecDepth 100000 in
theorem mjk_182 : ∀ k, k < mj_len 182 → mj_ckp 182 k = true := mj_cj (mj_ch0 mjk_182_0) (mj_ch mjk_182_40)
set_option maxRecDepth 100000 in
theorem mjm_182 : mj_ckm 182 = true := by decide +kernel
set_option maxRecDepth 100000 in
theorem mjk_183_0 : mj_chunk 183 0 40 = true := by decide +kernel
set_option maxRecDepth 100000 in
theorem mjk_183_40 : mj_chunk 183 40 15 = true := by decide +kernel
set_option maxRecDepth 100000 in
theorem mjl_183_0 : mj_chl 183 0 55 = true := by decide +kernel
set_option maxRecDepth 100000 in
theorem mjl_183 : ∀ k, k < mj_len 183 → mj_ckl 183 k = true := mj_l0 mjl_183_0
set_option maxRecDepth 100000 in
theorem mjk_183 : ∀ k, k < mj_len 183 → mj_ckp 183 k = true := mj_cj (mj_ch0 mjk_183_0) (mj_ch mjk_183_40)
set_option maxRecDepth 100000 in
theorem mjm_183 : mj_ckm 183 = true := by decide +kernel
set_option maxRecDepth 100000 in
theorem mjk_184_0 : mj_chunk 184 0 40 = true := by decide +kernel
set_option maxRecDepth 100000 in
theorem mjk_184_40 : mj_chunk 184 40 40 = true := by decide +kernel
set_option maxRecDepth 100000 in
theorem mjk_184_80 : mj_chunk 184 80 40 = true := by decide +kernel
set_option maxRecDepth 100000 in
theorem mjk_184_120 : mj_chunk 184 120 6 = true := by decide +kernel
set_option maxRecDepth 100000 in
theorem mjl_184_0 : mj_chl 184 0 120 = true := by decide +kernel
set_option maxRecDepth 100000 in
theorem mjl_184_120 : mj_chl 184 120 6 = true := by decide +kernel
set_option maxRecDepth 100000 in
theorem mjl_184 : ∀ k, k < mj_len 184 → mj_ckl 184 k = true := mj_lj (mj_l0 mjl_184_0) (mj_lh mjl_184_120)
set_option maxRecDepth 100000 in
theorem mjk_184 : ∀ k, k < mj_len 184 → mj_ckp 184 k = true := mj_cj (mj_cj (mj_cj (mj_ch0 mjk_184_0) (mj_ch mjk_184_40)) (mj_ch mjk_184_80)) (mj_ch mjk_184_120)
set_option maxRecDepth 100000 in
theorem mjm_184 : mj_ckm 184 = true := by decide +kernel
set_option maxRecDepth 100000 in
theorem mjk_185_0 : mj_chunk 185 0 40 = true := by decide +kernel
set_option maxRecDepth 100000 in
theorem mjk_185_40 : mj_chunk 185 40 40 = true := by decide +kernel
set_option maxRecDepth 100000 in
theorem mjk_185_80 : mj_chunk 185 80 40 = true := by decide +kernel
set_option maxRecDepth 100000 in
theorem mjk_185_120 : mj_chunk 185 120 4 = true := by decide +kernel
set_option maxRecDepth 100000 in
theorem mjl_185_0 : mj_chl 185 0 120 = true := by decide +kernel
set_option maxRecDepth 100000 in
theorem mjl_185_120 : mj_chl 185 120 4 = true := by decide +kernel
set_option maxRecDepth 100000 in
theorem mjl_185 : ∀ k, k < mj_len 185 → mj_ckl 185 k = true := mj_lj (mj_l0 mjl_185_0) (mj_lh mjl_185_120)
set_option maxRecDepth 100000 in
theorem mjk_185 : ∀ k, k < mj_len 185 → mj_ckp 185 k = true := mj_cj (mj_cj (mj_cj (mj_ch0 mjk_185_0) (mj_ch mjk_185_40)) (mj_ch mjk_185_80)) (mj_ch mjk_185_120)
set_option maxRecDepth 100000 in
theorem mjm_185 : mj_ckm 185 = true := by decide +kernel
set_option maxRecDepth 100000 in
theorem mjk_186_0 : mj_chunk 186 0 40 = true := by decide +kernel
set_option maxRecDepth 100000 in
theorem mjk_186_40 : mj_chunk 186 40 7 = true := by decide +kernel
set_option maxRecDepth 100000 in
theorem mjl_186_0 : mj_chl 186 0 47 = true := by decide +kernel
set_option maxRecDepth 100000 in
theorem mjl_186 : ∀ k, k < mj_len 186 → mj_ckl 186 k = true := mj_l0 mjl_186_0
set_option maxRecDepth 100000 in
theorem mjk_186 : ∀ k, k < mj_len 186 → mj_ckp 186 k = true := mj_cj (mj_ch0 mjk_186_0) (mj_ch mjk_186_40)
set_option maxRecDepth 100000 in
theorem mjm_186 : mj_ckm 186 = true := by decide +kernel
set_option maxRecDepth 100000 in
theorem mjk_187_0 : mj_chunk 187 0 25 = true := by decide +kernel
set_option maxRecDepth 100000 in
theorem mjl_187_0 : mj_chl 187 0 25 = true := by decide +kernel
set_option maxRecDepth 100000 in
theorem mjl_187 : ∀ k, k < mj_len 187 → mj_ckl 187 k = true := mj_l0 mjl_187_0
set_option maxRecDepth 100000 in
theorem mjk_187 : ∀ k, k < mj_len 187 → mj_ckp 187 k = true := mj_ch0 mjk_187_0
set_option maxRecDepth 100000 in
theorem mjm_187 : mj_ckm 187 = true := by decide +kernel
set_option maxRecDepth 100000 in
theorem mjk_188_0 : mj_chunk 188 0 18 = true := by decide +kernel
set_option maxRecDepth 100000 in
theorem mjl_188_0 : mj_chl 188 0 18 = true := by decide +kernel
set_option maxRecDepth 100000 in
theorem mjl_188 : ∀ k, k < mj_len 188 → mj_ckl 188 k = true := mj_l0 mjl_188_0
set_option maxRecDepth 100000 in
theorem mjk_188 : ∀ k, k < mj_len 188 → mj_ckp 188 k = true := mj_ch0 mjk_188_0
set_option maxRecDepth 100000 in
theorem mjm_188 : mj_ckm 188 = true := by decide +kernel
set_option maxRecDepth 100000 in
theorem mjk_189_0 : mj_chunk 189 0 40 = true := by decide +kernel
set_option maxRecDepth 100000 in
theorem mjk_189_40 : mj_chunk 189 40 40 = true := by decide +kernel
set_option maxRecDepth 100000 in
theorem mjk_189_80 : mj_chunk 189 80 40 = true := by decide +kernel
set_option maxRecDepth 100000 in
theorem mjk_189_120 : mj_chunk 189 120 20 = true := by decide +kernel
set_option maxRecDepth 100000 in
theorem mjl_189_0 : mj_chl 189 0 120 = true := by decide +kernel
set_option maxRecDepth 100000 in
theorem mjl_189_120 : mj_chl 189 120 20 = true := by decide +kernel
set_option maxRecDepth 100000 in
theorem mjl_189 : ∀ k, k < mj_len 189 → mj_ckl 189 k = true := mj_lj (mj_l0 mjl_189_0) (mj_lh mjl_189_120)
set_option maxRecDepth 100000 in
theorem mjk_189 : ∀ k, k < mj_len 189 → mj_ckp 189 k = true := mj_cj (mj_cj (mj_cj (mj_ch0 mjk_189_0) (mj_ch mjk_189_40)) (mj_ch mjk_189_80)) (mj_ch mjk_189_120)
set_option maxRecDepth 100000 in
theorem mjm_189 : mj_ckm 189 = true := by decide +kernel
set_option maxRecDepth 100000 in
theorem mjk_190_0 : mj_chunk 190 0 40 = true := by decide +kernel
set_option maxRecDepth 100000 in
theorem mjk_190_40 : mj_chunk 190 40 40 = true := by decide +kernel
set_option maxRecDepth 100000 in
theorem mjk_190_80 : mj_chunk 190 80 36 = true := by decide +kernel
set_option maxRecDepth 100000 in
theorem mjl_190_0 : mj_chl 190 0 116 = true := by decide +kernel
set_option maxRecDepth 100000 in
theorem mjl_190 : ∀ k, k < mj_len 190 → mj_ckl 190 k = true := mj_l0 mjl_190_0
set_option maxRecDepth 100000 in
theorem mjk_190 : ∀ k, k < mj_len 190 → mj_ckp 190 k = true := mj_cj (mj_cj (mj_ch0 mjk_190_0) (mj_ch mjk_190_40)) (mj_ch mjk_190_80)
set_option maxRecDepth 100000 in
theorem mjm_190 : mj_ckm 190 = true := by decide +kernel
set_option maxRecDepth 100000 in
theorem mjk_191_0 : mj_chunk 191 0 40 = true := by decide +kernel
set_option maxRecDepth 100000 in
theorem mjk_191_40 : mj_chunk 191 40 40 = true := by decide +kernel
set_option maxRecDepth 100000 in
theorem mjk_191_80 : mj_chunk 191 80 40 = true := by decide +kernel
set_option maxRecDepth 100000 in
theorem mjk_191_120 : mj_chunk 191 120 40 = true := by decide +kernel
set_option maxRecDepth 100000 in
theorem mjk_191_160 : mj_chunk 191 160 40 = true := by decide +kernel
set_option maxRecDepth 100000 in
theorem mjk_191_200 : mj_chunk 191 200 8 = true := by decide +kernel
set_option maxRecDepth 100000 in
theorem mjl_191_0 : mj_chl 191 0 120 = true := by decide +kernel
set_option maxRecDepth 100000 in
theorem mjl_191_120 : mj_chl 191 120 88 = true := by decide +kernel
set_option maxRecDepth 100000 in
theorem mjl_191 : ∀ k, k < mj_len 191 → mj_ckl 191 k = true := mj_lj (mj_l0 mjl_191_0) (mj_lh mjl_191_120)
set_option maxRecDepth 100000 in
theorem mjk_191 : ∀ k, k < mj_len 191 → mj_ckp 191 k = true := mj_cj (mj_cj (mj_cj (mj_cj (mj_cj (mj_ch0 mjk_191_0) (mj_ch mjk_191_40)) (mj_ch mjk_191_80)) (mj_ch mjk_191_120)) (mj_ch mjk_191_160)) (mj_ch mjk_191_200)
set_option maxRecDepth 100000 in
theorem mjm_191 : mj_ckm 191 = true := by decide +kernel
set_option maxRecDepth 100000 in
theorem mjk_192_0 : mj_chunk 192 0 21 = true := by decide +kernel
set_option maxRecDepth 100000 in
theorem mjl_192_0 : mj_chl 192 0 21 = true := by decide +kernel
set_option maxRecDepth 100000 in
theorem mjl_192 : ∀ k, k < mj_len 192 → mj_ckl 192 k = true := mj_l0 mjl_192_0
set_option maxRecDepth 100000 in
theorem mjk_192 : ∀ k, k < mj_len 192 → mj_ckp 192 k = true := mj_ch0 mjk_192_0
set_option maxRecDepth 100000 in
theorem mjm_192 : mj_ckm 192 = true := by decide +kernel
set_option maxRecDepth 100000 in
theorem mjk_193_0 : mj_chunk 193 0 40 = true := by decide +kernel
set_option maxRecDepth 100000 in
theorem mjk_193_40 : mj_chunk 193 40 40 = true := by decide +kernel
set_option maxRecDepth 100000 in
theorem mjk_193_80 : mj_chunk 193 80 16 = true := by decide +kernel
set_option maxRecDepth 100000 in
theorem mjl_193_0 : mj_chl 193 0 96 = true := by decide +kernel
set_option maxRecDepth 100000 in
theorem mjl_193 : ∀ k, k < mj_len 193 → mj_ckl 193 k = true := mj_l0 mjl_193_0
set_option maxRecDepth 100000 in
theorem mjk_193 : ∀ k, k < mj_len 193 → mj_ckp 193 k = true := mj_cj (mj_cj (mj_ch0 mjk_193_0) (mj_ch mjk_193_40)) (mj_ch mjk_193_80)
set_option maxRecDepth 100000 in
theorem mjm_193 : mj_ckm 193 = true := by decide +kernel
set_option maxRecDepth 100000 in
theorem mjk_194_0 : mj_chunk 194 0 40 = true := by decide +kernel
set_option maxRecDepth 100000 in
theorem mjk_194_40 : mj_chunk 194 40 3 = true := by decide +kernel
set_option maxRecDepth 100000 in
theorem mjl_194_0 : mj_chl 194 0 43 = true := by decide +kernel
set_option maxRecDepth 100000 in
theorem mjl_194 : ∀ k, k < mj_len 194 → mj_ckl 194 k = true := mj_l0 mjl_194_0
set_option maxRecDepth 100000 in
theorem mjk_194 : ∀ k, k < mj_len 194 → mj_ckp 194 k = true := mj_cj (mj_ch0 mjk_194_0) (mj_ch mjk_194_40)
set_option maxRecDepth 100000 in
theorem mjm_194 : mj_ckm 194 = true := by decide +kernel
set_option maxRecDepth 100000 in
theorem mjk_195_0 : mj_chunk 195 0 40 = true := by decide +kernel
set_option maxRecDepth 100000 in
theorem mjk_195_40 : mj_chunk 195 40 8 = true := by decide +kernel
set_option maxRecDepth 100000 in
theorem mjl_195_0 : mj_chl 195 0 48 = true := by decide +kernel
set_option maxRecDepth 100000 in
theorem mjl_195 : ∀ k, k < mj_len 195 → mj_ckl 195 k = true := mj_l0 mjl_195_0
set_option maxRecDepth 100000 in
theorem mjk_195 : ∀ k, k < mj_len 195 → mj_ckp 195 k = true := mj_cj (mj_ch0 mjk_195_0) (mj_ch mjk_195_40)
set_option maxRecDepth 100000 in
theorem mjm_195 : mj_ckm 195 = true := by decide +kernel
set_option maxRecDepth 100000 in
theorem mjk_196_0 : mj_chunk 196 0 31 = true := by decide +kernel
set_option maxRecDepth 100000 in
theorem mjl_196_0 : mj_chl 196 0 31 = true := by decide +kernel
set_option maxRecDepth 100000 in
theorem mjl_196 : ∀ k, k < mj_len 196 → mj_ckl 196 k = true := mj_l0 mjl_196_0
set_option maxRecDepth 100000 in
theorem mjk_196 : ∀ k, k < mj_len 196 → mj_ckp 196 k = true := mj_ch0 mjk_196_0
set_option maxRecDepth 100000 in
theorem mjm_196 : mj_ckm 196 = true := by decide +kernel
set_option maxRecDepth 100000 in
theorem mjk_197_0 : mj_chunk 197 0 40 = true := by decide +kernel
set_option maxRecDepth 100000 in
theorem mjk_197_40 : mj_chunk 197 40 40 = true := by decide +kernel
set_option maxRecDepth 100000 in
theorem mjk_197_80 : mj_chunk 197 80 40 = true := by decide +kernel
set_option maxRecDepth 100000 in
theorem mjk_197_120 : mj_chunk 197 120 35 = true := by decide +kernel
set_option maxRecDepth 100000 in
theorem mjl_197_0 : mj_chl 197 0 120 = true := by decide +kernel
set_option maxRecDepth 100000 in
theorem mjl_197_120 : mj_chl 197 120 35 = true := by decide +kernel
set_option maxRecDepth 100000 in
theorem mjl_197 : ∀ k, k < mj_len 197 → mj_ckl 197 k = true := mj_lj (mj_l0 mjl_197_0) (mj_lh mjl_197_120)
set_option maxRecDepth 100000 in
theorem mjk_197 : ∀ k, k < mj_len 197 → mj_ckp 197 k = true := mj_cj (mj_cj (mj_cj (mj_ch0 mjk_197_0) (mj_ch mjk_197_40)) (mj_ch mjk_197_80)) (mj_ch mjk_197_120)
set_option maxRecDepth 100000 in
theorem mjm_197 : mj_ckm 197 = true := by decide +kernel
set_option maxRecDepth 100000 in
theorem mjk_198_0 : mj_chunk 198 0 40 = true := by decide +kernel
set_option maxRecDepth 100000 in
theorem mjk_198_40 : mj_chunk 198 40 1 = true := by decide +kernel
set_option maxRecDepth 100000 in
theorem mjl_198_0 : mj_chl 198 0 41 = true := by decide +kernel
set_option maxRecDepth 100000 in
theorem mjl_198 : ∀ k, k < mj_len 198 → mj_ckl 198 k = true := mj_l0 mjl_198_0
set_option maxRecDepth 100000 in
theorem mjk_198 : ∀ k, k < mj_len 198 → mj_ckp 198 k = true := mj_cj (mj_ch0 mjk_198_0) (mj_ch mjk_198_40)
set_option maxRecDepth 100000 in
theorem mjm_198 : mj_ckm 198 = true := by decide +kernel
set_option maxRecDepth 100000 in
theorem mjk_199_0 : mj_chunk 199 0 40 = true := by decide +kernel
set_option maxRecDepth 100000 in
theorem mjk_199_40 : mj_chunk 199 40 40 = true := by decide +kernel
set_option maxRecDepth 100000 in
theorem mjk_199_80 : mj_chunk 199 80 32 = true := by decide +kernel
set_option maxRecDepth 100000 in
theorem mjl_199_0 : mj_chl 199 0 112 = true := by decide +kernel
set_option maxRecDepth 100000 in
theorem mjl_199 : ∀ k, k < mj_len 199 → mj_ckl 199 k = true := mj_l0 mjl_199_0
set_option maxRecDepth 100000 in
theorem mjk_199 : ∀ k, k < mj_len 199 → mj_ckp 199 k = true := mj_cj (mj_cj (mj_ch0 mjk_199_0) (mj_ch mjk_199_40)) (mj_ch mjk_199_80)
set_option maxRecDepth 100000 in
theorem mjm_199 : mj_ckm 199 = true := by decide +kernel
set_option maxRecDepth 100000 in
theorem mjk_200_0 : mj_chunk 200 0 40 = true := by decide +kernel
set_option maxRecDepth 100000 in
theorem mjk_200_40 : mj_chunk 200 40 40 = true := by decide +kernel
set_option maxRecDepth 100000 in
theorem mjk_200_80 : mj_chunk 200 80 40 = true := by decide +kernel
set_option maxRecDepth 100000 in
theorem mjk_200_120 : mj_chunk 200 120 40 = true := by decide +kernel
set_option maxRecDepth 100000 in
theorem mjk_200_160 : mj_chunk 200 160 40 = true := by decide +kernel
set_option maxRecDepth 100000 in
theorem mjk_200_200 : mj_chunk 200 200 23 = true := by decide +kernel
set_option maxRecDepth 100000 in
theorem mjl_200_0 : mj_chl 200 0 120 = true := by decide +kernel
set_option maxRecDepth 100000 in
theorem mjl_200_120 : mj_chl 200 120 103 = true := by decide +kernel
set_option maxRecDepth 100000 in
theorem mjl_200 : ∀ k, k < mj_len 200 → mj_ckl 200 k = true := mj_lj (mj_l0 mjl_200_0) (mj_lh mjl_200_120)
set_option maxRecDepth 100000 in
theorem mjk_200 : ∀ k, k < mj_len 200 → mj_ckp 200 k = true := mj_cj (mj_cj (mj_cj (mj_cj (mj_cj (mj_ch0 mjk_200_0) (mj_ch mjk_200_40)) (mj_ch mjk_200_80)) (mj_ch mjk_200_120)) (mj_ch mjk_200_160)) (mj_ch mjk_200_200)
set_option maxRecDepth 100000 in
theorem mjm_200 : mj_ckm 200 = true := by decide +kernel
set_option maxRecDepth 100000 in
theorem mjk_201_0 : mj_chunk 201 0 40 = true := by decide +kernel
set_option maxRecDepth 100000 in
theorem mjk_201_40 : mj_chunk 201 40 40 = true := by decide +kernel
set_option maxRecDepth 100000 in
theorem mjk_201_80 : mj_chunk 201 80 22 = true := by decide +kernel
set_option maxRecDepth 100000 in
theorem mjl_201_0 : mj_chl 201 0 102 = true := by decide +kernel
set_option maxRecDepth 100000 in
theorem mjl_201 : ∀ k, k < mj_len 201 → mj_ckl 201 k = true := mj_l0 mjl_201_0
set_option maxRecDepth 100000 in
theorem mjk_201 : ∀ k, k < mj_len 201 → mj_ckp 201 k = true := mj_cj (mj_cj (mj_ch0 mjk_201_0) (mj_ch mjk_201_40)) (mj_ch mjk_201_80)
set_option maxRecDepth 100000 in
theorem mjm_201 : mj_ckm 201 = true := by decide +kernel
set_option maxRecDepth 100000 in
theorem mjk_202_0 : mj_chunk 202 0 40 = true := by decide +kernel
set_option maxRecDepth 100000 in
theorem mjk_202_40 : mj_chunk 202 40 13 = true := by decide +kernel
set_option maxRecDepth 100000 in
theorem mjl_202_0 : mj_chl 202 0 53 = true := by decide +kernel
set_option maxRecDepth 100000 in
theorem mjl_202 : ∀ k, k < mj_len 202 → mj_ckl 202 k = true := mj_l0 mjl_202_0
set_option maxRecDepth 100000 in
theorem mjk_202 : ∀ k, k < mj_len 202 → mj_ckp 202 k = true := mj_cj (mj_ch0 mjk_202_0) (mj_ch mjk_202_40)
set_option maxRecDepth 100000 in
theorem mjm_202 : mj_ckm 202 = true := by decide +kernel
set_option maxRecDepth 100000 in
theorem mjk_203_0 : mj_chunk 203 0 40 = true := by decide +kernel
set_option maxRecDepth 100000 in
theorem mjk_203_40 : mj_chunk 203 40 21 = true := by decide +kernel
set_option maxRecDepth 100000 in
theorem mjl_203_0 : mj_chl 203 0 61 = true := by decide +kernel
set_option maxRecDepth 100000 in
theorem mjl_203 : ∀ k, k < mj_len 203 → mj_ckl 203 k = true := mj_l0 mjl_203_0
set_option maxRecDepth 100000 in
theorem mjk_203 : ∀ k, k < mj_len 203 → mj_ckp 203 k = true := mj_cj (mj_ch0 mjk_203_0) (mj_ch mjk_203_40)
set_option maxRecDepth 100000 in
theorem mjm_203 : mj_ckm 203 = true := by decide +kernel
set_option maxRecDepth 100000 in
theorem mjk_204_0 : mj_chunk 204 0 20 = true := by decide +kernel
set_option maxRecDepth 100000 in
theorem mjl_204_0 : mj_chl 204 0 20 = true := by decide +kernel
set_option maxRecDepth 100000 in
theorem mjl_204 : ∀ k, k < mj_len 204 → mj_ckl 204 k = true := mj_l0 mjl_204_0
set_option maxRecDepth 100000 in
theorem mjk_204 : ∀ k, k < mj_len 204 → mj_ckp 204 k = true := mj_ch0 mjk_204_0
set_option maxRecDepth 100000 in
theorem mjm_204 : mj_ckm 204 = true := by decide +kernel
set_option maxRecDepth 100000 in
theorem mjk_205_0 : mj_chunk 205 0 11 = true := by decide +kernel
set_option maxRecDepth 100000 in
theorem mjl_205_0 : mj_chl 205 0 11 = true := by decide +kernel
set_option maxRecDepth 100000 in
theorem mjl_205 : ∀ k, k < mj_len 205 → mj_ckl 205 k = true := mj_l0 mjl_205_0
set_option maxRecDepth 100000 in
theorem mjk_205 : ∀ k, k < mj_len 205 → mj_ckp 205 k = true := mj_ch0 mjk_205_0
set_option maxRecDepth 100000 in
theorem mjm_205 : mj_ckm 205 = true := by decide +kernel
set_option maxRecDepth 100000 in
theorem mjk_206_0 : mj_chunk 206 0 11 = true := by decide +kernel
set_option maxRecDepth 100000 in
theorem mjl_206_0 : mj_chl 206 0 11 = true := by decide +kernel
set_option maxRecDepth 100000 in
theorem mjl_206 : ∀ k, k < mj_len 206 → mj_ckl 206 k = true := mj_l0 mjl_206_0
set_option maxRecDepth 100000 in
theorem mjk_206 : ∀ k, k < mj_len 206 → mj_ckp 206 k = true := mj_ch0 mjk_206_0
set_option maxRecDepth 100000 in
theorem mjm_206 : mj_ckm 206 = true := by decide +kernel
set_option maxRecDepth 100000 in
theorem mjk_207_0 : mj_chunk 207 0 23 = true := by decide +kernel
set_option maxRecDepth 100000 in
theorem mjl_207_0 : mj_chl 207 0 23 = true := by decide +kernel
set_option maxRecDepth 100000 in
theorem mjl_207 : ∀ k, k < mj_len 207 → mj_ckl 207 k = true := mj_l0 mjl_207_0
set_option maxRecDepth 100000 in
theorem mjk_207 : ∀ k, k < mj_len 207 → mj_ckp 207 k = true := mj_ch0 mjk_207_0
set_option maxRecDepth 100000 in
theorem mjm_207 : mj_ckm 207 = true := by decide +kernel
set_option maxRecDepth 100000 in
theorem mjk_208_0 : mj_chunk 208 0 21 = true := by decide +kernel
set_option maxRecDepth 100000 in
theorem mjl_208_0 : mj_chl 208 0 21 = true := by decide +kernel
set_option maxRecDepth 100000 in
theorem mjl_208 : ∀ k, k < mj_len 208 → mj_ckl 208 k = true := mj_l0 mjl_208_0
set_option maxRecDepth 100000 in
theorem mjk_208 : ∀ k, k < mj_len 208 → mj_ckp 208 k = true := mj_ch0 mjk_208_0
set_option maxRecDepth 100000 in
theorem mjm_208 : mj_ckm 208 = true := by decide +kernel
set_option maxRecDepth 100000 in
theorem mj_cl_all : ∀ j, j < 209 → ∀ k, k < mj_len j → mj_ckl j k = true := lt_s (lt_s (lt_s (lt_s (lt_s (lt_s (lt_s (lt_s (lt_s (lt_s (lt_s (lt_s (lt_s (lt_s (lt_s (lt_s (lt_s (lt_s (lt_s (lt_s (lt_s (lt_s (lt_s (lt_s (lt_s (lt_s (lt_s (lt_s (lt_s (lt_s (lt_s (lt_s (lt_s (lt_s (lt_s (lt_s (lt_s (lt_s (lt_s (lt_s (lt_s (lt_s (lt_s (lt_s (lt_s (lt_s (lt_s (lt_s (lt_s (lt_s (lt_s (lt_s (lt_s (lt_s (lt_s (lt_s (lt_s (lt_s (lt_s (lt_s (lt_s (lt_s (lt_s (lt_s (lt_s (lt_s (lt_s (lt_s (lt_s (lt_s (lt_s (lt_s (lt_s (lt_s (lt_s (lt_s (lt_s (lt_s (lt_s (lt_s (lt_s (lt_s (lt_s (lt_s (lt_s (lt_s (lt_s (lt_s (lt_s (lt_s (lt_s (lt_s (lt_s (lt_s (lt_s (lt_s (lt_s (lt_s (lt_s (lt_s (lt_s (lt_s (lt_s (lt_s (lt_s (lt_s (lt_s (lt_s (lt_s (lt_s (lt_s (lt_s (lt_s (lt_s (lt_s (lt_s (lt_s (lt_s (lt_s (lt_s (lt_s (lt_s (lt_s (lt_s (lt_s (lt_s (lt_s (lt_s (lt_s (lt_s (lt_s (lt_s (lt_s (lt_s (lt_s (lt_s (lt_s (lt_s (lt_s (lt_s (lt_s (lt_s (lt_s (lt_s (lt_s (lt_s (lt_s (lt_s (lt_s (lt_s (lt_s (lt_s (lt_s (lt_s (lt_s (lt_s (lt_s (lt_s (lt_s (lt_s (lt_s (lt_s (lt_s (lt_s (lt_s (lt_s (lt_s (lt_s (lt_s (lt_s (lt_s (lt_s (lt_s (lt_s (lt_s (lt_s (lt_s (lt_s (lt_s (lt_s (lt_s (lt_s (lt_s (lt_s (lt_s (lt_s (lt_s (lt_s (lt_s (lt_s (lt_s (lt_s (lt_s (lt_s (lt_s (lt_s (lt_s (lt_s (lt_s (lt_s (lt_s (lt_s (lt_s (lt_s (lt_s (lt_s (lt_s (lt_s (lt_s (lt_0) mjl_0) mjl_1) mjl_2) mjl_3) mjl_4) mjl_5) mjl_6) mjl_7) mjl_8) mjl_9) mjl_10) mjl_11) mjl_12) mjl_13) mjl_14) mjl_15) mjl_16) mjl_17) mjl_18) mjl_19) mjl_20) mjl_21) mjl_22) mjl_23) mjl_24) mjl_25) mjl_26) mjl_27) mjl_28) mjl_29) mjl_30) mjl_31) mjl_32) mjl_33) mjl_34) mjl_35) mjl_36) mjl_37) mjl_38) mjl_39) mjl_40) mjl_41) mjl_42) mjl_43) mjl_44) mjl_45) mjl_46) mjl_47) mjl_48) mjl_49) mjl_50) mjl_51) mjl_52) mjl_53) mjl_54) mjl_55) mjl_56) mjl_57) mjl_58) mjl_59) mjl_60) mjl_61) mjl_62) mjl_63) mjl_64) mjl_65) mjl_66) mjl_67) mjl_68) mjl_69) mjl_70) mjl_71) mjl_72) mjl_73) mjl_74) mjl_75) mjl_76) mjl_77) mjl_78) mjl_79) mjl_80) mjl_81) mjl_82) mjl_83) mjl_84) mjl_85) mjl_86) mjl_87) mjl_88) mjl_89) mjl_90) mjl_91) mjl_92) mjl_93) mjl_94) mjl_95) mjl_96) mjl_97) mjl_98) mjl_99) mjl_100) mjl_101) mjl_102) mjl_103) mjl_104) mjl_105) mjl_106) mjl_107) mjl_108) mjl_109) mjl_110) mjl_111) mjl_112) mjl_113) mjl_114) mjl_115) mjl_116) mjl_117) mjl_118) mjl_119) mjl_120) mjl_121) mjl_122) mjl_123) mjl_124) mjl_125) mjl_126) mjl_127) mjl_128) mjl_129) mjl_130) mjl_131) mjl_132) mjl_133) mjl_134) mjl_135) mjl_136) mjl_137) mjl_138) mjl_139) mjl_140) mjl_141) mjl_142) mjl_143) mjl_144) mjl_145) mjl_146) mjl_147) mjl_148) mjl_149) mjl_150) mjl_151) mjl_152) mjl_153) mjl_154) mjl_155) mjl_156) mjl_157) mjl_158) mjl_159) mjl_160) mjl_161) mjl_162) mjl_163) mjl_164) mjl_165) mjl_166) mjl_167) mjl_168) mjl_169) mjl_170) mjl_171) mjl_172) mjl_173) mjl_174) mjl_175) mjl_176) mjl_177) mjl_178) mjl_179) mjl_180) mjl_181) mjl_182) mjl_183) mjl_184) mjl_185) mjl_186) mjl_187) mjl_188) mjl_189) mjl_190) mjl_191) mjl_192) mjl_193) mjl_194) mjl_195) mjl_196) mjl_197) mjl_198) mjl_199) mjl_200) mjl_201) mjl_202) mjl_203) mjl_204) mjl_205) mjl_206) mjl_207) mjl_208
set_option maxRecDepth 100000 in
theorem mj_ck_all : ∀ j, j < 209 → ∀ k, k < mj_len j → mj_ckp j k = true := lt_s (lt_s (lt_s (lt_s (lt_s (lt_s (lt_s (lt_s (lt_s (lt_s (lt_s (lt_s (lt_s (lt_s (lt_s (lt_s (lt_s (lt_s (lt_s (lt_s (lt_s (lt_s (lt_s (lt_s (lt_s (lt_s (lt_s (lt_s (lt_s (lt_s (lt_s (lt_s (lt_s (lt_s (lt_s (lt_s (lt_s (lt_s (lt_s (lt_s (lt_s (lt_s (lt_s (lt_s (lt_s (lt_s (lt_s (lt_s (lt_s (lt_s (lt_s (lt_s (lt_s (lt_s (lt_s (lt_s (lt_s (lt_s (lt_s (lt_s (lt_s (lt_s (lt_s (lt_s (lt_s (lt_s (lt_s (lt_s (lt_s (lt_s (lt_s (lt_s (lt_s (lt_s (lt_s (lt_s (lt_s (lt_s (lt_s (lt_s (lt_s (lt_s (lt_s (lt_s (lt_s (lt_s (lt_s (lt_s (lt_s (lt_s (lt_s (lt_s (lt_s (lt_s (lt_s (lt_s (lt_s (lt_s (lt_s (lt_s (lt_s (lt_s (lt_s (lt_s (lt_s (lt_s (lt_s (lt_s (lt_s (lt_s (lt_s (lt_s (lt_s (lt_s (lt_s (lt_s (lt_s (lt_s (lt_s (lt_s (lt_s (lt_s (lt_s (lt_s (lt_s (lt_s (lt_s (lt_s (lt_s (lt_s (lt_s (lt_s (lt_s (lt_s (lt_s (lt_s (lt_s (lt_s (lt_s (lt_s (lt_s (lt_s (lt_s (lt_s (lt_s (lt_s (lt_s (lt_s (lt_s (lt_s (lt_s (lt_s (lt_s (lt_s (lt_s (lt_s (lt_s (lt_s (lt_s (lt_s (lt_s (lt_s (lt_s (lt_s (lt_s (lt_s (lt_s (lt_s (lt_s (lt_s (lt_s (lt_s (lt_s (lt_s (lt_s (lt_s (lt_s (lt_s (lt_s (lt_s (lt_s (lt_s (lt_s (lt_s (lt_s (lt_s (lt_s (lt_s (lt_s (lt_s (lt_s (lt_s (lt_s (lt_s (lt_s (lt_s (lt_s (lt_s (lt_s (lt_s (lt_s (lt_s (lt_s (lt_s (lt_s (lt_s (lt_s (lt_s (lt_s (lt_0) mjk_0) mjk_1) mjk_2) mjk_3) mjk_4) mjk_5) mjk_6) mjk_7) mjk_8) mjk_9) mjk_10) mjk_11) mjk_12) mjk_13) mjk_14) mjk_15) mjk_16) mjk_17) mjk_18) mjk_19) mjk_20) mjk_21) mjk_22) mjk_23) mjk_24) mjk_25) mjk_26) mjk_27) mjk_28) mjk_29) mjk_30) mjk_31) mjk_32) mjk_33) mjk_34) mjk_35) mjk_36) mjk_37) mjk_38) mjk_39) mjk_40) mjk_41) mjk_42) mjk_43) mjk_44) mjk_45) mjk_46) mjk_47) mjk_48) mjk_49) mjk_50) mjk_51) mjk_52) mjk_53) mjk_54) mjk_55) mjk_56) mjk_57) mjk_58) mjk_59) mjk_60) mjk_61) mjk_62) mjk_63) mjk_64) mjk_65) mjk_66) mjk_67) mjk_68) mjk_69) mjk_70) mjk_71) mjk_72) mjk_73) mjk_74) mjk_75) mjk_76) mjk_77) mjk_78) mjk_79) mjk_80) mjk_81) mjk_82) mjk_83) mjk_84) mjk_85) mjk_86) mjk_87) mjk_88) mjk_89) mjk_90) mjk_91) mjk_92) mjk_93) mjk_94) mjk_95) mjk_96) mjk_97) mjk_98) mjk_99) mjk_100) mjk_101) mjk_102) mjk_103) mjk_104) mjk_105) mjk_106) mjk_107) mjk_108) mjk_109) mjk_110) mjk_111) mjk_112) mjk_113) mjk_114) mjk_115) mjk_116) mjk_117) mjk_118) mjk_119) mjk_120) mjk_121) mjk_122) mjk_123) mjk_124) mjk_125) mjk_126) mjk_127) mjk_128) mjk_129) mjk_130) mjk_131) mjk_132) mjk_133) mjk_134) mjk_135) mjk_136) mjk_137) mjk_138) mjk_139) mjk_140) mjk_141) mjk_142) mjk_143) mjk_144) mjk_145) mjk_146) mjk_147) mjk_148) mjk_149) mjk_150) mjk_151) mjk_152) mjk_153) mjk_154) mjk_155) mjk_156) mjk_157) mjk_158) mjk_159) mjk_160) mjk_161) mjk_162) mjk_163) mjk_164) mjk_165) mjk_166) mjk_167) mjk_168) mjk_169) mjk_170) mjk_171) mjk_172) mjk_173) mjk_174) mjk_175) mjk_176) mjk_177) mjk_178) mjk_179) mjk_180) mjk_181) mjk_182) mjk_183) mjk_184) mjk_185) mjk_186) mjk_187) mjk_188) mjk_189) mjk_190) mjk_191) mjk_192) mjk_193) mjk_194) mjk_195) mjk_196) mjk_197) mjk_198) mjk_199) mjk_200) mjk_201) mjk_202) mjk_203) mjk_204) mjk_205) mjk_206) mjk_207) mjk_208
set_option maxRecDepth 100000 in
theorem mj_cm_all : ∀ j, j < 209 → mj_ckm j = true := lt_s (lt_s (lt_s (lt_s (lt_s (lt_s (lt_s (lt_s (lt_s (lt_s (lt_s (lt_s (lt_s (lt_s (lt_s (lt_s (lt_s (lt_s (lt_s (lt_s (lt_s (lt_s (lt_s (lt_s (lt_s (lt_s (lt_s (lt_s (lt_s (lt_s (lt_s (lt_s (lt_s (lt_s (lt_s (lt_s (lt_s (lt_s (lt_s (lt_s (lt_s (lt_s (lt_s (lt_s (lt_s (lt_s (lt_s (lt_s (lt_s (lt_s (lt_s (lt_s (lt_s (lt_s (lt_s (lt_s (lt_s (lt_s (lt_s (lt_s (lt_s (lt_s (lt_s (lt_s (lt_s (lt_s (lt_s (lt_s (lt_s (lt_s (lt_s (lt_s (lt_s (lt_s (lt_s (lt_s (lt_s (lt_s (lt_s (lt_s (lt_s (lt_s (lt_s (lt_s (lt_s (lt_s (lt_s (lt_s (lt_s (lt_s (lt_s (lt_s (lt_s (lt_s (lt_s (lt_s (lt_s (lt_s (lt_s (lt_s (lt_s (lt_s (lt_s (lt_s (lt_s (lt_s (lt_s (lt_s (lt_s (lt_s (lt_s (lt_s (lt_s (lt_s (lt_s (lt_s (lt_s (lt_s (lt_s (lt_s (lt_s (lt_s (lt_s (lt_s (lt_s (lt_s (lt_s (lt_s (lt_s (lt_s (lt_s (lt_s (lt_s (lt_s (lt_s (lt_s (lt_s (lt_s (lt_s (lt_s (lt_s (lt_s (lt_s (lt_s (lt_s (lt_s (lt_s (lt_s (lt_s (lt_s (lt_s (lt_s (lt_s (lt_s (lt_s (lt_s (lt_s (lt_s (lt_s (lt_s (lt_s (lt_s (lt_s (lt_s (lt_s (lt_s (lt_s (lt_s (lt_s (lt_s (lt_s (lt_s (lt_s (lt_s (lt_s (lt_s (lt_s (lt_s (lt_s (lt_s (lt_s (lt_s (lt_s (lt_s (lt_s (lt_s (lt_s (lt_s (lt_s (lt_s (lt_s (lt_s (lt_s (lt_s (lt_s (lt_s (lt_s (lt_s (lt_s (lt_s (lt_s (lt_s (lt_s (lt_s (lt_s (lt_s (lt_s (lt_s (lt_s (lt_0) mjm_0) mjm_1) mjm_2) mjm_3) mjm_4) mjm_5) mjm_6) mjm_7) mjm_8) mjm_9) mjm_10) mjm_11) mjm_12) mjm_13) mjm_14) mjm_15) mjm_16) mjm_17) mjm_18) mjm_19) mjm_20) mjm_21) mjm_22) mjm_23) mjm_24) mjm_25) mjm_26) mjm_27) mjm_28) mjm_29) mjm_30) mjm_31) mjm_32) mjm_33) mjm_34) mjm_35) mjm_36) mjm_37) mjm_38) mjm_39) mjm_40) mjm_41) mjm_42) mjm_43) mjm_44) mjm_45) mjm_46) mjm_47) mjm_48) mjm_49) mjm_50) mjm_51) mjm_52) mjm_53) mjm_54) mjm_55) mjm_56) mjm_57) mjm_58) mjm_59) mjm_60) mjm_61) mjm_62) mjm_63) mjm_64) mjm_65) mjm_66) mjm_67) mjm_68) mjm_69) mjm_70) mjm_71) mjm_72) mjm_73) mjm_74) mjm_75) mjm_76) mjm_77) mjm_78) mjm_79) mjm_80) mjm_81) mjm_82) mjm_83) mjm_84) mjm_85) mjm_86) mjm_87) mjm_88) mjm_89) mjm_90) mjm_91) mjm_92) mjm_93) mjm_94) mjm_95) mjm_96) mjm_97) mjm_98) mjm_99) mjm_100) mjm_101) mjm_102) mjm_103) mjm_104) mjm_105) mjm_106) mjm_107) mjm_108) mjm_109) mjm_110) mjm_111) mjm_112) mjm_113) mjm_114) mjm_115) mjm_116) mjm_117) mjm_118) mjm_119) mjm_120) mjm_121) mjm_122) mjm_123) mjm_124) mjm_125) mjm_126) mjm_127) mjm_128) mjm_129) mjm_130) mjm_131) mjm_132) mjm_133) mjm_134) mjm_135) mjm_136) mjm_137) mjm_138) mjm_139) mjm_140) mjm_141) mjm_142) mjm_143) mjm_144) mjm_145) mjm_146) mjm_147) mjm_148) mjm_149) mjm_150) mjm_151) mjm_152) mjm_153) mjm_154) mjm_155) mjm_156) mjm_157) mjm_158) mjm_159) mjm_160) mjm_161) mjm_162) mjm_163) mjm_164) mjm_165) mjm_166) mjm_167) mjm_168) mjm_169) mjm_170) mjm_171) mjm_172) mjm_173) mjm_174) mjm_175) mjm_176) mjm_177) mjm_178) mjm_179) mjm_180) mjm_181) mjm_182) mjm_183) mjm_184) mjm_185) mjm_186) mjm_187) mjm_188) mjm_189) mjm_190) mjm_191) mjm_192) mjm_193) mjm_194) mjm_195) mjm_196) mjm_197) mjm_198) mjm_199) mjm_200) mjm_201) mjm_202) mjm_203) mjm_204) mjm_205) mjm_206) mjm_207) mjm_208
set_option maxRecDepth 100000 in
theorem mj_cw_all : ∀ c, c < 13 → mj_ckc c = true := by decide +kernel
set_option maxRecDepth 100000 in
theorem mj_w_oi : Jvm.Cond.instanceMethod Jvm.Lib.objectInit ∈ lw_tbl := by decide +kernel
set_option maxRecDepth 100000 in
theorem mj_w_oc : Jvm.Cond.code Jvm.Lib.objectInit ⟨#[0xb1]⟩ 1 none ∈ lw_tbl := by decide +kernel
set_option maxRecDepth 100000 in
theorem mj_w_ai : Jvm.Cond.arrayClass .int ∈ lw_tbl := by decide +kernel
set_option maxRecDepth 100000 in
theorem mj_w_al : Jvm.Cond.arrayClass .long ∈ lw_tbl := by decide +kernel
set_option maxRecDepth 100000 in
theorem mj_w_o0 : Jvm.Cond.arrayOver (.object (mj_nm 0)) ∈ lw_tbl := by decide +kernel
set_option maxRecDepth 100000 in
theorem mj_w_o4 : Jvm.Cond.arrayOver (.object (mj_nm 4)) ∈ lw_tbl := by decide +kernel
set_option maxRecDepth 100000 in
theorem mj_w_o6 : Jvm.Cond.arrayOver (.object (mj_nm 6)) ∈ lw_tbl := by decide +kernel
set_option maxRecDepth 100000 in
theorem mj_w_nm : ∀ c, c < 13 → ∀ a, a < mj_N c → ∀ b, b < mj_N c → a ≠ b → (mj_T c a).2.1 ≠ (mj_T c b).2.1 := by decide +kernel
