set_option maxRecDepth 100000 in
theorem mjk_0_0 : mq_wc 0 0 150 = true := by decide +kernel
set_option maxRecDepth 100000 in
theorem mjk_0_150 : mq_wc 0 150 150 = true := by decide +kernel
set_option maxRecDepth 100000 in
theorem mjk_0_300 : mq_wc 0 300 150 = true := by decide +kernel
set_option maxRecDepth 100000 in
theorem mjk_0_450 : mq_wc 0 450 150 = true := by decide +kernel
set_option maxRecDepth 100000 in
theorem mjk_0_600 : mq_wc 0 600 150 = true := by decide +kernel
set_option maxRecDepth 100000 in
theorem mjk_0_750 : mq_wc 0 750 150 = true := by decide +kernel
set_option maxRecDepth 100000 in
theorem mjk_0_900 : mq_wc 0 900 99 = true := by decide +kernel
set_option maxRecDepth 100000 in
theorem mjk_0 : ∀ k, k < mj_len 0 → mq_fp 0 k = true := mq_w1 (mq_w1 (mq_w1 (mq_w1 (mq_w1 (mq_w1 (mq_w0 mjk_0_0) mjk_0_150) mjk_0_300) mjk_0_450) mjk_0_600) mjk_0_750) mjk_0_900
set_option maxRecDepth 100000 in
theorem mjk_1 : mq_wall 1 3 = true := by decide +kernel
set_option maxRecDepth 100000 in
theorem mjk_4 : mq_wall 4 5 = true := by decide +kernel
set_option maxRecDepth 100000 in
theorem mjk_9 : mq_wall 9 7 = true := by decide +kernel
set_option maxRecDepth 100000 in
theorem mjk_16 : mq_wall 16 5 = true := by decide +kernel
set_option maxRecDepth 100000 in
theorem mjk_21 : mq_wall 21 3 = true := by decide +kernel
set_option maxRecDepth 100000 in
theorem mjk_24 : mq_wall 24 8 = true := by decide +kernel
set_option maxRecDepth 100000 in
theorem mjk_32 : mq_wall 32 6 = true := by decide +kernel
set_option maxRecDepth 100000 in
theorem mjk_38 : mq_wall 38 2 = true := by decide +kernel
set_option maxRecDepth 100000 in
theorem mjk_40 : mq_wall 40 5 = true := by decide +kernel
set_option maxRecDepth 100000 in
theorem mjk_45 : mq_wall 45 3 = true := by decide +kernel
set_option maxRecDepth 100000 in
theorem mjk_48 : mq_wall 48 2 = true := by decide +kernel
set_option maxRecDepth 100000 in
theorem mjk_50 : mq_wall 50 4 = true := by decide +kernel
set_option maxRecDepth 100000 in
theorem mjk_54 : mq_wall 54 1 = true := by decide +kernel
set_option maxRecDepth 100000 in
theorem mjk_55_0 : mq_wc 55 0 150 = true := by decide +kernel
set_option maxRecDepth 100000 in
theorem mjk_55_150 : mq_wc 55 150 99 = true := by decide +kernel
set_option maxRecDepth 100000 in
theorem mjk_55 : ∀ k, k < mj_len 55 → mq_fp 55 k = true := mq_w1 (mq_w0 mjk_55_0) mjk_55_150
set_option maxRecDepth 100000 in
theorem mjk_56 : mq_wall 56 4 = true := by decide +kernel
set_option maxRecDepth 100000 in
theorem mjk_60 : mq_wall 60 4 = true := by decide +kernel
set_option maxRecDepth 100000 in
theorem mjk_64 : mq_wall 64 3 = true := by decide +kernel
set_option maxRecDepth 100000 in
theorem mjk_67 : mq_wall 67 4 = true := by decide +kernel
set_option maxRecDepth 100000 in
theorem mjk_71 : mq_wall 71 6 = true := by decide +kernel
set_option maxRecDepth 100000 in
theorem mjk_77 : mq_wall 77 3 = true := by decide +kernel
set_option maxRecDepth 100000 in
theorem mjk_80 : mq_wall 80 8 = true := by decide +kernel
set_option maxRecDepth 100000 in
theorem mjk_88 : mq_wall 88 4 = true := by decide +kernel
set_option maxRecDepth 100000 in
theorem mjk_92_0 : mq_wc 92 0 150 = true := by decide +kernel
set_option maxRecDepth 100000 in
theorem mjk_92_150 : mq_wc 92 150 90 = true := by decide +kernel
set_option maxRecDepth 100000 in
theorem mjk_92 : ∀ k, k < mj_len 92 → mq_fp 92 k = true := mq_w1 (mq_w0 mjk_92_0) mjk_92_150
set_option maxRecDepth 100000 in
theorem mjk_93 : mq_wall 93 4 = true := by decide +kernel
set_option maxRecDepth 100000 in
theorem mjk_97 : mq_wall 97 3 = true := by decide +kernel
set_option maxRecDepth 100000 in
theorem mjk_100 : mq_wall 100 5 = true := by decide +kernel
set_option maxRecDepth 100000 in
theorem mjk_105 : mq_wall 105 7 = true := by decide +kernel
set_option maxRecDepth 100000 in
theorem mjk_112 : mq_wall 112 5 = true := by decide +kernel
set_option maxRecDepth 100000 in
theorem mjk_117 : mq_wall 117 5 = true := by decide +kernel
set_option maxRecDepth 100000 in
theorem mjk_122 : mq_wall 122 7 = true := by decide +kernel
set_option maxRecDepth 100000 in
theorem mjk_129 : mq_wall 129 5 = true := by decide +kernel
set_option maxRecDepth 100000 in
theorem mjk_134 : mq_wall 134 5 = true := by decide +kernel
set_option maxRecDepth 100000 in
theorem mjk_139 : mq_wall 139 5 = true := by decide +kernel
set_option maxRecDepth 100000 in
theorem mjk_144 : mq_wall 144 4 = true := by decide +kernel
set_option maxRecDepth 100000 in
theorem mjk_148_0 : mq_wc 148 0 150 = true := by decide +kernel
set_option maxRecDepth 100000 in
theorem mjk_148_150 : mq_wc 148 150 66 = true := by decide +kernel
set_option maxRecDepth 100000 in
theorem mjk_148 : ∀ k, k < mj_len 148 → mq_fp 148 k = true := mq_w1 (mq_w0 mjk_148_0) mjk_148_150
set_option maxRecDepth 100000 in
theorem mjk_149_0 : mq_wc 149 0 150 = true := by decide +kernel
set_option maxRecDepth 100000 in
theorem mjk_149_150 : mq_wc 149 150 86 = true := by decide +kernel
set_option maxRecDepth 100000 in
theorem mjk_149 : ∀ k, k < mj_len 149 → mq_fp 149 k = true := mq_w1 (mq_w0 mjk_149_0) mjk_149_150
set_option maxRecDepth 100000 in
theorem mjk_150 : mq_wall 150 4 = true := by decide +kernel
set_option maxRecDepth 100000 in
theorem mjk_154 : mq_wall 154 3 = true := by decide +kernel
set_option maxRecDepth 100000 in
theorem mjk_157 : mq_wall 157 6 = true := by decide +kernel
set_option maxRecDepth 100000 in
theorem mjk_163 : mq_wall 163 2 = true := by decide +kernel
set_option maxRecDepth 100000 in
theorem mjk_165_0 : mq_wc 165 0 150 = true := by decide +kernel
set_option maxRecDepth 100000 in
theorem mjk_165_150 : mq_wc 165 150 58 = true := by decide +kernel
set_option maxRecDepth 100000 in
theorem mjk_165 : ∀ k, k < mj_len 165 → mq_fp 165 k = true := mq_w1 (mq_w0 mjk_165_0) mjk_165_150
set_option maxRecDepth 100000 in
theorem mjk_166 : mq_wall 166 1 = true := by decide +kernel
set_option maxRecDepth 100000 in
theorem mjk_167_0 : mq_wc 167 0 150 = true := by decide +kernel
set_option maxRecDepth 100000 in
theorem mjk_167_150 : mq_wc 167 150 150 = true := by decide +kernel
set_option maxRecDepth 100000 in
theorem mjk_167_300 : mq_wc 167 300 47 = true := by decide +kernel
set_option maxRecDepth 100000 in
theorem mjk_167 : ∀ k, k < mj_len 167 → mq_fp 167 k = true := mq_w1 (mq_w1 (mq_w0 mjk_167_0) mjk_167_150) mjk_167_300
set_option maxRecDepth 100000 in
theorem mjk_168 : mq_wall 168 5 = true := by decide +kernel
set_option maxRecDepth 100000 in
theorem mjk_173 : mq_wall 173 6 = true := by decide +kernel
set_option maxRecDepth 100000 in
theorem mjk_179 : mq_wall 179 4 = true := by decide +kernel
set_option maxRecDepth 100000 in
theorem mjk_183 : mq_wall 183 2 = true := by decide +kernel
set_option maxRecDepth 100000 in
theorem mjk_185 : mq_wall 185 4 = true := by decide +kernel
set_option maxRecDepth 100000 in
theorem mjk_189 : mq_wall 189 2 = true := by decide +kernel
set_option maxRecDepth 100000 in
theorem mjk_191_0 : mq_wc 191 0 150 = true := by decide +kernel
set_option maxRecDepth 100000 in
theorem mjk_191_150 : mq_wc 191 150 58 = true := by decide +kernel
set_option maxRecDepth 100000 in
theorem mjk_191 : ∀ k, k < mj_len 191 → mq_fp 191 k = true := mq_w1 (mq_w0 mjk_191_0) mjk_191_150
set_option maxRecDepth 100000 in
theorem mjk_192 : mq_wall 192 5 = true := by decide +kernel
set_option maxRecDepth 100000 in
theorem mjk_197 : mq_wall 197 2 = true := by decide +kernel
set_option maxRecDepth 100000 in
theorem mjk_199 : mq_wall 199 1 = true := by decide +kernel
set_option maxRecDepth 100000 in
theorem mjk_200_0 : mq_wc 200 0 150 = true := by decide +kernel
set_option maxRecDepth 100000 in
theorem mjk_200_150 : mq_wc 200 150 73 = true := by decide +kernel
set_option maxRecDepth 100000 in
theorem mjk_200 : ∀ k, k < mj_len 200 → mq_fp 200 k = true := mq_w1 (mq_w0 mjk_200_0) mjk_200_150
set_option maxRecDepth 100000 in
theorem mjk_201 : mq_wall 201 7 = true := by decide +kernel
set_option maxRecDepth 100000 in
theorem mjk_208 : mq_wall 208 1 = true := by decide +kernel
