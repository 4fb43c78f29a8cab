set_option maxRecDepth 100000 in
theorem mjk_0_0 : mq_wc 0 0 150 = true := by decide +kernel
set_option maxRecDepth 100000 in
theorem mjk_0_150 : mq_wc 0 150 150 = true := by decide +kernel
set_option maxRecDepth 100000 in
theorem mjk_0_300 : mq_wc 0 300 150 = true := by decide +kernel
set_option maxRecDepth 100000 in
theorem mjk_0_450 : mq_wc 0 450 150 = true := by decide +kernel
set_option maxRecDepth 100000 in
theorem mjk_0_600 : mq_wc 0 600 150 = true := by decide +kernel
set_option maxRecDepth 100000 in
theorem mjk_0_750 : mq_wc 0 750 150 = true := by decide +kernel
set_option maxRecDepth 100000 in
theorem mjk_0_900 : mq_wc 0 900 99 = true := by decide +kernel
set_option maxRecDepth 100000 in
theorem mjk_0 : ∀ k, k < mj_len 0 → mq_fp 0 k = true := mq_w1 (mq_w1 (mq_w1 (mq_w1 (mq_w1 (mq_w1 (mq_w0 mjk_0_0) mjk_0_150) mjk_0_300) mjk_0_450) mjk_0_600) mjk_0_750) mjk_0_900
set_option maxRecDepth 100000 in
theorem mjk_1 : mq_wall 1 3 = true := by decide +kernel
set_option maxRecDepth 100000 in
theorem mjk_4 : mq_wall 4 5 = true := by decide +kernel
set_option maxRecDepth 100000 in
theorem mjk_9 : mq_wall 9 7 = true := by decide +kernel
set_option maxRecDepth 100000 in
theorem mjk_16 : mq_wall 16 5 = true := by decide +kernel
set_option maxRecDepth 100000 in
theorem mjk_21 : mq_wall 21 3 = true := by decide +kernel
set_option maxRecDepth 100000 in
theorem mjk_24 : mq_wall 24 8 = true := by decide +kernel
set_option maxRecDepth 100000 in
theorem mjk_32 : mq_wall 32 6 = true := by decide +kernel
set_option maxRecDepth 100000 in
theorem mjk_38 : mq_wall 38 2 = true := by decide +kernel
set_option maxRecDepth 100000 in
theorem mjk_40 : mq_wall 40 5 = true := by decide +kernel
set_option maxRecDepth 100000 in
theorem mjk_45 : mq_wall 45 3 = true := by decide +kernel
set_option maxRecDepth 100000 in
theorem mjk_48 : mq_wall 48 2 = true := by decide +kernel
set_option maxRecDepth 100000 in
theorem mjk_50 : mq_wall 50 4 = true := by decide +kernel
set_option maxRecDepth 100000 in
theorem mjk_54 : mq_wall 54 1 = true := by decide +kernel
set_option maxRecDepth 100000 in
theorem mjk_55_0 : mq_wc 55 0 150 = true := by decide +kernel
set_option maxRecDepth 100000 in
theorem mjk_55_150 : mq_wc 55 150 99 = true := by decide +kernel
set_option maxRecDepth 100000 in
theorem mjk_55 : ∀ k, k < mj_len 55 → mq_fp 55 k = true := mq_w1 (mq_w0 mjk_55_0) mjk_55_150
set_option maxRecDepth 100000 in
theorem mjk_56 : mq_wall 56 4 = true := by decide +kernel
set_option maxRecDepth 100000 in
theorem mjk_60 : mq_wall 60 4 = true := by decide +kernel
set_option maxRecDepth 100000 in
theorem mjk_64 : mq_wall 64 3 = true := by decide +kernel
set_option maxRecDepth 100000 in
theorem mjk_67 : mq_wall 67 4 = true := by decide +kernel
set_option maxRecDepth 100000 in
theorem mjk_71 : mq_wall 71 6 = true := by decide +kernel
set_option maxRecDepth 100000 in
theorem mjk_77 : mq_wall 77 3 = true := by decide +kernel
set_option maxRecDepth 100000 in
theorem mjk_80 : mq_wall 80 8 = true := by decide +kernel
set_option maxRecDepth 100000 in
theorem mjk_88 : mq_wall 88 4 = true := by decide +kernel
set_option maxRecDepth 100000 in
theorem mjk_92_0 : mq_wc 92 0 150 = true := by decide +kernel
set_option maxRecDepth 100000 in
theorem mjk_92_150 : mq_wc 92 150 90 = true := by decide +kernel
set_option maxRecDepth 100000 in
theorem mjk_92 : ∀ k, k < mj_len 92 → mq_fp 92 k = true := mq_w1 (mq_w0 mjk_92_0) mjk_92_150
set_option maxRecDepth 100000 in
theorem mjk_93 : mq_wall 93 4 = true := by decide +kernel
set_option maxRecDepth 100000 in
theorem mjk_97 : mq_wall 97 3 = true := by decide +kernel
set_option maxRecDepth 100000 in
theorem mjk_100 : mq_wall 100 5 = true := by decide +kernel
set_option maxRecDepth 100000 in
theorem mjk_105 : mq_wall 105 7 = true := by decide +kernel
set_option maxRecDepth 100000 in
theorem mjk_112 : mq_wall 112 5 = true := by decide +kernel
set_option maxRecDepth 100000 in
theorem mjk_117 : mq_wall 117 5 = true := by decide +kernel
set_option maxRecDepth 100000 in
theorem mjk_122 : mq_wall 122 7 = true := by decide +kernel
set_option maxRecDepth 100000 in
theorem mjk_129 : mq_wall 129 5 = true := by decide +kernel
set_option maxRecDepth 100000 in
theorem mjk_134 : mq_wall 134 5 = true := by decide +kernel
set_option maxRecDepth 100000 in
theorem mjk_139 : mq_wall 139 5 = true := by decide +kernel
set_option maxRecDepth 100000 in
theorem mjk_144 : mq_wall 144 4 = true := by decide +kernel
set_option maxRecDepth 100000 in
theorem mjk_148_0 : mq_wc 148 0 150 = true := by decide +kernel
set_option maxRecDepth 100000 in
theorem mjk_148_150 : mq_wc 148 150 66 = true := by decide +kernel
set_option maxRecDepth 100000 in
theorem mjk_148 : ∀ k, k < mj_len 148 → mq_fp 148 k = true := mq_w1 (mq_w0 mjk_148_0) mjk_148_150
set_option maxRecDepth 100000 in
theorem mjk_149_0 : mq_wc 149 0 150 = true := by decide +kernel
set_option maxRecDepth 100000 in
theorem mjk_149_150 : mq_wc 149 150 86 = true := by decide +kernel
set_option maxRecDepth 100000 in
theorem mjk_149 : ∀ k, k < mj_len 149 → mq_fp 149 k = true := mq_w1 (mq_w0 mjk_149_0) mjk_149_150
set_option maxRecDepth 100000 in
theorem mjk_150 : mq_wall 150 4 = true := by decide +kernel
set_option maxRecDepth 100000 in
theorem mjk_154 : mq_wall 154 3 = true := by decide +kernel
set_option maxRecDepth 100000 in
theorem mjk_157 : mq_wall 157 6 = true := by decide +kernel
set_option maxRecDepth 100000 in
theorem mjk_163 : mq_wall 163 2 = true := by decide +kernel
set_option maxRecDepth 100000 in
theorem mjk_165_0 : mq_wc 165 0 150 = true := by decide +kernel
set_option maxRecDepth 100000 in
theorem mjk_165_150 : mq_wc 165 150 58 = true := by decide +kernel
set_option maxRecDepth 100000 in
theorem mjk_165 : ∀ k, k < mj_len 165 → mq_fp 165 k = true := mq_w1 (mq_w0 mjk_165_0) mjk_165_150
set_option maxRecDepth 100000 in
theorem mjk_166 : mq_wall 166 1 = true := by decide +kernel
set_option maxRecDepth 100000 in
theorem mjk_167_0 : mq_wc 167 0 150 = true := by decide +kernel
set_option maxRecDepth 100000 in
theorem mjk_167_150 : mq_wc 167 150 150 = true := by decide +kernel
set_option maxRecDepth 100000 in
theorem mjk_167_300 : mq_wc 167 300 47 = true := by decide +kernel
set_option maxRecDepth 100000 in
theorem mjk_167 : ∀ k, k < mj_len 167 → mq_fp 167 k = true := mq_w1 (mq_w1 (mq_w0 mjk_167_0) mjk_167_150) mjk_167_300
set_option maxRecDepth 100000 in
theorem mjk_168 : mq_wall 168 5 = true := by decide +kernel
set_option maxRecDepth 100000 in
theorem mjk_173 : mq_wall 173 6 = true := by decide +kernel
set_option maxRecDepth 100000 in
theorem mjk_179 : mq_wall 179 4 = true := by decide +kernel
set_option maxRecDepth 100000 in
theorem mjk_183 : mq_wall 183 2 = true := by decide +kernel
set_option maxRecDepth 100000 in
theorem mjk_185 : mq_wall 185 4 = true := by decide +kernel
set_option maxRecDepth 100000 in
theorem mjk_189 : mq_wall 189 2 = true := by decide +kernel
set_option maxRecDepth 100000 in
theorem mjk_191_0 : mq_wc 191 0 150 = true := by decide +kernel
set_option maxRecDepth 100000 in
theorem mjk_191_150 : mq_wc 191 150 58 = true := by decide +kernel
set_option maxRecDepth 100000 in
theorem mjk_191 : ∀ k, k < mj_len 191 → mq_fp 191 k = true := mq_w1 (mq_w0 mjk_191_0) mjk_191_150
set_option maxRecDepth 100000 in
theorem mjk_192 : mq_wall 192 5 = true := by decide +kernel
set_option maxRecDepth 100000 in
theorem mjk_197 : mq_wall 197 2 = true := by decide +kernel
set_option maxRecDepth 100000 in
theorem mjk_199 : mq_wall 199 1 = true := by decide +kernel
set_option maxRecDepth 100000 in
theorem mjk_200_0 : mq_wc 200 0 150 = true := by decide +kernel
set_option maxRecDepth 100000 in
theorem mjk_200_150 : mq_wc 200 150 73 = true := by decide +kernel
set_option maxRecDepth 100000 in
theorem mjk_200 : ∀ k, k < mj_len 200 → mq_fp 200 k = true := mq_w1 (mq_w0 mjk_200_0) mjk_200_150
set_option maxRecDepth 100000 in
theorem mjk_201 : mq_wall 201 7 = true := by decide +kernel
set_option maxRecDepth 100000 in
theorem mjk_208 : mq_wall 208 1 = true := by decide +kernel
set_option maxRecDepth 100000 in
theorem mjl_0 : mq_lall 0 1 = true := by decide +kernel
set_option maxRecDepth 100000 in
theorem mjl_1 : mq_lall 1 4 = true := by decide +kernel
set_option maxRecDepth 100000 in
theorem mjl_5 : mq_lall 5 7 = true := by decide +kernel
set_option maxRecDepth 100000 in
theorem mjl_12 : mq_lall 12 10 = true := by decide +kernel
set_option maxRecDepth 100000 in
theorem mjl_22 : mq_lall 22 4 = true := by decide +kernel
set_option maxRecDepth 100000 in
theorem mjl_26 : mq_lall 26 9 = true := by decide +kernel
set_option maxRecDepth 100000 in
theorem mjl_35 : mq_lall 35 5 = true := by decide +kernel
set_option maxRecDepth 100000 in
theorem mjl_40 : mq_lall 40 6 = true := by decide +kernel
set_option maxRecDepth 100000 in
theorem mjl_46 : mq_lall 46 5 = true := by decide +kernel
set_option maxRecDepth 100000 in
theorem mjl_51 : mq_lall 51 5 = true := by decide +kernel
set_option maxRecDepth 100000 in
theorem mjl_56 : mq_lall 56 5 = true := by decide +kernel
set_option maxRecDepth 100000 in
theorem mjl_61 : mq_lall 61 6 = true := by decide +kernel
set_option maxRecDepth 100000 in
theorem mjl_67 : mq_lall 67 5 = true := by decide +kernel
set_option maxRecDepth 100000 in
theorem mjl_72 : mq_lall 72 7 = true := by decide +kernel
set_option maxRecDepth 100000 in
theorem mjl_79 : mq_lall 79 4 = true := by decide +kernel
set_option maxRecDepth 100000 in
theorem mjl_83 : mq_lall 83 10 = true := by decide +kernel
set_option maxRecDepth 100000 in
theorem mjl_93 : mq_lall 93 5 = true := by decide +kernel
set_option maxRecDepth 100000 in
theorem mjl_98 : mq_lall 98 5 = true := by decide +kernel
set_option maxRecDepth 100000 in
theorem mjl_103 : mq_lall 103 7 = true := by decide +kernel
set_option maxRecDepth 100000 in
theorem mjl_110 : mq_lall 110 7 = true := by decide +kernel
set_option maxRecDepth 100000 in
theorem mjl_117 : mq_lall 117 6 = true := by decide +kernel
set_option maxRecDepth 100000 in
theorem mjl_123 : mq_lall 123 8 = true := by decide +kernel
set_option maxRecDepth 100000 in
theorem mjl_131 : mq_lall 131 4 = true := by decide +kernel
set_option maxRecDepth 100000 in
theorem mjl_135 : mq_lall 135 5 = true := by decide +kernel
set_option maxRecDepth 100000 in
theorem mjl_140 : mq_lall 140 7 = true := by decide +kernel
set_option maxRecDepth 100000 in
theorem mjl_147 : mq_lall 147 3 = true := by decide +kernel
set_option maxRecDepth 100000 in
theorem mjl_150 : mq_lall 150 5 = true := by decide +kernel
set_option maxRecDepth 100000 in
theorem mjl_155 : mq_lall 155 6 = true := by decide +kernel
set_option maxRecDepth 100000 in
theorem mjl_161 : mq_lall 161 5 = true := by decide +kernel
set_option maxRecDepth 100000 in
theorem mjl_166 : mq_lall 166 2 = true := by decide +kernel
set_option maxRecDepth 100000 in
theorem mjl_168 : mq_lall 168 6 = true := by decide +kernel
set_option maxRecDepth 100000 in
theorem mjl_174 : mq_lall 174 7 = true := by decide +kernel
set_option maxRecDepth 100000 in
theorem mjl_181 : mq_lall 181 4 = true := by decide +kernel
set_option maxRecDepth 100000 in
theorem mjl_185 : mq_lall 185 5 = true := by decide +kernel
set_option maxRecDepth 100000 in
theorem mjl_190 : mq_lall 190 2 = true := by decide +kernel
set_option maxRecDepth 100000 in
theorem mjl_192 : mq_lall 192 6 = true := by decide +kernel
set_option maxRecDepth 100000 in
theorem mjl_198 : mq_lall 198 3 = true := by decide +kernel
set_option maxRecDepth 100000 in
theorem mjl_201 : mq_lall 201 8 = true := by decide +kernel
set_option maxRecDepth 100000 in
theorem mjm_0 : mq_mall 0 10 = true := by decide +kernel
set_option maxRecDepth 100000 in
theorem mjm_10 : mq_mall 10 10 = true := by decide +kernel
set_option maxRecDepth 100000 in
theorem mjm_20 : mq_mall 20 10 = true := by decide +kernel
set_option maxRecDepth 100000 in
theorem mjm_30 : mq_mall 30 10 = true := by decide +kernel
set_option maxRecDepth 100000 in
theorem mjm_40 : mq_mall 40 10 = true := by decide +kernel
set_option maxRecDepth 100000 in
theorem mjm_50 : mq_mall 50 10 = true := by decide +kernel
set_option maxRecDepth 100000 in
theorem mjm_60 : mq_mall 60 10 = true := by decide +kernel
set_option maxRecDepth 100000 in
theorem mjm_70 : mq_mall 70 10 = true := by decide +kernel
set_option maxRecDepth 100000 in
theorem mjm_80 : mq_mall 80 10 = true := by decide +kernel
set_option maxRecDepth 100000 in
theorem mjm_90 : mq_mall 90 10 = true := by decide +kernel
set_option maxRecDepth 100000 in
theorem mjm_100 : mq_mall 100 10 = true := by decide +kernel
set_option maxRecDepth 100000 in
theorem mjm_110 : mq_mall 110 10 = true := by decide +kernel
set_option maxRecDepth 100000 in
theorem mjm_120 : mq_mall 120 10 = true := by decide +kernel
set_option maxRecDepth 100000 in
theorem mjm_130 : mq_mall 130 10 = true := by decide +kernel
set_option maxRecDepth 100000 in
theorem mjm_140 : mq_mall 140 10 = true := by decide +kernel
set_option maxRecDepth 100000 in
theorem mjm_150 : mq_mall 150 10 = true := by decide +kernel
set_option maxRecDepth 100000 in
theorem mjm_160 : mq_mall 160 10 = true := by decide +kernel
set_option maxRecDepth 100000 in
theorem mjm_170 : mq_mall 170 10 = true := by decide +kernel
set_option maxRecDepth 100000 in
theorem mjm_180 : mq_mall 180 10 = true := by decide +kernel
set_option maxRecDepth 100000 in
theorem mjm_190 : mq_mall 190 10 = true := by decide +kernel
set_option maxRecDepth 100000 in
theorem mjm_200 : mq_mall 200 9 = true := by decide +kernel
theorem mj_cl_all : ∀ j, j < 209 → ∀ k, k < mj_len j → mj_ckl j k = true := mq_lj2 (mq_lj2 (mq_lj2 (mq_lj2 (mq_lj2 (mq_lj2 (mq_lj2 (mq_lj2 (mq_lj2 (mq_lj2 (mq_lj2 (mq_lj2 (mq_lj2 (mq_lj2 (mq_lj2 (mq_lj2 (mq_lj2 (mq_lj2 (mq_lj2 (mq_lj2 (mq_lj2 (mq_lj2 (mq_lj2 (mq_lj2 (mq_lj2 (mq_lj2 (mq_lj2 (mq_lj2 (mq_lj2 (mq_lj2 (mq_lj2 (mq_lj2 (mq_lj2 (mq_lj2 (mq_lj2 (mq_lj2 (mq_lj2 (mq_lj2 (fun j h => absurd h (Nat.not_lt_zero j)) mjl_0) mjl_1) mjl_5) mjl_12) mjl_22) mjl_26) mjl_35) mjl_40) mjl_46) mjl_51) mjl_56) mjl_61) mjl_67) mjl_72) mjl_79) mjl_83) mjl_93) mjl_98) mjl_103) mjl_110) mjl_117) mjl_123) mjl_131) mjl_135) mjl_140) mjl_147) mjl_150) mjl_155) mjl_161) mjl_166) mjl_168) mjl_174) mjl_181) mjl_185) mjl_190) mjl_192) mjl_198) mjl_201
theorem mq_fp_all : ∀ j, j < 209 → ∀ k, k < mj_len j → mq_fp j k = true := mq_wj (mq_wj (mq_f1 (mq_wj (mq_wj (mq_wj (mq_f1 (mq_wj (mq_wj (mq_wj (mq_wj (mq_wj (mq_wj (mq_f1 (mq_wj (mq_f1 (mq_wj (mq_wj (mq_wj (mq_wj (mq_f1 (mq_f1 (mq_wj (mq_wj (mq_wj (mq_wj (mq_wj (mq_wj (mq_wj (mq_wj (mq_wj (mq_wj (mq_wj (mq_f1 (mq_wj (mq_wj (mq_wj (mq_wj (mq_wj (mq_wj (mq_wj (mq_wj (mq_f1 (mq_wj (mq_wj (mq_wj (mq_wj (mq_wj (mq_wj (mq_wj (mq_wj (mq_wj (mq_wj (mq_wj (mq_wj (mq_wj (mq_f1 (fun j h => absurd h (Nat.not_lt_zero j)) mjk_0) mjk_1) mjk_4) mjk_9) mjk_16) mjk_21) mjk_24) mjk_32) mjk_38) mjk_40) mjk_45) mjk_48) mjk_50) mjk_54) mjk_55) mjk_56) mjk_60) mjk_64) mjk_67) mjk_71) mjk_77) mjk_80) mjk_88) mjk_92) mjk_93) mjk_97) mjk_100) mjk_105) mjk_112) mjk_117) mjk_122) mjk_129) mjk_134) mjk_139) mjk_144) mjk_148) mjk_149) mjk_150) mjk_154) mjk_157) mjk_163) mjk_165) mjk_166) mjk_167) mjk_168) mjk_173) mjk_179) mjk_183) mjk_185) mjk_189) mjk_191) mjk_192) mjk_197) mjk_199) mjk_200) mjk_201) mjk_208
theorem mj_ck_all : ∀ j, j < 209 → ∀ k, k < mj_len j → mj_ckp j k = true := fun j hj k hk => mq_fp_ok (mq_fp_all j hj k hk)
theorem mj_cm_all : ∀ j, j < 209 → mj_ckm j = true := mq_mj (mq_mj (mq_mj (mq_mj (mq_mj (mq_mj (mq_mj (mq_mj (mq_mj (mq_mj (mq_mj (mq_mj (mq_mj (mq_mj (mq_mj (mq_mj (mq_mj (mq_mj (mq_mj (mq_mj (mq_mj (fun j h => absurd h (Nat.not_lt_zero j)) mjm_0) mjm_10) mjm_20) mjm_30) mjm_40) mjm_50) mjm_60) mjm_70) mjm_80) mjm_90) mjm_100) mjm_110) mjm_120) mjm_130) mjm_140) mjm_150) mjm_160) mjm_170) mjm_180) mjm_190) mjm_200
set_option maxRecDepth 100000 in
theorem mj_cw_all : ∀ c, c < 13 → mj_ckc c = true := by decide +kernel
set_option maxRecDepth 100000 in
theorem mj_w_oi : Jvm.Cond.instanceMethod Jvm.Lib.objectInit ∈ lw_tbl := by decide +kernel
set_option maxRecDepth 100000 in
theorem mj_w_oc : Jvm.Cond.code Jvm.Lib.objectInit ⟨#[0xb1]⟩ 1 none ∈ lw_tbl := by decide +kernel
set_option maxRecDepth 100000 in
theorem mj_w_ai : Jvm.Cond.arrayClass .int ∈ lw_tbl := by decide +kernel
set_option maxRecDepth 100000 in
theorem mj_w_al : Jvm.Cond.arrayClass .long ∈ lw_tbl := by decide +kernel
set_option maxRecDepth 100000 in
theorem mj_w_o0 : Jvm.Cond.arrayOver (.object (mj_nm 0)) ∈ lw_tbl := by decide +kernel
set_option maxRecDepth 100000 in
theorem mj_w_o4 : Jvm.Cond.arrayOver (.object (mj_nm 4)) ∈ lw_tbl := by decide +kernel
set_option maxRecDepth 100000 in
theorem mj_w_o6 : Jvm.Cond.arrayOver (.object (mj_nm 6)) ∈ lw_tbl := by decide +kernel
set_option maxRecDepth 100000 in
theorem mj_w_nm : ∀ c, c < 13 → ∀ a, a < mj_N c → ∀ b, b < mj_N c → a ≠ b → (mj_T c a).2.1 ≠ (mj_T c b).2.1 := by decide +kernel
