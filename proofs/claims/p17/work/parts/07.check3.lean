set_option maxRecDepth 100000 in
theorem mjm_0 : mq_kall 0 10 = true := by decide +kernel
set_option maxRecDepth 100000 in
theorem mjm_10 : mq_kall 10 10 = true := by decide +kernel
set_option maxRecDepth 100000 in
theorem mjm_20 : mq_kall 20 10 = true := by decide +kernel
set_option maxRecDepth 100000 in
theorem mjm_30 : mq_kall 30 10 = true := by decide +kernel
set_option maxRecDepth 100000 in
theorem mjm_40 : mq_kall 40 10 = true := by decide +kernel
set_option maxRecDepth 100000 in
theorem mjm_50 : mq_kall 50 10 = true := by decide +kernel
set_option maxRecDepth 100000 in
theorem mjm_60 : mq_kall 60 10 = true := by decide +kernel
set_option maxRecDepth 100000 in
theorem mjm_70 : mq_kall 70 10 = true := by decide +kernel
set_option maxRecDepth 100000 in
theorem mjm_80 : mq_kall 80 10 = true := by decide +kernel
set_option maxRecDepth 100000 in
theorem mjm_90 : mq_kall 90 10 = true := by decide +kernel
set_option maxRecDepth 100000 in
theorem mjm_100 : mq_kall 100 10 = true := by decide +kernel
set_option maxRecDepth 100000 in
theorem mjm_110 : mq_kall 110 10 = true := by decide +kernel
set_option maxRecDepth 100000 in
theorem mjm_120 : mq_kall 120 10 = true := by decide +kernel
set_option maxRecDepth 100000 in
theorem mjm_130 : mq_kall 130 10 = true := by decide +kernel
set_option maxRecDepth 100000 in
theorem mjm_140 : mq_kall 140 10 = true := by decide +kernel
set_option maxRecDepth 100000 in
theorem mjm_150 : mq_kall 150 10 = true := by decide +kernel
set_option maxRecDepth 100000 in
theorem mjm_160 : mq_kall 160 10 = true := by decide +kernel
set_option maxRecDepth 100000 in
theorem mjm_170 : mq_kall 170 10 = true := by decide +kernel
set_option maxRecDepth 100000 in
theorem mjm_180 : mq_kall 180 10 = true := by decide +kernel
set_option maxRecDepth 100000 in
theorem mjm_190 : mq_kall 190 10 = true := by decide +kernel
set_option maxRecDepth 100000 in
theorem mjm_200 : mq_kall 200 9 = true := by decide +kernel
theorem mj_cl_all : ∀ j, j < 209 → ∀ k, k < mj_len j → mj_ckl j k = true := mq_lj2 (mq_lj2 (mq_lj2 (mq_lj2 (mq_lj2 (mq_lj2 (mq_lj2 (mq_lj2 (mq_lj2 (mq_lj2 (mq_lj2 (mq_lj2 (mq_lj2 (mq_lj2 (mq_lj2 (mq_lj2 (mq_lj2 (mq_lj2 (mq_lj2 (mq_lj2 (mq_lj2 (mq_lj2 (mq_lj2 (mq_lj2 (mq_lj2 (mq_lj2 (mq_lj2 (mq_lj2 (mq_lj2 (mq_lj2 (mq_lj2 (mq_lj2 (mq_lj2 (mq_lj2 (mq_lj2 (mq_lj2 (mq_lj2 (mq_lj2 (fun j h => absurd h (Nat.not_lt_zero j)) mjl_0) mjl_1) mjl_5) mjl_12) mjl_22) mjl_26) mjl_35) mjl_40) mjl_46) mjl_51) mjl_56) mjl_61) mjl_67) mjl_72) mjl_79) mjl_83) mjl_93) mjl_98) mjl_103) mjl_110) mjl_117) mjl_123) mjl_131) mjl_135) mjl_140) mjl_147) mjl_150) mjl_155) mjl_161) mjl_166) mjl_168) mjl_174) mjl_181) mjl_185) mjl_190) mjl_192) mjl_198) mjl_201
theorem mq_fp_all : ∀ j, j < 209 → ∀ k, k < mj_len j → mq_fp j k = true := mq_wj (mq_wj (mq_f1 (mq_wj (mq_wj (mq_wj (mq_f1 (mq_wj (mq_wj (mq_wj (mq_wj (mq_wj (mq_wj (mq_f1 (mq_wj (mq_f1 (mq_wj (mq_wj (mq_wj (mq_wj (mq_f1 (mq_f1 (mq_wj (mq_wj (mq_wj (mq_wj (mq_wj (mq_wj (mq_wj (mq_wj (mq_wj (mq_wj (mq_wj (mq_f1 (mq_wj (mq_wj (mq_wj (mq_wj (mq_wj (mq_wj (mq_wj (mq_wj (mq_f1 (mq_wj (mq_wj (mq_wj (mq_wj (mq_wj (mq_wj (mq_wj (mq_wj (mq_wj (mq_wj (mq_wj (mq_wj (mq_wj (mq_f1 (fun j h => absurd h (Nat.not_lt_zero j)) mjk_0) mjk_1) mjk_4) mjk_9) mjk_16) mjk_21) mjk_24) mjk_32) mjk_38) mjk_40) mjk_45) mjk_48) mjk_50) mjk_54) mjk_55) mjk_56) mjk_60) mjk_64) mjk_67) mjk_71) mjk_77) mjk_80) mjk_88) mjk_92) mjk_93) mjk_97) mjk_100) mjk_105) mjk_112) mjk_117) mjk_122) mjk_129) mjk_134) mjk_139) mjk_144) mjk_148) mjk_149) mjk_150) mjk_154) mjk_157) mjk_163) mjk_165) mjk_166) mjk_167) mjk_168) mjk_173) mjk_179) mjk_183) mjk_185) mjk_189) mjk_191) mjk_192) mjk_197) mjk_199) mjk_200) mjk_201) mjk_208
theorem mj_ck_all : ∀ j, j < 209 → ∀ k, k < mj_len j → mj_ckp j k = true := fun j hj k hk => mq_fp_ok (mq_fp_all j hj k hk)
theorem mj_cm_all : ∀ j, j < 209 → mj_ckm j = true := mq_kj (mq_kj (mq_kj (mq_kj (mq_kj (mq_kj (mq_kj (mq_kj (mq_kj (mq_kj (mq_kj (mq_kj (mq_kj (mq_kj (mq_kj (mq_kj (mq_kj (mq_kj (mq_kj (mq_kj (mq_kj (fun j h => absurd h (Nat.not_lt_zero j)) mjm_0) mjm_10) mjm_20) mjm_30) mjm_40) mjm_50) mjm_60) mjm_70) mjm_80) mjm_90) mjm_100) mjm_110) mjm_120) mjm_130) mjm_140) mjm_150) mjm_160) mjm_170) mjm_180) mjm_190) mjm_200
set_option maxRecDepth 100000 in
theorem mj_cw_all : ∀ c, c < 13 → mj_ckc c = true := by decide +kernel
set_option maxRecDepth 100000 in
theorem mj_w_oi : Jvm.Cond.instanceMethod Jvm.Lib.objectInit ∈ lw_tbl := by decide +kernel
set_option maxRecDepth 100000 in
theorem mj_w_oc : Jvm.Cond.code Jvm.Lib.objectInit ⟨#[0xb1]⟩ 1 none ∈ lw_tbl := by decide +kernel
set_option maxRecDepth 100000 in
theorem mj_w_ai : Jvm.Cond.arrayClass .int ∈ lw_tbl := by decide +kernel
set_option maxRecDepth 100000 in
theorem mj_w_al : Jvm.Cond.arrayClass .long ∈ lw_tbl := by decide +kernel
set_option maxRecDepth 100000 in
theorem mj_w_o0 : Jvm.Cond.arrayOver (.object (mj_nm 0)) ∈ lw_tbl := by decide +kernel
set_option maxRecDepth 100000 in
theorem mj_w_o4 : Jvm.Cond.arrayOver (.object (mj_nm 4)) ∈ lw_tbl := by decide +kernel
set_option maxRecDepth 100000 in
theorem mj_w_o6 : Jvm.Cond.arrayOver (.object (mj_nm 6)) ∈ lw_tbl := by decide +kernel
set_option maxRecDepth 100000 in
theorem mj_w_nm : ∀ c, c < 13 → ∀ a, a < mj_N c → ∀ b, b < mj_N c → a ≠ b → (mj_T c a).2.1 ≠ (mj_T c b).2.1 := by decide +kernel
