set_option maxRecDepth 100000 in
theorem mjk_0 : mq_fall 0 1 = true := by decide +kernel
set_option maxRecDepth 100000 in
theorem mjl_0 : mq_lall 0 1 = true := by decide +kernel
set_option maxRecDepth 100000 in
theorem mjk_1 : mq_fall 1 12 = true := by decide +kernel
set_option maxRecDepth 100000 in
theorem mjl_1 : mq_lall 1 12 = true := by decide +kernel
set_option maxRecDepth 100000 in
theorem mjk_13 : mq_fall 13 14 = true := by decide +kernel
set_option maxRecDepth 100000 in
theorem mjl_13 : mq_lall 13 14 = true := by decide +kernel
set_option maxRecDepth 100000 in
theorem mjk_27 : mq_fall 27 15 = true := by decide +kernel
set_option maxRecDepth 100000 in
theorem mjl_27 : mq_lall 27 15 = true := by decide +kernel
set_option maxRecDepth 100000 in
theorem mjk_42 : mq_fall 42 10 = true := by decide +kernel
set_option maxRecDepth 100000 in
theorem mjl_42 : mq_lall 42 10 = true := by decide +kernel
set_option maxRecDepth 100000 in
theorem mjk_52 : mq_fall 52 8 = true := by decide +kernel
set_option maxRecDepth 100000 in
theorem mjl_52 : mq_lall 52 8 = true := by decide +kernel
set_option maxRecDepth 100000 in
theorem mjk_60 : mq_fall 60 9 = true := by decide +kernel
set_option maxRecDepth 100000 in
theorem mjl_60 : mq_lall 60 9 = true := by decide +kernel
set_option maxRecDepth 100000 in
theorem mjk_69 : mq_fall 69 12 = true := by decide +kernel
set_option maxRecDepth 100000 in
theorem mjl_69 : mq_lall 69 12 = true := by decide +kernel
set_option maxRecDepth 100000 in
theorem mjk_81 : mq_fall 81 16 = true := by decide +kernel
set_option maxRecDepth 100000 in
theorem mjl_81 : mq_lall 81 16 = true := by decide +kernel
set_option maxRecDepth 100000 in
theorem mjk_97 : mq_fall 97 10 = true := by decide +kernel
set_option maxRecDepth 100000 in
theorem mjl_97 : mq_lall 97 10 = true := by decide +kernel
set_option maxRecDepth 100000 in
theorem mjk_107 : mq_fall 107 15 = true := by decide +kernel
set_option maxRecDepth 100000 in
theorem mjl_107 : mq_lall 107 15 = true := by decide +kernel
set_option maxRecDepth 100000 in
theorem mjk_122 : mq_fall 122 14 = true := by decide +kernel
set_option maxRecDepth 100000 in
theorem mjl_122 : mq_lall 122 14 = true := by decide +kernel
set_option maxRecDepth 100000 in
theorem mjk_136 : mq_fall 136 13 = true := by decide +kernel
set_option maxRecDepth 100000 in
theorem mjl_136 : mq_lall 136 13 = true := by decide +kernel
set_option maxRecDepth 100000 in
theorem mjk_149 : mq_fall 149 9 = true := by decide +kernel
set_option maxRecDepth 100000 in
theorem mjl_149 : mq_lall 149 9 = true := by decide +kernel
set_option maxRecDepth 100000 in
theorem mjk_158 : mq_fall 158 9 = true := by decide +kernel
set_option maxRecDepth 100000 in
theorem mjl_158 : mq_lall 158 9 = true := by decide +kernel
set_option maxRecDepth 100000 in
theorem mjk_167 : mq_fall 167 7 = true := by decide +kernel
set_option maxRecDepth 100000 in
theorem mjl_167 : mq_lall 167 7 = true := by decide +kernel
set_option maxRecDepth 100000 in
theorem mjk_174 : mq_fall 174 12 = true := by decide +kernel
set_option maxRecDepth 100000 in
theorem mjl_174 : mq_lall 174 12 = true := by decide +kernel
set_option maxRecDepth 100000 in
theorem mjk_186 : mq_fall 186 9 = true := by decide +kernel
set_option maxRecDepth 100000 in
theorem mjl_186 : mq_lall 186 9 = true := by decide +kernel
set_option maxRecDepth 100000 in
theorem mjk_195 : mq_fall 195 7 = true := by decide +kernel
set_option maxRecDepth 100000 in
theorem mjl_195 : mq_lall 195 7 = true := by decide +kernel
set_option maxRecDepth 100000 in
theorem mjk_202 : mq_fall 202 7 = true := by decide +kernel
set_option maxRecDepth 100000 in
theorem mjl_202 : mq_lall 202 7 = true := by decide +kernel
set_option maxRecDepth 100000 in
theorem mjm_0 : mq_mall 0 10 = true := by decide +kernel
set_option maxRecDepth 100000 in
theorem mjm_10 : mq_mall 10 10 = true := by decide +kernel
set_option maxRecDepth 100000 in
theorem mjm_20 : mq_mall 20 10 = true := by decide +kernel
set_option maxRecDepth 100000 in
theorem mjm_30 : mq_mall 30 10 = true := by decide +kernel
set_option maxRecDepth 100000 in
theorem mjm_40 : mq_mall 40 10 = true := by decide +kernel
set_option maxRecDepth 100000 in
theorem mjm_50 : mq_mall 50 10 = true := by decide +kernel
set_option maxRecDepth 100000 in
theorem mjm_60 : mq_mall 60 10 = true := by decide +kernel
set_option maxRecDepth 100000 in
theorem mjm_70 : mq_mall 70 10 = true := by decide +kernel
set_option maxRecDepth 100000 in
theorem mjm_80 : mq_mall 80 10 = true := by decide +kernel
set_option maxRecDepth 100000 in
theorem mjm_90 : mq_mall 90 10 = true := by decide +kernel
set_option maxRecDepth 100000 in
theorem mjm_100 : mq_mall 100 10 = true := by decide +kernel
set_option maxRecDepth 100000 in
theorem mjm_110 : mq_mall 110 10 = true := by decide +kernel
set_option maxRecDepth 100000 in
theorem mjm_120 : mq_mall 120 10 = true := by decide +kernel
set_option maxRecDepth 100000 in
theorem mjm_130 : mq_mall 130 10 = true := by decide +kernel
set_option maxRecDepth 100000 in
theorem mjm_140 : mq_mall 140 10 = true := by decide +kernel
set_option maxRecDepth 100000 in
theorem mjm_150 : mq_mall 150 10 = true := by decide +kernel
set_option maxRecDepth 100000 in
theorem mjm_160 : mq_mall 160 10 = true := by decide +kernel
set_option maxRecDepth 100000 in
theorem mjm_170 : mq_mall 170 10 = true := by decide +kernel
set_option maxRecDepth 100000 in
theorem mjm_180 : mq_mall 180 10 = true := by decide +kernel
set_option maxRecDepth 100000 in
theorem mjm_190 : mq_mall 190 10 = true := by decide +kernel
set_option maxRecDepth 100000 in
theorem mjm_200 : mq_mall 200 9 = true := by decide +kernel
theorem mj_cl_all : ∀ j, j < 209 → ∀ k, k < mj_len j → mj_ckl j k = true := mq_lj2 (mq_lj2 (mq_lj2 (mq_lj2 (mq_lj2 (mq_lj2 (mq_lj2 (mq_lj2 (mq_lj2 (mq_lj2 (mq_lj2 (mq_lj2 (mq_lj2 (mq_lj2 (mq_lj2 (mq_lj2 (mq_lj2 (mq_lj2 (mq_lj2 (mq_lj2 (fun j h => absurd h (Nat.not_lt_zero j)) mjl_0) mjl_1) mjl_13) mjl_27) mjl_42) mjl_52) mjl_60) mjl_69) mjl_81) mjl_97) mjl_107) mjl_122) mjl_136) mjl_149) mjl_158) mjl_167) mjl_174) mjl_186) mjl_195) mjl_202
theorem mj_ck_all : ∀ j, j < 209 → ∀ k, k < mj_len j → mj_ckp j k = true := fun j hj k hk => mq_fp_ok (mq_fj (mq_fj (mq_fj (mq_fj (mq_fj (mq_fj (mq_fj (mq_fj (mq_fj (mq_fj (mq_fj (mq_fj (mq_fj (mq_fj (mq_fj (mq_fj (mq_fj (mq_fj (mq_fj (mq_fj (fun j h => absurd h (Nat.not_lt_zero j)) mjk_0) mjk_1) mjk_13) mjk_27) mjk_42) mjk_52) mjk_60) mjk_69) mjk_81) mjk_97) mjk_107) mjk_122) mjk_136) mjk_149) mjk_158) mjk_167) mjk_174) mjk_186) mjk_195) mjk_202 j hj k hk)
theorem mj_cm_all : ∀ j, j < 209 → mj_ckm j = true := mq_mj (mq_mj (mq_mj (mq_mj (mq_mj (mq_mj (mq_mj (mq_mj (mq_mj (mq_mj (mq_mj (mq_mj (mq_mj (mq_mj (mq_mj (mq_mj (mq_mj (mq_mj (mq_mj (mq_mj (mq_mj (fun j h => absurd h (Nat.not_lt_zero j)) mjm_0) mjm_10) mjm_20) mjm_30) mjm_40) mjm_50) mjm_60) mjm_70) mjm_80) mjm_90) mjm_100) mjm_110) mjm_120) mjm_130) mjm_140) mjm_150) mjm_160) mjm_170) mjm_180) mjm_190) mjm_200
set_option maxRecDepth 100000 in
theorem mj_cw_all : ∀ c, c < 13 → mj_ckc c = true := by decide +kernel
set_option maxRecDepth 100000 in
theorem mj_w_oi : Jvm.Cond.instanceMethod Jvm.Lib.objectInit ∈ lw_tbl := by decide +kernel
set_option maxRecDepth 100000 in
theorem mj_w_oc : Jvm.Cond.code Jvm.Lib.objectInit ⟨#[0xb1]⟩ 1 none ∈ lw_tbl := by decide +kernel
set_option maxRecDepth 100000 in
theorem mj_w_ai : Jvm.Cond.arrayClass .int ∈ lw_tbl := by decide +kernel
set_option maxRecDepth 100000 in
theorem mj_w_al : Jvm.Cond.arrayClass .long ∈ lw_tbl := by decide +kernel
set_option maxRecDepth 100000 in
theorem mj_w_o0 : Jvm.Cond.arrayOver (.object (mj_nm 0)) ∈ lw_tbl := by decide +kernel
set_option maxRecDepth 100000 in
theorem mj_w_o4 : Jvm.Cond.arrayOver (.object (mj_nm 4)) ∈ lw_tbl := by decide +kernel
set_option maxRecDepth 100000 in
theorem mj_w_o6 : Jvm.Cond.arrayOver (.object (mj_nm 6)) ∈ lw_tbl := by decide +kernel
set_option maxRecDepth 100000 in
theorem mj_w_nm : ∀ c, c < 13 → ∀ a, a < mj_N c → ∀ b, b < mj_N c → a ≠ b → (mj_T c a).2.1 ≠ (mj_T c b).2.1 := by decide +kernel
