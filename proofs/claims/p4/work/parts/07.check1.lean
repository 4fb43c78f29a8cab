set_option maxRecDepth 100000 in
theorem mjk_56_0 : mj_chunk 56 0 40 = true := by decide +kernel
set_option maxRecDepth 100000 in
theorem mjk_56_40 : mj_chunk 56 40 40 = true := by decide +kernel
set_option maxRecDepth 100000 in
theorem mjk_56_80 : mj_chunk 56 80 27 = true := by decide +kernel
set_option maxRecDepth 100000 in
theorem mjl_56_0 : mj_chl 56 0 107 = true := by decide +kernel
set_option maxRecDepth 100000 in
theorem mjl_56 : ∀ k, k < mj_len 56 → mj_ckl 56 k = true := mj_l0 mjl_56_0
set_option maxRecDepth 100000 in
theorem mjk_56 : ∀ k, k < mj_len 56 → mj_ckp 56 k = true := mj_cj (mj_cj (mj_ch0 mjk_56_0) (mj_ch mjk_56_40)) (mj_ch mjk_56_80)
set_option maxRecDepth 100000 in
theorem mjm_56 : mj_ckm 56 = true := by decide +kernel
set_option maxRecDepth 100000 in
theorem mjk_57_0 : mj_chunk 57 0 38 = true := by decide +kernel
set_option maxRecDepth 100000 in
theorem mjl_57_0 : mj_chl 57 0 38 = true := by decide +kernel
set_option maxRecDepth 100000 in
theorem mjl_57 : ∀ k, k < mj_len 57 → mj_ckl 57 k = true := mj_l0 mjl_57_0
set_option maxRecDepth 100000 in
theorem mjk_57 : ∀ k, k < mj_len 57 → mj_ckp 57 k = true := mj_ch0 mjk_57_0
set_option maxRecDepth 100000 in
theorem mjm_57 : mj_ckm 57 = true := by decide +kernel
set_option maxRecDepth 100000 in
theorem mjk_58_0 : mj_chunk 58 0 40 = true := by decide +kernel
set_option maxRecDepth 100000 in
theorem mjk_58_40 : mj_chunk 58 40 11 = true := by decide +kernel
set_option maxRecDepth 100000 in
theorem mjl_58_0 : mj_chl 58 0 51 = true := by decide +kernel
set_option maxRecDepth 100000 in
theorem mjl_58 : ∀ k, k < mj_len 58 → mj_ckl 58 k = true := mj_l0 mjl_58_0
set_option maxRecDepth 100000 in
theorem mjk_58 : ∀ k, k < mj_len 58 → mj_ckp 58 k = true := mj_cj (mj_ch0 mjk_58_0) (mj_ch mjk_58_40)
set_option maxRecDepth 100000 in
theorem mjm_58 : mj_ckm 58 = true := by decide +kernel
set_option maxRecDepth 100000 in
theorem mjk_59_0 : mj_chunk 59 0 31 = true := by decide +kernel
set_option maxRecDepth 100000 in
theorem mjl_59_0 : mj_chl 59 0 31 = true := by decide +kernel
set_option maxRecDepth 100000 in
theorem mjl_59 : ∀ k, k < mj_len 59 → mj_ckl 59 k = true := mj_l0 mjl_59_0
set_option maxRecDepth 100000 in
theorem mjk_59 : ∀ k, k < mj_len 59 → mj_ckp 59 k = true := mj_ch0 mjk_59_0
set_option maxRecDepth 100000 in
theorem mjm_59 : mj_ckm 59 = true := by decide +kernel
set_option maxRecDepth 100000 in
theorem mjk_60_0 : mj_chunk 60 0 40 = true := by decide +kernel
set_option maxRecDepth 100000 in
theorem mjk_60_40 : mj_chunk 60 40 39 = true := by decide +kernel
set_option maxRecDepth 100000 in
theorem mjl_60_0 : mj_chl 60 0 79 = true := by decide +kernel
set_option maxRecDepth 100000 in
theorem mjl_60 : ∀ k, k < mj_len 60 → mj_ckl 60 k = true := mj_l0 mjl_60_0
set_option maxRecDepth 100000 in
theorem mjk_60 : ∀ k, k < mj_len 60 → mj_ckp 60 k = true := mj_cj (mj_ch0 mjk_60_0) (mj_ch mjk_60_40)
set_option maxRecDepth 100000 in
theorem mjm_60 : mj_ckm 60 = true := by decide +kernel
set_option maxRecDepth 100000 in
theorem mjk_61_0 : mj_chunk 61 0 17 = true := by decide +kernel
set_option maxRecDepth 100000 in
theorem mjl_61_0 : mj_chl 61 0 17 = true := by decide +kernel
set_option maxRecDepth 100000 in
theorem mjl_61 : ∀ k, k < mj_len 61 → mj_ckl 61 k = true := mj_l0 mjl_61_0
set_option maxRecDepth 100000 in
theorem mjk_61 : ∀ k, k < mj_len 61 → mj_ckp 61 k = true := mj_ch0 mjk_61_0
set_option maxRecDepth 100000 in
theorem mjm_61 : mj_ckm 61 = true := by decide +kernel
set_option maxRecDepth 100000 in
theorem mjk_62_0 : mj_chunk 62 0 40 = true := by decide +kernel
set_option maxRecDepth 100000 in
theorem mjk_62_40 : mj_chunk 62 40 40 = true := by decide +kernel
set_option maxRecDepth 100000 in
theorem mjk_62_80 : mj_chunk 62 80 37 = true := by decide +kernel
set_option maxRecDepth 100000 in
theorem mjl_62_0 : mj_chl 62 0 117 = true := by decide +kernel
set_option maxRecDepth 100000 in
theorem mjl_62 : ∀ k, k < mj_len 62 → mj_ckl 62 k = true := mj_l0 mjl_62_0
set_option maxRecDepth 100000 in
theorem mjk_62 : ∀ k, k < mj_len 62 → mj_ckp 62 k = true := mj_cj (mj_cj (mj_ch0 mjk_62_0) (mj_ch mjk_62_40)) (mj_ch mjk_62_80)
set_option maxRecDepth 100000 in
theorem mjm_62 : mj_ckm 62 = true := by decide +kernel
set_option maxRecDepth 100000 in
theorem mjk_63_0 : mj_chunk 63 0 40 = true := by decide +kernel
set_option maxRecDepth 100000 in
theorem mjk_63_40 : mj_chunk 63 40 12 = true := by decide +kernel
set_option maxRecDepth 100000 in
theorem mjl_63_0 : mj_chl 63 0 52 = true := by decide +kernel
set_option maxRecDepth 100000 in
theorem mjl_63 : ∀ k, k < mj_len 63 → mj_ckl 63 k = true := mj_l0 mjl_63_0
set_option maxRecDepth 100000 in
theorem mjk_63 : ∀ k, k < mj_len 63 → mj_ckp 63 k = true := mj_cj (mj_ch0 mjk_63_0) (mj_ch mjk_63_40)
set_option maxRecDepth 100000 in
theorem mjm_63 : mj_ckm 63 = true := by decide +kernel
set_option maxRecDepth 100000 in
theorem mjk_64_0 : mj_chunk 64 0 40 = true := by decide +kernel
set_option maxRecDepth 100000 in
theorem mjk_64_40 : mj_chunk 64 40 9 = true := by decide +kernel
set_option maxRecDepth 100000 in
theorem mjl_64_0 : mj_chl 64 0 49 = true := by decide +kernel
set_option maxRecDepth 100000 in
theorem mjl_64 : ∀ k, k < mj_len 64 → mj_ckl 64 k = true := mj_l0 mjl_64_0
set_option maxRecDepth 100000 in
theorem mjk_64 : ∀ k, k < mj_len 64 → mj_ckp 64 k = true := mj_cj (mj_ch0 mjk_64_0) (mj_ch mjk_64_40)
set_option maxRecDepth 100000 in
theorem mjm_64 : mj_ckm 64 = true := by decide +kernel
set_option maxRecDepth 100000 in
theorem mjk_65_0 : mj_chunk 65 0 22 = true := by decide +kernel
set_option maxRecDepth 100000 in
theorem mjl_65_0 : mj_chl 65 0 22 = true := by decide +kernel
set_option maxRecDepth 100000 in
theorem mjl_65 : ∀ k, k < mj_len 65 → mj_ckl 65 k = true := mj_l0 mjl_65_0
set_option maxRecDepth 100000 in
theorem mjk_65 : ∀ k, k < mj_len 65 → mj_ckp 65 k = true := mj_ch0 mjk_65_0
set_option maxRecDepth 100000 in
theorem mjm_65 : mj_ckm 65 = true := by decide +kernel
set_option maxRecDepth 100000 in
theorem mjk_66_0 : mj_chunk 66 0 40 = true := by decide +kernel
set_option maxRecDepth 100000 in
theorem mjk_66_40 : mj_chunk 66 40 40 = true := by decide +kernel
set_option maxRecDepth 100000 in
theorem mjk_66_80 : mj_chunk 66 80 40 = true := by decide +kernel
set_option maxRecDepth 100000 in
theorem mjk_66_120 : mj_chunk 66 120 40 = true := by decide +kernel
set_option maxRecDepth 100000 in
theorem mjk_66_160 : mj_chunk 66 160 29 = true := by decide +kernel
set_option maxRecDepth 100000 in
theorem mjl_66_0 : mj_chl 66 0 120 = true := by decide +kernel
set_option maxRecDepth 100000 in
theorem mjl_66_120 : mj_chl 66 120 69 = true := by decide +kernel
set_option maxRecDepth 100000 in
theorem mjl_66 : ∀ k, k < mj_len 66 → mj_ckl 66 k = true := mj_lj (mj_l0 mjl_66_0) (mj_lh mjl_66_120)
set_option maxRecDepth 100000 in
theorem mjk_66 : ∀ k, k < mj_len 66 → mj_ckp 66 k = true := mj_cj (mj_cj (mj_cj (mj_cj (mj_ch0 mjk_66_0) (mj_ch mjk_66_40)) (mj_ch mjk_66_80)) (mj_ch mjk_66_120)) (mj_ch mjk_66_160)
set_option maxRecDepth 100000 in
theorem mjm_66 : mj_ckm 66 = true := by decide +kernel
set_option maxRecDepth 100000 in
theorem mjk_67_0 : mj_chunk 67 0 40 = true := by decide +kernel
set_option maxRecDepth 100000 in
theorem mjk_67_40 : mj_chunk 67 40 40 = true := by decide +kernel
set_option maxRecDepth 100000 in
theorem mjk_67_80 : mj_chunk 67 80 40 = true := by decide +kernel
set_option maxRecDepth 100000 in
theorem mjk_67_120 : mj_chunk 67 120 40 = true := by decide +kernel
set_option maxRecDepth 100000 in
theorem mjk_67_160 : mj_chunk 67 160 4 = true := by decide +kernel
set_option maxRecDepth 100000 in
theorem mjl_67_0 : mj_chl 67 0 120 = true := by decide +kernel
set_option maxRecDepth 100000 in
theorem mjl_67_120 : mj_chl 67 120 44 = true := by decide +kernel
set_option maxRecDepth 100000 in
theorem mjl_67 : ∀ k, k < mj_len 67 → mj_ckl 67 k = true := mj_lj (mj_l0 mjl_67_0) (mj_lh mjl_67_120)
set_option maxRecDepth 100000 in
theorem mjk_67 : ∀ k, k < mj_len 67 → mj_ckp 67 k = true := mj_cj (mj_cj (mj_cj (mj_cj (mj_ch0 mjk_67_0) (mj_ch mjk_67_40)) (mj_ch mjk_67_80)) (mj_ch mjk_67_120)) (mj_ch mjk_67_160)
set_option maxRecDepth 100000 in
theorem mjm_67 : mj_ckm 67 = true := by decide +kernel
set_option maxRecDepth 100000 in
theorem mjk_68_0 : mj_chunk 68 0 12 = true := by decide +kernel
set_option maxRecDepth 100000 in
theorem mjl_68_0 : mj_chl 68 0 12 = true := by decide +kernel
set_option maxRecDepth 100000 in
theorem mjl_68 : ∀ k, k < mj_len 68 → mj_ckl 68 k = true := mj_l0 mjl_68_0
set_option maxRecDepth 100000 in
theorem mjk_68 : ∀ k, k < mj_len 68 → mj_ckp 68 k = true := mj_ch0 mjk_68_0
set_option maxRecDepth 100000 in
theorem mjm_68 : mj_ckm 68 = true := by decide +kernel
set_option maxRecDepth 100000 in
theorem mjk_69_0 : mj_chunk 69 0 40 = true := by decide +kernel
set_option maxRecDepth 100000 in
theorem mjk_69_40 : mj_chunk 69 40 3 = true := by decide +kernel
set_option maxRecDepth 100000 in
theorem mjl_69_0 : mj_chl 69 0 43 = true := by decide +kernel
set_option maxRecDepth 100000 in
theorem mjl_69 : ∀ k, k < mj_len 69 → mj_ckl 69 k = true := mj_l0 mjl_69_0
set_option maxRecDepth 100000 in
theorem mjk_69 : ∀ k, k < mj_len 69 → mj_ckp 69 k = true := mj_cj (mj_ch0 mjk_69_0) (mj_ch mjk_69_40)
set_option maxRecDepth 100000 in
theorem mjm_69 : mj_ckm 69 = true := by decide +kernel
set_option maxRecDepth 100000 in
theorem mjk_70_0 : mj_chunk 70 0 40 = true := by decide +kernel
set_option maxRecDepth 100000 in
theorem mjk_70_40 : mj_chunk 70 40 26 = true := by decide +kernel
set_option maxRecDepth 100000 in
theorem mjl_70_0 : mj_chl 70 0 66 = true := by decide +kernel
set_option maxRecDepth 100000 in
theorem mjl_70 : ∀ k, k < mj_len 70 → mj_ckl 70 k = true := mj_l0 mjl_70_0
set_option maxRecDepth 100000 in
theorem mjk_70 : ∀ k, k < mj_len 70 → mj_ckp 70 k = true := mj_cj (mj_ch0 mjk_70_0) (mj_ch mjk_70_40)
set_option maxRecDepth 100000 in
theorem mjm_70 : mj_ckm 70 = true := by decide +kernel
set_option maxRecDepth 100000 in
theorem mjk_71_0 : mj_chunk 71 0 40 = true := by decide +kernel
set_option maxRecDepth 100000 in
theorem mjk_71_40 : mj_chunk 71 40 27 = true := by decide +kernel
set_option maxRecDepth 100000 in
theorem mjl_71_0 : mj_chl 71 0 67 = true := by decide +kernel
set_option maxRecDepth 100000 in
theorem mjl_71 : ∀ k, k < mj_len 71 → mj_ckl 71 k = true := mj_l0 mjl_71_0
set_option maxRecDepth 100000 in
theorem mjk_71 : ∀ k, k < mj_len 71 → mj_ckp 71 k = true := mj_cj (mj_ch0 mjk_71_0) (mj_ch mjk_71_40)
set_option maxRecDepth 100000 in
theorem mjm_71 : mj_ckm 71 = true := by decide +kernel
set_option maxRecDepth 100000 in
theorem mjk_72_0 : mj_chunk 72 0 40 = true := by decide +kernel
set_option maxRecDepth 100000 in
theorem mjk_72_40 : mj_chunk 72 40 40 = true := by decide +kernel
set_option maxRecDepth 100000 in
theorem mjk_72_80 : mj_chunk 72 80 17 = true := by decide +kernel
set_option maxRecDepth 100000 in
theorem mjl_72_0 : mj_chl 72 0 97 = true := by decide +kernel
set_option maxRecDepth 100000 in
theorem mjl_72 : ∀ k, k < mj_len 72 → mj_ckl 72 k = true := mj_l0 mjl_72_0
set_option maxRecDepth 100000 in
theorem mjk_72 : ∀ k, k < mj_len 72 → mj_ckp 72 k = true := mj_cj (mj_cj (mj_ch0 mjk_72_0) (mj_ch mjk_72_40)) (mj_ch mjk_72_80)
set_option maxRecDepth 100000 in
theorem mjm_72 : mj_ckm 72 = true := by decide +kernel
set_option maxRecDepth 100000 in
theorem mjk_73_0 : mj_chunk 73 0 40 = true := by decide +kernel
set_option maxRecDepth 100000 in
theorem mjk_73_40 : mj_chunk 73 40 10 = true := by decide +kernel
set_option maxRecDepth 100000 in
theorem mjl_73_0 : mj_chl 73 0 50 = true := by decide +kernel
set_option maxRecDepth 100000 in
theorem mjl_73 : ∀ k, k < mj_len 73 → mj_ckl 73 k = true := mj_l0 mjl_73_0
set_option maxRecDepth 100000 in
theorem mjk_73 : ∀ k, k < mj_len 73 → mj_ckp 73 k = true := mj_cj (mj_ch0 mjk_73_0) (mj_ch mjk_73_40)
set_option maxRecDepth 100000 in
theorem mjm_73 : mj_ckm 73 = true := by decide +kernel
set_option maxRecDepth 100000 in
theorem mjk_74_0 : mj_chunk 74 0 11 = true := by decide +kernel
set_option maxRecDepth 100000 in
theorem mjl_74_0 : mj_chl 74 0 11 = true := by decide +kernel
set_option maxRecDepth 100000 in
theorem mjl_74 : ∀ k, k < mj_len 74 → mj_ckl 74 k = true := mj_l0 mjl_74_0
set_option maxRecDepth 100000 in
theorem mjk_74 : ∀ k, k < mj_len 74 → mj_ckp 74 k = true := mj_ch0 mjk_74_0
set_option maxRecDepth 100000 in
theorem mjm_74 : mj_ckm 74 = true := by decide +kernel
set_option maxRecDepth 100000 in
theorem mjk_75_0 : mj_chunk 75 0 18 = true := by decide +kernel
set_option maxRecDepth 100000 in
theorem mjl_75_0 : mj_chl 75 0 18 = true := by decide +kernel
set_option maxRecDepth 100000 in
theorem mjl_75 : ∀ k, k < mj_len 75 → mj_ckl 75 k = true := mj_l0 mjl_75_0
set_option maxRecDepth 100000 in
theorem mjk_75 : ∀ k, k < mj_len 75 → mj_ckp 75 k = true := mj_ch0 mjk_75_0
set_option maxRecDepth 100000 in
theorem mjm_75 : mj_ckm 75 = true := by decide +kernel
set_option maxRecDepth 100000 in
theorem mjk_76_0 : mj_chunk 76 0 40 = true := by decide +kernel
set_option maxRecDepth 100000 in
theorem mjk_76_40 : mj_chunk 76 40 13 = true := by decide +kernel
set_option maxRecDepth 100000 in
theorem mjl_76_0 : mj_chl 76 0 53 = true := by decide +kernel
set_option maxRecDepth 100000 in
theorem mjl_76 : ∀ k, k < mj_len 76 → mj_ckl 76 k = true := mj_l0 mjl_76_0
set_option maxRecDepth 100000 in
theorem mjk_76 : ∀ k, k < mj_len 76 → mj_ckp 76 k = true := mj_cj (mj_ch0 mjk_76_0) (mj_ch mjk_76_40)
set_option maxRecDepth 100000 in
theorem mjm_76 : mj_ckm 76 = true := by decide +kernel
set_option maxRecDepth 100000 in
theorem mjk_77_0 : mj_chunk 77 0 31 = true := by decide +kernel
set_option maxRecDepth 100000 in
theorem mjl_77_0 : mj_chl 77 0 31 = true := by decide +kernel
set_option maxRecDepth 100000 in
theorem mjl_77 : ∀ k, k < mj_len 77 → mj_ckl 77 k = true := mj_l0 mjl_77_0
set_option maxRecDepth 100000 in
theorem mjk_77 : ∀ k, k < mj_len 77 → mj_ckp 77 k = true := mj_ch0 mjk_77_0
set_option maxRecDepth 100000 in
theorem mjm_77 : mj_ckm 77 = true := by decide +kernel
set_option maxRecDepth 100000 in
theorem mjk_78_0 : mj_chunk 78 0 40 = true := by decide +kernel
set_option maxRecDepth 100000 in
theorem mjk_78_40 : mj_chunk 78 40 33 = true := by decide +kernel
set_option maxRecDepth 100000 in
theorem mjl_78_0 : mj_chl 78 0 73 = true := by decide +kernel
set_option maxRecDepth 100000 in
theorem mjl_78 : ∀ k, k < mj_len 78 → mj_ckl 78 k = true := mj_l0 mjl_78_0
set_option maxRecDepth 100000 in
theorem mjk_78 : ∀ k, k < mj_len 78 → mj_ckp 78 k = true := mj_cj (mj_ch0 mjk_78_0) (mj_ch mjk_78_40)
set_option maxRecDepth 100000 in
theorem mjm_78 : mj_ckm 78 = true := by decide +kernel
set_option maxRecDepth 100000 in
theorem mjk_79_0 : mj_chunk 79 0 40 = true := by decide +kernel
set_option maxRecDepth 100000 in
theorem mjk_79_40 : mj_chunk 79 40 40 = true := by decide +kernel
set_option maxRecDepth 100000 in
theorem mjk_79_80 : mj_chunk 79 80 40 = true := by decide +kernel
set_option maxRecDepth 100000 in
theorem mjk_79_120 : mj_chunk 79 120 40 = true := by decide +kernel
set_option maxRecDepth 100000 in
theorem mjk_79_160 : mj_chunk 79 160 1 = true := by decide +kernel
set_option maxRecDepth 100000 in
theorem mjl_79_0 : mj_chl 79 0 120 = true := by decide +kernel
set_option maxRecDepth 100000 in
theorem mjl_79_120 : mj_chl 79 120 41 = true := by decide +kernel
set_option maxRecDepth 100000 in
theorem mjl_79 : ∀ k, k < mj_len 79 → mj_ckl 79 k = true := mj_lj (mj_l0 mjl_79_0) (mj_lh mjl_79_120)
set_option maxRecDepth 100000 in
theorem mjk_79 : ∀ k, k < mj_len 79 → mj_ckp 79 k = true := mj_cj (mj_cj (mj_cj (mj_cj (mj_ch0 mjk_79_0) (mj_ch mjk_79_40)) (mj_ch mjk_79_80)) (mj_ch mjk_79_120)) (mj_ch mjk_79_160)
set_option maxRecDepth 100000 in
theorem mjm_79 : mj_ckm 79 = true := by decide +kernel
set_option maxRecDepth 100000 in
theorem mjk_80_0 : mj_chunk 80 0 40 = true := by decide +kernel
set_option maxRecDepth 100000 in
theorem mjk_80_40 : mj_chunk 80 40 40 = true := by decide +kernel
set_option maxRecDepth 100000 in
theorem mjk_80_80 : mj_chunk 80 80 33 = true := by decide +kernel
set_option maxRecDepth 100000 in
theorem mjl_80_0 : mj_chl 80 0 113 = true := by decide +kernel
set_option maxRecDepth 100000 in
theorem mjl_80 : ∀ k, k < mj_len 80 → mj_ckl 80 k = true := mj_l0 mjl_80_0
set_option maxRecDepth 100000 in
theorem mjk_80 : ∀ k, k < mj_len 80 → mj_ckp 80 k = true := mj_cj (mj_cj (mj_ch0 mjk_80_0) (mj_ch mjk_80_40)) (mj_ch mjk_80_80)
set_option maxRecDepth 100000 in
theorem mjm_80 : mj_ckm 80 = true := by decide +kernel
set_option maxRecDepth 100000 in
theorem mjk_81_0 : mj_chunk 81 0 19 = true := by decide +kernel
set_option maxRecDepth 100000 in
theorem mjl_81_0 : mj_chl 81 0 19 = true := by decide +kernel
set_option maxRecDepth 100000 in
theorem mjl_81 : ∀ k, k < mj_len 81 → mj_ckl 81 k = true := mj_l0 mjl_81_0
set_option maxRecDepth 100000 in
theorem mjk_81 : ∀ k, k < mj_len 81 → mj_ckp 81 k = true := mj_ch0 mjk_81_0
set_option maxRecDepth 100000 in
theorem mjm_81 : mj_ckm 81 = true := by decide +kernel
set_option maxRecDepth 100000 in
theorem mjk_82_0 : mj_chunk 82 0 32 = true := by decide +kernel
set_option maxRecDepth 100000 in
theorem mjl_82_0 : mj_chl 82 0 32 = true := by decide +kernel
set_option maxRecDepth 100000 in
theorem mjl_82 : ∀ k, k < mj_len 82 → mj_ckl 82 k = true := mj_l0 mjl_82_0
set_option maxRecDepth 100000 in
theorem mjk_82 : ∀ k, k < mj_len 82 → mj_ckp 82 k = true := mj_ch0 mjk_82_0
set_option maxRecDepth 100000 in
theorem mjm_82 : mj_ckm 82 = true := by decide +kernel
set_option maxRecDepth 100000 in
theorem mjk_83_0 : mj_chunk 83 0 38 = true := by decide +kernel
set_option maxRecDepth 100000 in
theorem mjl_83_0 : mj_chl 83 0 38 = true := by decide +kernel
set_option maxRecDepth 100000 in
theorem mjl_83 : ∀ k, k < mj_len 83 → mj_ckl 83 k = true := mj_l0 mjl_83_0
set_option maxRecDepth 100000 in
theorem mjk_83 : ∀ k, k < mj_len 83 → mj_ckp 83 k = true := mj_ch0 mjk_83_0
set_option maxRecDepth 100000 in
theorem mjm_83 : mj_ckm 83 = true := by decide +kernel
set_option maxRecDepth 100000 in
theorem mjk_84_0 : mj_chunk 84 0 16 = true := by decide +kernel
set_option maxRecDepth 100000 in
theorem mjl_84_0 : mj_chl 84 0 16 = true := by decide +kernel
set_option maxRecDepth 100000 in
theorem mjl_84 : ∀ k, k < mj_len 84 → mj_ckl 84 k = true := mj_l0 mjl_84_0
set_option maxRecDepth 100000 in
theorem mjk_84 : ∀ k, k < mj_len 84 → mj_ckp 84 k = true := mj_ch0 mjk_84_0
set_option maxRecDepth 100000 in
theorem mjm_84 : mj_ckm 84 = true := by decide +kernel
set_option maxRecDepth 100000 in
theorem mjk_85_0 : mj_chunk 85 0 23 = true := by decide +kernel
set_option maxRecDepth 100000 in
theorem mjl_85_0 : mj_chl 85 0 23 = true := by decide +kernel
set_option maxRecDepth 100000 in
theorem mjl_85 : ∀ k, k < mj_len 85 → mj_ckl 85 k = true := mj_l0 mjl_85_0
set_option maxRecDepth 100000 in
theorem mjk_85 : ∀ k, k < mj_len 85 → mj_ckp 85 k = true := mj_ch0 mjk_85_0
set_option maxRecDepth 100000 in
theorem mjm_85 : mj_ckm 85 = true := by decide +kernel
set_option maxRecDepth 100000 in
theorem mjk_86_0 : mj_chunk 86 0 40 = true := by decide +kernel
set_option maxRecDepth 100000 in
theorem mjk_86_40 : mj_chunk 86 40 4 = true := by decide +kernel
set_option maxRecDepth 100000 in
theorem mjl_86_0 : mj_chl 86 0 44 = true := by decide +kernel
set_option maxRecDepth 100000 in
theorem mjl_86 : ∀ k, k < mj_len 86 → mj_ckl 86 k = true := mj_l0 mjl_86_0
set_option maxRecDepth 100000 in
theorem mjk_86 : ∀ k, k < mj_len 86 → mj_ckp 86 k = true := mj_cj (mj_ch0 mjk_86_0) (mj_ch mjk_86_40)
set_option maxRecDepth 100000 in
theorem mjm_86 : mj_ckm 86 = true := by decide +kernel
set_option maxRecDepth 100000 in
theorem mjk_87_0 : mj_chunk 87 0 8 = true := by decide +kernel
set_option maxRecDepth 100000 in
theorem mjl_87_0 : mj_chl 87 0 8 = true := by decide +kernel
set_option maxRecDepth 100000 in
theorem mjl_87 : ∀ k, k < mj_len 87 → mj_ckl 87 k = true := mj_l0 mjl_87_0
set_option maxRecDepth 100000 in
theorem mjk_87 : ∀ k, k < mj_len 87 → mj_ckp 87 k = true := mj_ch0 mjk_87_0
set_option maxRecDepth 100000 in
theorem mjm_87 : mj_ckm 87 = true := by decide +kernel
set_option maxRecDepth 100000 in
theorem mjk_88_0 : mj_chunk 88 0 40 = true := by decide +kernel
set_option maxRecDepth 100000 in
theorem mjl_88_0 : mj_chl 88 0 40 = true := by decide +kernel
set_option maxRecDepth 100000 in
theorem mjl_88 : ∀ k, k < mj_len 88 → mj_ckl 88 k = true := mj_l0 mjl_88_0
set_option maxRecDepth 100000 in
theorem mjk_88 : ∀ k, k < mj_len 88 → mj_ckp 88 k = true := mj_ch0 mjk_88_0
set_option maxRecDepth 100000 in
theorem mjm_88 : mj_ckm 88 = true := by decide +kernel
set_option maxRecDepth 100000 in
theorem mjk_89_0 : mj_chunk 89 0 40 = true := by decide +kernel
set_option maxRecDepth 100000 in
theorem mjk_89_40 : mj_chunk 89 40 12 = true := by decide +kernel
set_option maxRecDepth 100000 in
theorem mjl_89_0 : mj_chl 89 0 52 = true := by decide +kernel
set_option maxRecDepth 100000 in
theorem mjl_89 : ∀ k, k < mj_len 89 → mj_ckl 89 k = true := mj_l0 mjl_89_0
set_option maxRecDepth 100000 in
theorem mjk_89 : ∀ k, k < mj_len 89 → mj_ckp 89 k = true := mj_cj (mj_ch0 mjk_89_0) (mj_ch mjk_89_40)
set_option maxRecDepth 100000 in
theorem mjm_89 : mj_ckm 89 = true := by decide +kernel
set_option maxRecDepth 100000 in
theorem mjk_90_0 : mj_chunk 90 0 30 = true := by decide +kernel
set_option maxRecDepth 100000 in
theorem mjl_90_0 : mj_chl 90 0 30 = true := by decide +kernel
set_option maxRecDepth 100000 in
theorem mjl_90 : ∀ k, k < mj_len 90 → mj_ckl 90 k = true := mj_l0 mjl_90_0
set_option maxRecDepth 100000 in
theorem mjk_90 : ∀ k, k < mj_len 90 → mj_ckp 90 k = true := mj_ch0 mjk_90_0
set_option maxRecDepth 100000 in
theorem mjm_90 : mj_ckm 90 = true := by decide +kernel
set_option maxRecDepth 100000 in
theorem mjk_91_0 : mj_chunk 91 0 40 = true := by decide +kernel
set_option maxRecDepth 100000 in
theorem mjk_91_40 : mj_chunk 91 40 4 = true := by decide +kernel
set_option maxRecDepth 100000 in
theorem mjl_91_0 : mj_chl 91 0 44 = true := by decide +kernel
set_option maxRecDepth 100000 in
theorem mjl_91 : ∀ k, k < mj_len 91 → mj_ckl 91 k = true := mj_l0 mjl_91_0
set_option maxRecDepth 100000 in
theorem mjk_91 : ∀ k, k < mj_len 91 → mj_ckp 91 k = true := mj_cj (mj_ch0 mjk_91_0) (mj_ch mjk_91_40)
set_option maxRecDepth 100000 in
theorem mjm_91 : mj_ckm 91 = true := by decide +kernel
set_option maxRecDepth 100000 in
theorem mjk_92_0 : mj_chunk 92 0 40 = true := by decide +kernel
set_option maxRecDepth 100000 in
theorem mjk_92_40 : mj_chunk 92 40 40 = true := by decide +kernel
set_option maxRecDepth 100000 in
theorem mjk_92_80 : mj_chunk 92 80 40 = true := by decide +kernel
set_option maxRecDepth 100000 in
theorem mjk_92_120 : mj_chunk 92 120 40 = true := by decide +kernel
set_option maxRecDepth 100000 in
theorem mjk_92_160 : mj_chunk 92 160 40 = true := by decide +kernel
set_option maxRecDepth 100000 in
theorem mjk_92_200 : mj_chunk 92 200 40 = true := by decide +kernel
set_option maxRecDepth 100000 in
theorem mjl_92_0 : mj_chl 92 0 120 = true := by decide +kernel
set_option maxRecDepth 100000 in
theorem mjl_92_120 : mj_chl 92 120 120 = true := by decide +kernel
set_option maxRecDepth 100000 in
theorem mjl_92 : ∀ k, k < mj_len 92 → mj_ckl 92 k = true := mj_lj (mj_l0 mjl_92_0) (mj_lh mjl_92_120)
set_option maxRecDepth 100000 in
theorem mjk_92 : ∀ k, k < mj_len 92 → mj_ckp 92 k = true := mj_cj (mj_cj (mj_cj (mj_cj (mj_cj (mj_ch0 mjk_92_0) (mj_ch mjk_92_40)) (mj_ch mjk_92_80)) (mj_ch mjk_92_120)) (mj_ch mjk_92_160)) (mj_ch mjk_92_200)
set_option maxRecDepth 100000 in
theorem mjm_92 : mj_ckm 92 = true := by decide +kernel
set_option maxRecDepth 100000 in
theorem mjk_93_0 : mj_chunk 93 0 19 = true := by decide +kernel
set_option maxRecDepth 100000 in
theorem mjl_93_0 : mj_chl 93 0 19 = true := by decide +kernel
set_option maxRecDepth 100000 in
theorem mjl_93 : ∀ k, k < mj_len 93 → mj_ckl 93 k = true := mj_l0 mjl_93_0
set_option maxRecDepth 100000 in
theorem mjk_93 : ∀ k, k < mj_len 93 → mj_ckp 93 k = true := mj_ch0 mjk_93_0
set_option maxRecDepth 100000 in
theorem mjm_93 : mj_ckm 93 = true := by decide +kernel
set_option maxRecDepth 100000 in
theorem mjk_94_0 : mj_chunk 94 0 40 = true := by decide +kernel
set_option maxRecDepth 100000 in
theorem mjk_94_40 : mj_chunk 94 40 8 = true := by decide +kernel
set_option maxRecDepth 100000 in
theorem mjl_94_0 : mj_chl 94 0 48 = true := by decide +kernel
set_option maxRecDepth 100000 in
theorem mjl_94 : ∀ k, k < mj_len 94 → mj_ckl 94 k = true := mj_l0 mjl_94_0
set_option maxRecDepth 100000 in
theorem mjk_94 : ∀ k, k < mj_len 94 → mj_ckp 94 k = true := mj_cj (mj_ch0 mjk_94_0) (mj_ch mjk_94_40)
set_option maxRecDepth 100000 in
theorem mjm_94 : mj_ckm 94 = true := by decide +kernel
set_option maxRecDepth 100000 in
theorem mjk_95_0 : mj_chunk 95 0 23 = true := by decide +kernel
set_option maxRecDepth 100000 in
theorem mjl_95_0 : mj_chl 95 0 23 = true := by decide +kernel
set_option maxRecDepth 100000 in
theorem mjl_95 : ∀ k, k < mj_len 95 → mj_ckl 95 k = true := mj_l0 mjl_95_0
set_option maxRecDepth 100000 in
theorem mjk_95 : ∀ k, k < mj_len 95 → mj_ckp 95 k = true := mj_ch0 mjk_95_0
set_option maxRecDepth 100000 in
theorem mjm_95 : mj_ckm 95 = true := by decide +kernel
set_option maxRecDepth 100000 in
theorem mjk_96_0 : mj_chunk 96 0 40 = true := by decide +kernel
set_option maxRecDepth 100000 in
theorem mjk_96_40 : mj_chunk 96 40 8 = true := by decide +kernel
set_option maxRecDepth 100000 in
theorem mjl_96_0 : mj_chl 96 0 48 = true := by decide +kernel
set_option maxRecDepth 100000 in
theorem mjl_96 : ∀ k, k < mj_len 96 → mj_ckl 96 k = true := mj_l0 mjl_96_0
set_option maxRecDepth 100000 in
theorem mjk_96 : ∀ k, k < mj_len 96 → mj_ckp 96 k = true := mj_cj (mj_ch0 mjk_96_0) (mj_ch mjk_96_40)
set_option maxRecDepth 100000 in
theorem mjm_96 : mj_ckm 96 = true := by decide +kernel
set_option maxRecDepth 100000 in
theorem mjk_97_0 : mj_chunk 97 0 40 = true := by decide +kernel
set_option maxRecDepth 100000 in
theorem mjk_97_40 : mj_chunk 97 40 40 = true := by decide +kernel
set_option maxRecDepth 100000 in
theorem mjk_97_80 : mj_chunk 97 80 40 = true := by decide +kernel
set_option maxRecDepth 100000 in
theorem mjk_97_120 : mj_chunk 97 120 40 = true := by decide +kernel
set_option maxRecDepth 100000 in
theorem mjk_97_160 : mj_chunk 97 160 7 = true := by decide +kernel
set_option maxRecDepth 100000 in
theorem mjl_97_0 : mj_chl 97 0 120 = true := by decide +kernel
set_option maxRecDepth 100000 in
theorem mjl_97_120 : mj_chl 97 120 47 = true := by decide +kernel
set_option maxRecDepth 100000 in
theorem mjl_97 : ∀ k, k < mj_len 97 → mj_ckl 97 k = true := mj_lj (mj_l0 mjl_97_0) (mj_lh mjl_97_120)
set_option maxRecDepth 100000 in
theorem mjk_97 : ∀ k, k < mj_len 97 → mj_ckp 97 k = true := mj_cj (mj_cj (mj_cj (mj_cj (mj_ch0 mjk_97_0) (mj_ch mjk_97_40)) (mj_ch mjk_97_80)) (mj_ch mjk_97_120)) (mj_ch mjk_97_160)
set_option maxRecDepth 100000 in
theorem mjm_97 : mj_ckm 97 = true := by decide +kernel
set_option maxRecDepth 100000 in
theorem mjk_98_0 : mj_chunk 98 0 40 = true := by decide +kernel
set_option maxRecDepth 100000 in
theorem mjk_98_40 : mj_chunk 98 40 40 = true := by decide +kernel
set_option maxRecDepth 100000 in
theorem mjk_98_80 : mj_chunk 98 80 11 = true := by decide +kernel
set_option maxRecDepth 100000 in
theorem mjl_98_0 : mj_chl 98 0 91 = true := by decide +kernel
set_option maxRecDepth 100000 in
theorem mjl_98 : ∀ k, k < mj_len 98 → mj_ckl 98 k = true := mj_l0 mjl_98_0
set_option maxRecDepth 100000 in
theorem mjk_98 : ∀ k, k < mj_len 98 → mj_ckp 98 k = true := mj_cj (mj_cj (mj_ch0 mjk_98_0) (mj_ch mjk_98_40)) (mj_ch mjk_98_80)
set_option maxRecDepth 100000 in
theorem mjm_98 : mj_ckm 98 = true := by decide +kernel
set_option maxRecDepth 100000 in
theorem mjk_99_0 : mj_chunk 99 0 39 = true := by decide +kernel
set_option maxRecDepth 100000 in
theorem mjl_99_0 : mj_chl 99 0 39 = true := by decide +kernel
set_option maxRecDepth 100000 in
theorem mjl_99 : ∀ k, k < mj_len 99 → mj_ckl 99 k = true := mj_l0 mjl_99_0
set_option maxRecDepth 100000 in
theorem mjk_99 : ∀ k, k < mj_len 99 → mj_ckp 99 k = true := mj_ch0 mjk_99_0
set_option maxRecDepth 100000 in
theorem mjm_99 : mj_ckm 99 = true := by decide +kernel
set_option maxRecDepth 100000 in
theorem mjk_100_0 : mj_chunk 100 0 25 = true := by decide +kernel
set_option maxRecDepth 100000 in
theorem mjl_100_0 : mj_chl 100 0 25 = true := by decide +kernel
set_option maxRecDepth 100000 in
theorem mjl_100 : ∀ k, k < mj_len 100 → mj_ckl 100 k = true := mj_l0 mjl_100_0
set_option maxRecDepth 100000 in
theorem mjk_100 : ∀ k, k < mj_len 100 → mj_ckp 100 k = true := mj_ch0 mjk_100_0
set_option maxRecDepth 100000 in
theorem mjm_100 : mj_ckm 100 = true := by decide +kernel
set_option maxRecDepth 100000 in
theorem mjk_101_0 : mj_chunk 101 0 40 = true := by decide +kernel
set_option maxRecDepth 100000 in
theorem mjk_101_40 : mj_chunk 101 40 10 = true := by decide +kernel
set_option maxRecDepth 100000 in
theorem mjl_101_0 : mj_chl 101 0 50 = true := by decide +kernel
set_option maxRecDepth 100000 in
theorem mjl_101 : ∀ k, k < mj_len 101 → mj_ckl 101 k = true := mj_l0 mjl_101_0
set_option maxRecDepth 100000 in
theorem mjk_101 : ∀ k, k < mj_len 101 → mj_ckp 101 k = true := mj_cj (mj_ch0 mjk_101_0) (mj_ch mjk_101_40)
set_option maxRecDepth 100000 in
theorem mjm_101 : mj_ckm 101 = true := by decide +kernel
set_option maxRecDepth 100000 in
theorem mjk_102_0 : mj_chunk 102 0 40 = true := by decide +kernel
set_option maxRecDepth 100000 in
theorem mjk_102_40 : mj_chunk 102 40 40 = true := by decide +kernel
set_option maxRecDepth 100000 in
theorem mjk_102_80 : mj_chunk 102 80 39 = true := by decide +kernel
set_option maxRecDepth 100000 in
theorem mjl_102_0 : mj_chl 102 0 119 = true := by decide +kernel
set_option maxRecDepth 100000 in
theorem mjl_102 : ∀ k, k < mj_len 102 → mj_ckl 102 k = true := mj_l0 mjl_102_0
set_option maxRecDepth 100000 in
theorem mjk_102 : ∀ k, k < mj_len 102 → mj_ckp 102 k = true := mj_cj (mj_cj (mj_ch0 mjk_102_0) (mj_ch mjk_102_40)) (mj_ch mjk_102_80)
set_option maxRecDepth 100000 in
theorem mjm_102 : mj_ckm 102 = true := by decide +kernel
set_option maxRecDepth 100000 in
theorem mjk_103_0 : mj_chunk 103 0 40 = true := by decide +kernel
set_option maxRecDepth 100000 in
theorem mjk_103_40 : mj_chunk 103 40 26 = true := by decide +kernel
set_option maxRecDepth 100000 in
theorem mjl_103_0 : mj_chl 103 0 66 = true := by decide +kernel
set_option maxRecDepth 100000 in
theorem mjl_103 : ∀ k, k < mj_len 103 → mj_ckl 103 k = true := mj_l0 mjl_103_0
set_option maxRecDepth 100000 in
theorem mjk_103 : ∀ k, k < mj_len 103 → mj_ckp 103 k = true := mj_cj (mj_ch0 mjk_103_0) (mj_ch mjk_103_40)
set_option maxRecDepth 100000 in
theorem mjm_103 : mj_ckm 103 = true := by decide +kernel
set_option maxRecDepth 100000 in
theorem mjk_104_0 : mj_chunk 104 0 36 = true := by decide +kernel
set_option maxRecDepth 100000 in
theorem mjl_104_0 : mj_chl 104 0 36 = true := by decide +kernel
set_option maxRecDepth 100000 in
theorem mjl_104 : ∀ k, k < mj_len 104 → mj_ckl 104 k = true := mj_l0 mjl_104_0
set_option maxRecDepth 100000 in
theorem mjk_104 : ∀ k, k < mj_len 104 → mj_ckp 104 k = true := mj_ch0 mjk_104_0
set_option maxRecDepth 100000 in
theorem mjm_104 : mj_ckm 104 = true := by decide +kernel
set_option maxRecDepth 100000 in
theorem mjk_105_0 : mj_chunk 105 0 40 = true := by decide +kernel
set_option maxRecDepth 100000 in
theorem mjk_105_40 : mj_chunk 105 40 26 = true := by decide +kernel
set_option maxRecDepth 100000 in
theorem mjl_105_0 : mj_chl 105 0 66 = true := by decide +kernel
set_option maxRecDepth 100000 in
theorem mjl_105 : ∀ k, k < mj_len 105 → mj_ckl 105 k = true := mj_l0 mjl_105_0
set_option maxRecDepth 100000 in
theorem mjk_105 : ∀ k, k < mj_len 105 → mj_ckp 105 k = true := mj_cj (mj_ch0 mjk_105_0) (mj_ch mjk_105_40)
set_option maxRecDepth 100000 in
theorem mjm_105 : mj_ckm 105 = true := by decide +kernel
set_option maxRecDepth 100000 in
theorem mjk_106_0 : mj_chunk 106 0 40 = true := by decide +kernel
set_option maxRecDepth 100000 in
theorem mjk_106_40 : mj_chunk 106 40 13 = true := by decide +kernel
set_option maxRecDepth 100000 in
theorem mjl_106_0 : mj_chl 106 0 53 = true := by decide +kernel
set_option maxRecDepth 100000 in
theorem mjl_106 : ∀ k, k < mj_len 106 → mj_ckl 106 k = true := mj_l0 mjl_106_0
set_option maxRecDepth 100000 in
theorem mjk_106 : ∀ k, k < mj_len 106 → mj_ckp 106 k = true := mj_cj (mj_ch0 mjk_106_0) (mj_ch mjk_106_40)
set_option maxRecDepth 100000 in
theorem mjm_106 : mj_ckm 106 = true := by decide +kernel
set_option maxRecDepth 100000 in
theorem mjk_107_0 : mj_chunk 107 0 27 = true := by decide +kernel
set_option maxRecDepth 100000 in
theorem mjl_107_0 : mj_chl 107 0 27 = true := by decide +kernel
set_option maxRecDepth 100000 in
theorem mjl_107 : ∀ k, k < mj_len 107 → mj_ckl 107 k = true := mj_l0 mjl_107_0
set_option maxRecDepth 100000 in
theorem mjk_107 : ∀ k, k < mj_len 107 → mj_ckp 107 k = true := mj_ch0 mjk_107_0
set_option maxRecDepth 100000 in
theorem mjm_107 : mj_ckm 107 = true := by decide +kernel
set_option maxRecDepth 100000 in
theorem mjk_108_0 : mj_chunk 108 0 28 = true := by decide +kernel
set_option maxRecDepth 100000 in
theorem mjl_108_0 : mj_chl 108 0 28 = true := by decide +kernel
set_option maxRecDepth 100000 in
theorem mjl_108 : ∀ k, k < mj_len 108 → mj_ckl 108 k = true := mj_l0 mjl_108_0
set_option maxRecDepth 100000 in
theorem mjk_108 : ∀ k, k < mj_len 108 → mj_ckp 108 k = true := mj_ch0 mjk_108_0
set_option maxRecDepth 100000 in
theorem mjm_108 : mj_ckm 108 = true := by decide +kernel
set_option maxRecDepth 100000 in
theorem mjk_109_0 : mj_chunk 109 0 34 = true := by decide +kernel
set_option maxRecDepth 100000 in
theorem mjl_109_0 : mj_chl 109 0 34 = true := by decide +kernel
set_option maxRecDepth 100000 in
theorem mjl_109 : ∀ k, k < mj_len 109 → mj_ckl 109 k = true := mj_l0 mjl_109_0
set_option maxRecDepth 100000 in
theorem mjk_109 : ∀ k, k < mj_len 109 → mj_ckp 109 k = true := mj_ch0 mjk_109_0
set_option maxRecDepth 100000 in
theorem mjm_109 : mj_ckm 109 = true := by decide +kernel
set_option maxRecDepth 100000 in
theorem mjk_110_0 : mj_chunk 110 0 24 = true := by decide +kernel
set_option maxRecDepth 100000 in
theorem mjl_110_0 : mj_chl 110 0 24 = true := by decide +kernel
set_option maxRecDepth 100000 in
theorem mjl_110 : ∀ k, k < mj_len 110 → mj_ckl 110 k = true := mj_l0 mjl_110_0
set_option maxRecDepth 100000 in
theorem mjk_110 : ∀ k, k < mj_len 110 → mj_ckp 110 k = true := mj_ch0 mjk_110_0
set_option maxRecDepth 100000 in
theorem mjm_110 : mj_ckm 110 = true := by decide +kernel
set_option maxRecDepth 100000 in
theorem mjk_111_0 : mj_chunk 111 0 36 = true := by decide +kernel
set_option maxRecDepth 100000 in
theorem mjl_111_0 : mj_chl 111 0 36 = true := by decide +kernel
set_option maxRecDepth 100000 in
theorem mjl_111 : ∀ k, k < mj_len 111 → mj_ckl 111 k = true := mj_l0 mjl_111_0
set_option maxRecDepth 100000 in
theorem mjk_111 : ∀ k, k < mj_len 111 → mj_ckp 111 k = true := mj_ch0 mjk_111_0
set_option maxRecDepth 100000 in
theorem mjm_111 : mj_ckm 111 = true := by decide +kernel
set_option maxRecDepth 100000 in
theorem mjk_112_0 : mj_chunk 112 0 40 = true := by decide +kernel
set_option maxRecDepth 100000 in
theorem mjk_112_40 : mj_chunk 112 40 9 = true := by decide +kernel
set_option maxRecDepth 100000 in
theorem mjl_112_0 : mj_chl 112 0 49 = true := by decide +kernel
set_option maxRecDepth 100000 in
theorem mjl_112 : ∀ k, k < mj_len 112 → mj_ckl 112 k = true := mj_l0 mjl_112_0
set_option maxRecDepth 100000 in
theorem mjk_112 : ∀ k, k < mj_len 112 → mj_ckp 112 k = true := mj_cj (mj_ch0 mjk_112_0) (mj_ch mjk_112_40)
set_option maxRecDepth 100000 in
theorem mjm_112 : mj_ckm 112 = true := by decide +kernel
set_option maxRecDepth 100000 in
theorem mjk_113_0 : mj_chunk 113 0 31 = true := by decide +kernel
set_option maxRecDepth 100000 in
theorem mjl_113_0 : mj_chl 113 0 31 = true := by decide +kernel
set_option maxRecDepth 100000 in
theorem mjl_113 : ∀ k, k < mj_len 113 → mj_ckl 113 k = true := mj_l0 mjl_113_0
set_option maxRecDepth 100000 in
theorem mjk_113 : ∀ k, k < mj_len 113 → mj_ckp 113 k = true := mj_ch0 mjk_113_0
set_option maxRecDepth 100000 in
theorem mjm_113 : mj_ckm 113 = true := by decide +kernel
set_option maxRecDepth 100000 in
theorem mjk_114_0 : mj_chunk 114 0 40 = true := by decide +kernel
set_option maxRecDepth 100000 in
theorem mjk_114_40 : mj_chunk 114 40 14 = true := by decide +kernel
set_option maxRecDepth 100000 in
theorem mjl_114_0 : mj_chl 114 0 54 = true := by decide +kernel
set_option maxRecDepth 100000 in
theorem mjl_114 : ∀ k, k < mj_len 114 → mj_ckl 114 k = true := mj_l0 mjl_114_0
set_option maxRecDepth 100000 in
theorem mjk_114 : ∀ k, k < mj_len 114 → mj_ckp 114 k = true := mj_cj (mj_ch0 mjk_114_0) (mj_ch mjk_114_40)
set_option maxRecDepth 100000 in
theorem mjm_114 : mj_ckm 114 = true := by decide +kernel
set_option maxRecDepth 100000 in
theorem mjk_115_0 : mj_chunk 115 0 28 = true := by decide +kernel
set_option maxRecDepth 100000 in
theorem mjl_115_0 : mj_chl 115 0 28 = true := by decide +kernel
set_option maxRecDepth 100000 in
theorem mjl_115 : ∀ k, k < mj_len 115 → mj_ckl 115 k = true := mj_l0 mjl_115_0
set_option maxRecDepth 100000 in
theorem mjk_115 : ∀ k, k < mj_len 115 → mj_ckp 115 k = true := mj_ch0 mjk_115_0
set_option maxRecDepth 100000 in
theorem mjm_115 : mj_ckm 115 = true := by decide +kernel
set_option maxRecDepth 100000 in
theorem mjk_116_0 : mj_chunk 116 0 40 = true := by decide +kernel
set_option maxRecDepth 100000 in
theorem mjk_116_40 : mj_chunk 116 40 40 = true := by decide +kernel
set_option maxRecDepth 100000 in
theorem mjk_116_80 : mj_chunk 116 80 40 = true := by decide +kernel
set_option maxRecDepth 100000 in
theorem mjk_116_120 : mj_chunk 116 120 2 = true := by decide +kernel
set_option maxRecDepth 100000 in
theorem mjl_116_0 : mj_chl 116 0 120 = true := by decide +kernel
set_option maxRecDepth 100000 in
theorem mjl_116_120 : mj_chl 116 120 2 = true := by decide +kernel
set_option maxRecDepth 100000 in
theorem mjl_116 : ∀ k, k < mj_len 116 → mj_ckl 116 k = true := mj_lj (mj_l0 mjl_116_0) (mj_lh mjl_116_120)
set_option maxRecDepth 100000 in
theorem mjk_116 : ∀ k, k < mj_len 116 → mj_ckp 116 k = true := mj_cj (mj_cj (mj_cj (mj_ch0 mjk_116_0) (mj_ch mjk_116_40)) (mj_ch mjk_116_80)) (mj_ch mjk_116_120)
set_option maxRecDepth 100000 in
theorem mjm_116 : mj_ckm 116 = true := by decide +kernel
set_option maxRecDepth 100000 in
theorem mjk_117_0 : mj_chunk 117 0 38 = true := by decide +kernel
set_option maxRecDepth 100000 in
theorem mjl_117_0 : mj_chl 117 0 38 = true := by decide +kernel
set_option maxRecDepth 100000 in
theorem mjl_117 : ∀ k, k < mj_len 117 → mj_ckl 117 k = true := mj_l0 mjl_117_0
set_option maxRecDepth 100000 in
theorem mjk_117 : ∀ k, k < mj_len 117 → mj_ckp 117 k = true := mj_ch0 mjk_117_0
set_option maxRecDepth 100000 in
theorem mjm_117 : mj_ckm 117 = true := by decide +kernel
set_option maxRecDepth 100000 in
theorem mjk_118_0 : mj_chunk 118 0 12 = true := by decide +kernel
set_option maxRecDepth 100000 in
theorem mjl_118_0 : mj_chl 118 0 12 = true := by decide +kernel
set_option maxRecDepth 100000 in
theorem mjl_118 : ∀ k, k < mj_len 118 → mj_ckl 118 k = true := mj_l0 mjl_118_0
set_option maxRecDepth 100000 in
theorem mjk_118 : ∀ k, k < mj_len 118 → mj_ckp 118 k = true := mj_ch0 mjk_118_0
set_option maxRecDepth 100000 in
theorem mjm_118 : mj_ckm 118 = true := by decide +kernel
set_option maxRecDepth 100000 in
theorem mjk_119_0 : mj_chunk 119 0 13 = true := by decide +kernel
set_option maxRecDepth 100000 in
theorem mjl_119_0 : mj_chl 119 0 13 = true := by decide +kernel
set_option maxRecDepth 100000 in
theorem mjl_119 : ∀ k, k < mj_len 119 → mj_ckl 119 k = true := mj_l0 mjl_119_0
set_option maxRecDepth 100000 in
theorem mjk_119 : ∀ k, k < mj_len 119 → mj_ckp 119 k = true := mj_ch0 mjk_119_0
set_option maxRecDepth 100000 in
theorem mjm_119 : mj_ckm 119 = true := by decide +kernel
set_option maxRecDepth 100000 in
theorem mjk_120_0 : mj_chunk 120 0 40 = true := by decide +kernel
set_option maxRecDepth 100000 in
theorem mjk_120_40 : mj_chunk 120 40 40 = true := by decide +kernel
set_option maxRecDepth 100000 in
theorem mjk_120_80 : mj_chunk 120 80 40 = true := by decide +kernel
set_option maxRecDepth 100000 in
theorem mjk_120_120 : mj_chunk 120 120 18 = true := by decide +kernel
set_option maxRecDepth 100000 in
theorem mjl_120_0 : mj_chl 120 0 120 = true := by decide +kernel
set_option maxRecDepth 100000 in
theorem mjl_120_120 : mj_chl 120 120 18 = true := by decide +kernel
set_option maxRecDepth 100000 in
theorem mjl_120 : ∀ k, k < mj_len 120 → mj_ckl 120 k = true := mj_lj (mj_l0 mjl_120_0) (mj_lh mjl_120_120)
set_option maxRecDepth 100000 in
theorem mjk_120 : ∀ k, k < mj_len 120 → mj_ckp 120 k = true := mj_cj (mj_cj (mj_cj (mj_ch0 mjk_120_0) (mj_ch mjk_120_40)) (mj_ch mjk_120_80)) (mj_ch mjk_120_120)
set_option maxRecDepth 100000 in
theorem mjm_120 : mj_ckm 120 = true := by decide +kernel
set_option maxRecDepth 100000 in
theorem mjk_121_0 : mj_chunk 121 0 40 = true := by decide +kernel
set_option maxRecDepth 100000 in
theorem mjk_121_40 : mj_chunk 121 40 40 = true := by decide +kernel
set_option maxRecDepth 100000 in
theorem mjk_121_80 : mj_chunk 121 80 4 = true := by decide +kernel
set_option maxRecDepth 100000 in
theorem mjl_121_0 : mj_chl 121 0 84 = true := by decide +kernel
set_option maxRecDepth 100000 in
theorem mjl_121 : ∀ k, k < mj_len 121 → mj_ckl 121 k = true := mj_l0 mjl_121_0
set_option maxRecDepth 100000 in
theorem mjk_121 : ∀ k, k < mj_len 121 → mj_ckp 121 k = true := mj_cj (mj_cj (mj_ch0 mjk_121_0) (mj_ch mjk_121_40)) (mj_ch mjk_121_80)
set_option maxRecDepth 100000 in
theorem mjm_121 : mj_ckm 121 = true := by decide +kernel
set_option maxRecDepth 100000 in
theorem mjk_122_0 : mj_chunk 122 0 40 = true := by decide +kernel
set_option maxRecDepth 100000 in
theorem mjk_122_40 : mj_chunk 122 40 13 = true := by decide +kernel
set_option maxRecDepth 100000 in
theorem mjl_122_0 : mj_chl 122 0 53 = true := by decide +kernel
set_option maxRecDepth 100000 in
theorem mjl_122 : ∀ k, k < mj_len 122 → mj_ckl 122 k = true := mj_l0 mjl_122_0
set_option maxRecDepth 100000 in
theorem mjk_122 : ∀ k, k < mj_len 122 → mj_ckp 122 k = true := mj_cj (mj_ch0 mjk_122_0) (mj_ch mjk_122_40)
set_option maxRecDepth 100000 in
theorem mjm_122 : mj_ckm 122 = true := by decide +kernel
