set_option maxRecDepth 100000 in
theorem mjk_0_0 : mq_fck 0 0 40 = true := by decide +kernel
set_option maxRecDepth 100000 in
theorem mjk_0_40 : mq_fck 0 40 40 = true := by decide +kernel
set_option maxRecDepth 100000 in
theorem mjk_0_80 : mq_fck 0 80 40 = true := by decide +kernel
set_option maxRecDepth 100000 in
theorem mjk_0_120 : mq_fck 0 120 40 = true := by decide +kernel
set_option maxRecDepth 100000 in
theorem mjk_0_160 : mq_fck 0 160 40 = true := by decide +kernel
set_option maxRecDepth 100000 in
theorem mjk_0_200 : mq_fck 0 200 40 = true := by decide +kernel
set_option maxRecDepth 100000 in
theorem mjk_0_240 : mq_fck 0 240 40 = true := by decide +kernel
set_option maxRecDepth 100000 in
theorem mjk_0_280 : mq_fck 0 280 40 = true := by decide +kernel
set_option maxRecDepth 100000 in
theorem mjk_0_320 : mq_fck 0 320 40 = true := by decide +kernel
set_option maxRecDepth 100000 in
theorem mjk_0_360 : mq_fck 0 360 40 = true := by decide +kernel
set_option maxRecDepth 100000 in
theorem mjk_0_400 : mq_fck 0 400 40 = true := by decide +kernel
set_option maxRecDepth 100000 in
theorem mjk_0_440 : mq_fck 0 440 40 = true := by decide +kernel
set_option maxRecDepth 100000 in
theorem mjk_0_480 : mq_fck 0 480 40 = true := by decide +kernel
set_option maxRecDepth 100000 in
theorem mjk_0_520 : mq_fck 0 520 40 = true := by decide +kernel
set_option maxRecDepth 100000 in
theorem mjk_0_560 : mq_fck 0 560 40 = true := by decide +kernel
set_option maxRecDepth 100000 in
theorem mjk_0_600 : mq_fck 0 600 40 = true := by decide +kernel
set_option maxRecDepth 100000 in
theorem mjk_0_640 : mq_fck 0 640 40 = true := by decide +kernel
set_option maxRecDepth 100000 in
theorem mjk_0_680 : mq_fck 0 680 40 = true := by decide +kernel
set_option maxRecDepth 100000 in
theorem mjk_0_720 : mq_fck 0 720 40 = true := by decide +kernel
set_option maxRecDepth 100000 in
theorem mjk_0_760 : mq_fck 0 760 40 = true := by decide +kernel
set_option maxRecDepth 100000 in
theorem mjk_0_800 : mq_fck 0 800 40 = true := by decide +kernel
set_option maxRecDepth 100000 in
theorem mjk_0_840 : mq_fck 0 840 40 = true := by decide +kernel
set_option maxRecDepth 100000 in
theorem mjk_0_880 : mq_fck 0 880 40 = true := by decide +kernel
set_option maxRecDepth 100000 in
theorem mjk_0_920 : mq_fck 0 920 40 = true := by decide +kernel
set_option maxRecDepth 100000 in
theorem mjk_0_960 : mq_fck 0 960 39 = true := by decide +kernel
set_option maxRecDepth 100000 in
theorem mjk_0 : ∀ k, k < mj_len 0 → mq_fp 0 k = true := mq_fc (mq_fc (mq_fc (mq_fc (mq_fc (mq_fc (mq_fc (mq_fc (mq_fc (mq_fc (mq_fc (mq_fc (mq_fc (mq_fc (mq_fc (mq_fc (mq_fc (mq_fc (mq_fc (mq_fc (mq_fc (mq_fc (mq_fc (mq_fc (mq_f0 mjk_0_0) mjk_0_40) mjk_0_80) mjk_0_120) mjk_0_160) mjk_0_200) mjk_0_240) mjk_0_280) mjk_0_320) mjk_0_360) mjk_0_400) mjk_0_440) mjk_0_480) mjk_0_520) mjk_0_560) mjk_0_600) mjk_0_640) mjk_0_680) mjk_0_720) mjk_0_760) mjk_0_800) mjk_0_840) mjk_0_880) mjk_0_920) mjk_0_960
set_option maxRecDepth 100000 in
theorem mjk_1 : mq_fall 1 1 = true := by decide +kernel
set_option maxRecDepth 100000 in
theorem mjk_2_0 : mq_fck 2 0 40 = true := by decide +kernel
set_option maxRecDepth 100000 in
theorem mjk_2_40 : mq_fck 2 40 40 = true := by decide +kernel
set_option maxRecDepth 100000 in
theorem mjk_2_80 : mq_fck 2 80 40 = true := by decide +kernel
set_option maxRecDepth 100000 in
theorem mjk_2_120 : mq_fck 2 120 15 = true := by decide +kernel
set_option maxRecDepth 100000 in
theorem mjk_2 : ∀ k, k < mj_len 2 → mq_fp 2 k = true := mq_fc (mq_fc (mq_fc (mq_f0 mjk_2_0) mjk_2_40) mjk_2_80) mjk_2_120
set_option maxRecDepth 100000 in
theorem mjk_3 : mq_fall 3 1 = true := by decide +kernel
set_option maxRecDepth 100000 in
theorem mjk_4_0 : mq_fck 4 0 40 = true := by decide +kernel
set_option maxRecDepth 100000 in
theorem mjk_4_40 : mq_fck 4 40 40 = true := by decide +kernel
set_option maxRecDepth 100000 in
theorem mjk_4_80 : mq_fck 4 80 12 = true := by decide +kernel
set_option maxRecDepth 100000 in
theorem mjk_4 : ∀ k, k < mj_len 4 → mq_fp 4 k = true := mq_fc (mq_fc (mq_f0 mjk_4_0) mjk_4_40) mjk_4_80
set_option maxRecDepth 100000 in
theorem mjk_5 : mq_fall 5 2 = true := by decide +kernel
set_option maxRecDepth 100000 in
theorem mjk_7 : mq_fall 7 1 = true := by decide +kernel
set_option maxRecDepth 100000 in
theorem mjk_8 : mq_fall 8 1 = true := by decide +kernel
set_option maxRecDepth 100000 in
theorem mjk_9 : mq_fall 9 1 = true := by decide +kernel
set_option maxRecDepth 100000 in
theorem mjk_10 : mq_fall 10 1 = true := by decide +kernel
set_option maxRecDepth 100000 in
theorem mjk_11_0 : mq_fck 11 0 40 = true := by decide +kernel
set_option maxRecDepth 100000 in
theorem mjk_11_40 : mq_fck 11 40 40 = true := by decide +kernel
set_option maxRecDepth 100000 in
theorem mjk_11_80 : mq_fck 11 80 24 = true := by decide +kernel
set_option maxRecDepth 100000 in
theorem mjk_11 : ∀ k, k < mj_len 11 → mq_fp 11 k = true := mq_fc (mq_fc (mq_f0 mjk_11_0) mjk_11_40) mjk_11_80
set_option maxRecDepth 100000 in
theorem mjk_12 : mq_fall 12 4 = true := by decide +kernel
set_option maxRecDepth 100000 in
theorem mjk_16 : mq_fall 16 2 = true := by decide +kernel
set_option maxRecDepth 100000 in
theorem mjk_18 : mq_fall 18 1 = true := by decide +kernel
set_option maxRecDepth 100000 in
theorem mjk_19 : mq_fall 19 2 = true := by decide +kernel
set_option maxRecDepth 100000 in
theorem mjk_21_0 : mq_fck 21 0 40 = true := by decide +kernel
set_option maxRecDepth 100000 in
theorem mjk_21_40 : mq_fck 21 40 40 = true := by decide +kernel
set_option maxRecDepth 100000 in
theorem mjk_21_80 : mq_fck 21 80 30 = true := by decide +kernel
set_option maxRecDepth 100000 in
theorem mjk_21 : ∀ k, k < mj_len 21 → mq_fp 21 k = true := mq_fc (mq_fc (mq_f0 mjk_21_0) mjk_21_40) mjk_21_80
set_option maxRecDepth 100000 in
theorem mjk_22_0 : mq_fck 22 0 40 = true := by decide +kernel
set_option maxRecDepth 100000 in
theorem mjk_22_40 : mq_fck 22 40 40 = true := by decide +kernel
set_option maxRecDepth 100000 in
theorem mjk_22_80 : mq_fck 22 80 28 = true := by decide +kernel
set_option maxRecDepth 100000 in
theorem mjk_22 : ∀ k, k < mj_len 22 → mq_fp 22 k = true := mq_fc (mq_fc (mq_f0 mjk_22_0) mjk_22_40) mjk_22_80
set_option maxRecDepth 100000 in
theorem mjk_23 : mq_fall 23 1 = true := by decide +kernel
set_option maxRecDepth 100000 in
theorem mjk_24 : mq_fall 24 1 = true := by decide +kernel
set_option maxRecDepth 100000 in
theorem mjk_25_0 : mq_fck 25 0 40 = true := by decide +kernel
set_option maxRecDepth 100000 in
theorem mjk_25_40 : mq_fck 25 40 40 = true := by decide +kernel
set_option maxRecDepth 100000 in
theorem mjk_25_80 : mq_fck 25 80 13 = true := by decide +kernel
set_option maxRecDepth 100000 in
theorem mjk_25 : ∀ k, k < mj_len 25 → mq_fp 25 k = true := mq_fc (mq_fc (mq_f0 mjk_25_0) mjk_25_40) mjk_25_80
set_option maxRecDepth 100000 in
theorem mjk_26 : mq_fall 26 2 = true := by decide +kernel
set_option maxRecDepth 100000 in
theorem mjk_28 : mq_fall 28 3 = true := by decide +kernel
set_option maxRecDepth 100000 in
theorem mjk_31 : mq_fall 31 2 = true := by decide +kernel
set_option maxRecDepth 100000 in
theorem mjk_33 : mq_fall 33 1 = true := by decide +kernel
set_option maxRecDepth 100000 in
theorem mjk_34 : mq_fall 34 2 = true := by decide +kernel
set_option maxRecDepth 100000 in
theorem mjk_36 : mq_fall 36 2 = true := by decide +kernel
set_option maxRecDepth 100000 in
theorem mjk_38_0 : mq_fck 38 0 40 = true := by decide +kernel
set_option maxRecDepth 100000 in
theorem mjk_38_40 : mq_fck 38 40 40 = true := by decide +kernel
set_option maxRecDepth 100000 in
theorem mjk_38_80 : mq_fck 38 80 40 = true := by decide +kernel
set_option maxRecDepth 100000 in
theorem mjk_38_120 : mq_fck 38 120 1 = true := by decide +kernel
set_option maxRecDepth 100000 in
theorem mjk_38 : ∀ k, k < mj_len 38 → mq_fp 38 k = true := mq_fc (mq_fc (mq_fc (mq_f0 mjk_38_0) mjk_38_40) mjk_38_80) mjk_38_120
set_option maxRecDepth 100000 in
theorem mjk_39_0 : mq_fck 39 0 40 = true := by decide +kernel
set_option maxRecDepth 100000 in
theorem mjk_39_40 : mq_fck 39 40 40 = true := by decide +kernel
set_option maxRecDepth 100000 in
theorem mjk_39_80 : mq_fck 39 80 40 = true := by decide +kernel
set_option maxRecDepth 100000 in
theorem mjk_39_120 : mq_fck 39 120 10 = true := by decide +kernel
set_option maxRecDepth 100000 in
theorem mjk_39 : ∀ k, k < mj_len 39 → mq_fp 39 k = true := mq_fc (mq_fc (mq_fc (mq_f0 mjk_39_0) mjk_39_40) mjk_39_80) mjk_39_120
set_option maxRecDepth 100000 in
theorem mjk_40 : mq_fall 40 2 = true := by decide +kernel
set_option maxRecDepth 100000 in
theorem mjk_42 : mq_fall 42 3 = true := by decide +kernel
set_option maxRecDepth 100000 in
theorem mjk_45_0 : mq_fck 45 0 40 = true := by decide +kernel
set_option maxRecDepth 100000 in
theorem mjk_45_40 : mq_fck 45 40 40 = true := by decide +kernel
set_option maxRecDepth 100000 in
theorem mjk_45_80 : mq_fck 45 80 40 = true := by decide +kernel
set_option maxRecDepth 100000 in
theorem mjk_45_120 : mq_fck 45 120 40 = true := by decide +kernel
set_option maxRecDepth 100000 in
theorem mjk_45_160 : mq_fck 45 160 28 = true := by decide +kernel
set_option maxRecDepth 100000 in
theorem mjk_45 : ∀ k, k < mj_len 45 → mq_fp 45 k = true := mq_fc (mq_fc (mq_fc (mq_fc (mq_f0 mjk_45_0) mjk_45_40) mjk_45_80) mjk_45_120) mjk_45_160
set_option maxRecDepth 100000 in
theorem mjk_46 : mq_fall 46 2 = true := by decide +kernel
set_option maxRecDepth 100000 in
theorem mjk_48_0 : mq_fck 48 0 40 = true := by decide +kernel
set_option maxRecDepth 100000 in
theorem mjk_48_40 : mq_fck 48 40 40 = true := by decide +kernel
set_option maxRecDepth 100000 in
theorem mjk_48_80 : mq_fck 48 80 23 = true := by decide +kernel
set_option maxRecDepth 100000 in
theorem mjk_48 : ∀ k, k < mj_len 48 → mq_fp 48 k = true := mq_fc (mq_fc (mq_f0 mjk_48_0) mjk_48_40) mjk_48_80
set_option maxRecDepth 100000 in
theorem mjk_49_0 : mq_fck 49 0 40 = true := by decide +kernel
set_option maxRecDepth 100000 in
theorem mjk_49_40 : mq_fck 49 40 40 = true := by decide +kernel
set_option maxRecDepth 100000 in
theorem mjk_49_80 : mq_fck 49 80 37 = true := by decide +kernel
set_option maxRecDepth 100000 in
theorem mjk_49 : ∀ k, k < mj_len 49 → mq_fp 49 k = true := mq_fc (mq_fc (mq_f0 mjk_49_0) mjk_49_40) mjk_49_80
set_option maxRecDepth 100000 in
theorem mjk_50_0 : mq_fck 50 0 40 = true := by decide +kernel
set_option maxRecDepth 100000 in
theorem mjk_50_40 : mq_fck 50 40 40 = true := by decide +kernel
set_option maxRecDepth 100000 in
theorem mjk_50_80 : mq_fck 50 80 40 = true := by decide +kernel
set_option maxRecDepth 100000 in
theorem mjk_50_120 : mq_fck 50 120 12 = true := by decide +kernel
set_option maxRecDepth 100000 in
theorem mjk_50 : ∀ k, k < mj_len 50 → mq_fp 50 k = true := mq_fc (mq_fc (mq_fc (mq_f0 mjk_50_0) mjk_50_40) mjk_50_80) mjk_50_120
set_option maxRecDepth 100000 in
theorem mjk_51 : mq_fall 51 3 = true := by decide +kernel
set_option maxRecDepth 100000 in
theorem mjk_54_0 : mq_fck 54 0 40 = true := by decide +kernel
set_option maxRecDepth 100000 in
theorem mjk_54_40 : mq_fck 54 40 40 = true := by decide +kernel
set_option maxRecDepth 100000 in
theorem mjk_54_80 : mq_fck 54 80 40 = true := by decide +kernel
set_option maxRecDepth 100000 in
theorem mjk_54_120 : mq_fck 54 120 40 = true := by decide +kernel
set_option maxRecDepth 100000 in
theorem mjk_54_160 : mq_fck 54 160 11 = true := by decide +kernel
set_option maxRecDepth 100000 in
theorem mjk_54 : ∀ k, k < mj_len 54 → mq_fp 54 k = true := mq_fc (mq_fc (mq_fc (mq_fc (mq_f0 mjk_54_0) mjk_54_40) mjk_54_80) mjk_54_120) mjk_54_160
set_option maxRecDepth 100000 in
theorem mjk_55_0 : mq_fck 55 0 40 = true := by decide +kernel
set_option maxRecDepth 100000 in
theorem mjk_55_40 : mq_fck 55 40 40 = true := by decide +kernel
set_option maxRecDepth 100000 in
theorem mjk_55_80 : mq_fck 55 80 40 = true := by decide +kernel
set_option maxRecDepth 100000 in
theorem mjk_55_120 : mq_fck 55 120 40 = true := by decide +kernel
set_option maxRecDepth 100000 in
theorem mjk_55_160 : mq_fck 55 160 40 = true := by decide +kernel
set_option maxRecDepth 100000 in
theorem mjk_55_200 : mq_fck 55 200 40 = true := by decide +kernel
set_option maxRecDepth 100000 in
theorem mjk_55_240 : mq_fck 55 240 9 = true := by decide +kernel
set_option maxRecDepth 100000 in
theorem mjk_55 : ∀ k, k < mj_len 55 → mq_fp 55 k = true := mq_fc (mq_fc (mq_fc (mq_fc (mq_fc (mq_fc (mq_f0 mjk_55_0) mjk_55_40) mjk_55_80) mjk_55_120) mjk_55_160) mjk_55_200) mjk_55_240
set_option maxRecDepth 100000 in
theorem mjk_56_0 : mq_fck 56 0 40 = true := by decide +kernel
set_option maxRecDepth 100000 in
theorem mjk_56_40 : mq_fck 56 40 40 = true := by decide +kernel
set_option maxRecDepth 100000 in
theorem mjk_56_80 : mq_fck 56 80 27 = true := by decide +kernel
set_option maxRecDepth 100000 in
theorem mjk_56 : ∀ k, k < mj_len 56 → mq_fp 56 k = true := mq_fc (mq_fc (mq_f0 mjk_56_0) mjk_56_40) mjk_56_80
set_option maxRecDepth 100000 in
theorem mjk_57 : mq_fall 57 2 = true := by decide +kernel
set_option maxRecDepth 100000 in
theorem mjk_59 : mq_fall 59 1 = true := by decide +kernel
set_option maxRecDepth 100000 in
theorem mjk_60 : mq_fall 60 1 = true := by decide +kernel
set_option maxRecDepth 100000 in
theorem mjk_61 : mq_fall 61 1 = true := by decide +kernel
set_option maxRecDepth 100000 in
theorem mjk_62_0 : mq_fck 62 0 40 = true := by decide +kernel
set_option maxRecDepth 100000 in
theorem mjk_62_40 : mq_fck 62 40 40 = true := by decide +kernel
set_option maxRecDepth 100000 in
theorem mjk_62_80 : mq_fck 62 80 37 = true := by decide +kernel
set_option maxRecDepth 100000 in
theorem mjk_62 : ∀ k, k < mj_len 62 → mq_fp 62 k = true := mq_fc (mq_fc (mq_f0 mjk_62_0) mjk_62_40) mjk_62_80
set_option maxRecDepth 100000 in
theorem mjk_63 : mq_fall 63 1 = true := by decide +kernel
set_option maxRecDepth 100000 in
theorem mjk_64 : mq_fall 64 2 = true := by decide +kernel
set_option maxRecDepth 100000 in
theorem mjk_66_0 : mq_fck 66 0 40 = true := by decide +kernel
set_option maxRecDepth 100000 in
theorem mjk_66_40 : mq_fck 66 40 40 = true := by decide +kernel
set_option maxRecDepth 100000 in
theorem mjk_66_80 : mq_fck 66 80 40 = true := by decide +kernel
set_option maxRecDepth 100000 in
theorem mjk_66_120 : mq_fck 66 120 40 = true := by decide +kernel
set_option maxRecDepth 100000 in
theorem mjk_66_160 : mq_fck 66 160 29 = true := by decide +kernel
set_option maxRecDepth 100000 in
theorem mjk_66 : ∀ k, k < mj_len 66 → mq_fp 66 k = true := mq_fc (mq_fc (mq_fc (mq_fc (mq_f0 mjk_66_0) mjk_66_40) mjk_66_80) mjk_66_120) mjk_66_160
set_option maxRecDepth 100000 in
theorem mjk_67_0 : mq_fck 67 0 40 = true := by decide +kernel
set_option maxRecDepth 100000 in
theorem mjk_67_40 : mq_fck 67 40 40 = true := by decide +kernel
set_option maxRecDepth 100000 in
theorem mjk_67_80 : mq_fck 67 80 40 = true := by decide +kernel
set_option maxRecDepth 100000 in
theorem mjk_67_120 : mq_fck 67 120 40 = true := by decide +kernel
set_option maxRecDepth 100000 in
theorem mjk_67_160 : mq_fck 67 160 4 = true := by decide +kernel
set_option maxRecDepth 100000 in
theorem mjk_67 : ∀ k, k < mj_len 67 → mq_fp 67 k = true := mq_fc (mq_fc (mq_fc (mq_fc (mq_f0 mjk_67_0) mjk_67_40) mjk_67_80) mjk_67_120) mjk_67_160
set_option maxRecDepth 100000 in
theorem mjk_68 : mq_fall 68 2 = true := by decide +kernel
set_option maxRecDepth 100000 in
theorem mjk_70 : mq_fall 70 1 = true := by decide +kernel
set_option maxRecDepth 100000 in
theorem mjk_71 : mq_fall 71 1 = true := by decide +kernel
set_option maxRecDepth 100000 in
theorem mjk_72_0 : mq_fck 72 0 40 = true := by decide +kernel
set_option maxRecDepth 100000 in
theorem mjk_72_40 : mq_fck 72 40 40 = true := by decide +kernel
set_option maxRecDepth 100000 in
theorem mjk_72_80 : mq_fck 72 80 17 = true := by decide +kernel
set_option maxRecDepth 100000 in
theorem mjk_72 : ∀ k, k < mj_len 72 → mq_fp 72 k = true := mq_fc (mq_fc (mq_f0 mjk_72_0) mjk_72_40) mjk_72_80
set_option maxRecDepth 100000 in
theorem mjk_73 : mq_fall 73 3 = true := by decide +kernel
set_option maxRecDepth 100000 in
theorem mjk_76 : mq_fall 76 2 = true := by decide +kernel
set_option maxRecDepth 100000 in
theorem mjk_78 : mq_fall 78 1 = true := by decide +kernel
set_option maxRecDepth 100000 in
theorem mjk_79_0 : mq_fck 79 0 40 = true := by decide +kernel
set_option maxRecDepth 100000 in
theorem mjk_79_40 : mq_fck 79 40 40 = true := by decide +kernel
set_option maxRecDepth 100000 in
theorem mjk_79_80 : mq_fck 79 80 40 = true := by decide +kernel
set_option maxRecDepth 100000 in
theorem mjk_79_120 : mq_fck 79 120 40 = true := by decide +kernel
set_option maxRecDepth 100000 in
theorem mjk_79_160 : mq_fck 79 160 1 = true := by decide +kernel
set_option maxRecDepth 100000 in
theorem mjk_79 : ∀ k, k < mj_len 79 → mq_fp 79 k = true := mq_fc (mq_fc (mq_fc (mq_fc (mq_f0 mjk_79_0) mjk_79_40) mjk_79_80) mjk_79_120) mjk_79_160
set_option maxRecDepth 100000 in
theorem mjk_80_0 : mq_fck 80 0 40 = true := by decide +kernel
set_option maxRecDepth 100000 in
theorem mjk_80_40 : mq_fck 80 40 40 = true := by decide +kernel
set_option maxRecDepth 100000 in
theorem mjk_80_80 : mq_fck 80 80 33 = true := by decide +kernel
set_option maxRecDepth 100000 in
theorem mjk_80 : ∀ k, k < mj_len 80 → mq_fp 80 k = true := mq_fc (mq_fc (mq_f0 mjk_80_0) mjk_80_40) mjk_80_80
set_option maxRecDepth 100000 in
theorem mjk_81 : mq_fall 81 3 = true := by decide +kernel
set_option maxRecDepth 100000 in
theorem mjk_84 : mq_fall 84 3 = true := by decide +kernel
set_option maxRecDepth 100000 in
theorem mjk_87 : mq_fall 87 2 = true := by decide +kernel
set_option maxRecDepth 100000 in
theorem mjk_89 : mq_fall 89 2 = true := by decide +kernel
set_option maxRecDepth 100000 in
theorem mjk_91 : mq_fall 91 1 = true := by decide +kernel
set_option maxRecDepth 100000 in
theorem mjk_92_0 : mq_fck 92 0 40 = true := by decide +kernel
set_option maxRecDepth 100000 in
theorem mjk_92_40 : mq_fck 92 40 40 = true := by decide +kernel
set_option maxRecDepth 100000 in
theorem mjk_92_80 : mq_fck 92 80 40 = true := by decide +kernel
set_option maxRecDepth 100000 in
theorem mjk_92_120 : mq_fck 92 120 40 = true := by decide +kernel
set_option maxRecDepth 100000 in
theorem mjk_92_160 : mq_fck 92 160 40 = true := by decide +kernel
set_option maxRecDepth 100000 in
theorem mjk_92_200 : mq_fck 92 200 40 = true := by decide +kernel
set_option maxRecDepth 100000 in
theorem mjk_92 : ∀ k, k < mj_len 92 → mq_fp 92 k = true := mq_fc (mq_fc (mq_fc (mq_fc (mq_fc (mq_f0 mjk_92_0) mjk_92_40) mjk_92_80) mjk_92_120) mjk_92_160) mjk_92_200
set_option maxRecDepth 100000 in
theorem mjk_93 : mq_fall 93 3 = true := by decide +kernel
set_option maxRecDepth 100000 in
theorem mjk_96 : mq_fall 96 1 = true := by decide +kernel
set_option maxRecDepth 100000 in
theorem mjk_97_0 : mq_fck 97 0 40 = true := by decide +kernel
set_option maxRecDepth 100000 in
theorem mjk_97_40 : mq_fck 97 40 40 = true := by decide +kernel
set_option maxRecDepth 100000 in
theorem mjk_97_80 : mq_fck 97 80 40 = true := by decide +kernel
set_option maxRecDepth 100000 in
theorem mjk_97_120 : mq_fck 97 120 40 = true := by decide +kernel
set_option maxRecDepth 100000 in
theorem mjk_97_160 : mq_fck 97 160 7 = true := by decide +kernel
set_option maxRecDepth 100000 in
theorem mjk_97 : ∀ k, k < mj_len 97 → mq_fp 97 k = true := mq_fc (mq_fc (mq_fc (mq_fc (mq_f0 mjk_97_0) mjk_97_40) mjk_97_80) mjk_97_120) mjk_97_160
set_option maxRecDepth 100000 in
theorem mjk_98_0 : mq_fck 98 0 40 = true := by decide +kernel
set_option maxRecDepth 100000 in
theorem mjk_98_40 : mq_fck 98 40 40 = true := by decide +kernel
set_option maxRecDepth 100000 in
theorem mjk_98_80 : mq_fck 98 80 11 = true := by decide +kernel
set_option maxRecDepth 100000 in
theorem mjk_98 : ∀ k, k < mj_len 98 → mq_fp 98 k = true := mq_fc (mq_fc (mq_f0 mjk_98_0) mjk_98_40) mjk_98_80
set_option maxRecDepth 100000 in
theorem mjk_99 : mq_fall 99 2 = true := by decide +kernel
set_option maxRecDepth 100000 in
theorem mjk_101 : mq_fall 101 1 = true := by decide +kernel
set_option maxRecDepth 100000 in
theorem mjk_102_0 : mq_fck 102 0 40 = true := by decide +kernel
set_option maxRecDepth 100000 in
theorem mjk_102_40 : mq_fck 102 40 40 = true := by decide +kernel
set_option maxRecDepth 100000 in
theorem mjk_102_80 : mq_fck 102 80 39 = true := by decide +kernel
set_option maxRecDepth 100000 in
theorem mjk_102 : ∀ k, k < mj_len 102 → mq_fp 102 k = true := mq_fc (mq_fc (mq_f0 mjk_102_0) mjk_102_40) mjk_102_80
set_option maxRecDepth 100000 in
theorem mjk_103 : mq_fall 103 1 = true := by decide +kernel
set_option maxRecDepth 100000 in
theorem mjk_104 : mq_fall 104 1 = true := by decide +kernel
set_option maxRecDepth 100000 in
theorem mjk_105 : mq_fall 105 1 = true := by decide +kernel
set_option maxRecDepth 100000 in
theorem mjk_106 : mq_fall 106 2 = true := by decide +kernel
set_option maxRecDepth 100000 in
theorem mjk_108 : mq_fall 108 3 = true := by decide +kernel
set_option maxRecDepth 100000 in
theorem mjk_111 : mq_fall 111 2 = true := by decide +kernel
set_option maxRecDepth 100000 in
theorem mjk_113 : mq_fall 113 2 = true := by decide +kernel
set_option maxRecDepth 100000 in
theorem mjk_115 : mq_fall 115 1 = true := by decide +kernel
set_option maxRecDepth 100000 in
theorem mjk_116_0 : mq_fck 116 0 40 = true := by decide +kernel
set_option maxRecDepth 100000 in
theorem mjk_116_40 : mq_fck 116 40 40 = true := by decide +kernel
set_option maxRecDepth 100000 in
theorem mjk_116_80 : mq_fck 116 80 40 = true := by decide +kernel
set_option maxRecDepth 100000 in
theorem mjk_116_120 : mq_fck 116 120 2 = true := by decide +kernel
set_option maxRecDepth 100000 in
theorem mjk_116 : ∀ k, k < mj_len 116 → mq_fp 116 k = true := mq_fc (mq_fc (mq_fc (mq_f0 mjk_116_0) mjk_116_40) mjk_116_80) mjk_116_120
set_option maxRecDepth 100000 in
theorem mjk_117 : mq_fall 117 3 = true := by decide +kernel
set_option maxRecDepth 100000 in
theorem mjk_120_0 : mq_fck 120 0 40 = true := by decide +kernel
set_option maxRecDepth 100000 in
theorem mjk_120_40 : mq_fck 120 40 40 = true := by decide +kernel
set_option maxRecDepth 100000 in
theorem mjk_120_80 : mq_fck 120 80 40 = true := by decide +kernel
set_option maxRecDepth 100000 in
theorem mjk_120_120 : mq_fck 120 120 18 = true := by decide +kernel
set_option maxRecDepth 100000 in
theorem mjk_120 : ∀ k, k < mj_len 120 → mq_fp 120 k = true := mq_fc (mq_fc (mq_fc (mq_f0 mjk_120_0) mjk_120_40) mjk_120_80) mjk_120_120
set_option maxRecDepth 100000 in
theorem mjk_121_0 : mq_fck 121 0 40 = true := by decide +kernel
set_option maxRecDepth 100000 in
theorem mjk_121_40 : mq_fck 121 40 40 = true := by decide +kernel
set_option maxRecDepth 100000 in
theorem mjk_121_80 : mq_fck 121 80 4 = true := by decide +kernel
set_option maxRecDepth 100000 in
theorem mjk_121 : ∀ k, k < mj_len 121 → mq_fp 121 k = true := mq_fc (mq_fc (mq_f0 mjk_121_0) mjk_121_40) mjk_121_80
set_option maxRecDepth 100000 in
theorem mjk_122 : mq_fall 122 2 = true := by decide +kernel
set_option maxRecDepth 100000 in
theorem mjk_124 : mq_fall 124 4 = true := by decide +kernel
set_option maxRecDepth 100000 in
theorem mjk_128_0 : mq_fck 128 0 40 = true := by decide +kernel
set_option maxRecDepth 100000 in
theorem mjk_128_40 : mq_fck 128 40 40 = true := by decide +kernel
set_option maxRecDepth 100000 in
theorem mjk_128_80 : mq_fck 128 80 36 = true := by decide +kernel
set_option maxRecDepth 100000 in
theorem mjk_128 : ∀ k, k < mj_len 128 → mq_fp 128 k = true := mq_fc (mq_fc (mq_f0 mjk_128_0) mjk_128_40) mjk_128_80
set_option maxRecDepth 100000 in
theorem mjk_129 : mq_fall 129 2 = true := by decide +kernel
set_option maxRecDepth 100000 in
theorem mjk_131 : mq_fall 131 1 = true := by decide +kernel
set_option maxRecDepth 100000 in
theorem mjk_132_0 : mq_fck 132 0 40 = true := by decide +kernel
set_option maxRecDepth 100000 in
theorem mjk_132_40 : mq_fck 132 40 40 = true := by decide +kernel
set_option maxRecDepth 100000 in
theorem mjk_132_80 : mq_fck 132 80 15 = true := by decide +kernel
set_option maxRecDepth 100000 in
theorem mjk_132 : ∀ k, k < mj_len 132 → mq_fp 132 k = true := mq_fc (mq_fc (mq_f0 mjk_132_0) mjk_132_40) mjk_132_80
set_option maxRecDepth 100000 in
theorem mjk_133 : mq_fall 133 1 = true := by decide +kernel
set_option maxRecDepth 100000 in
theorem mjk_134_0 : mq_fck 134 0 40 = true := by decide +kernel
set_option maxRecDepth 100000 in
theorem mjk_134_40 : mq_fck 134 40 40 = true := by decide +kernel
set_option maxRecDepth 100000 in
theorem mjk_134_80 : mq_fck 134 80 40 = true := by decide +kernel
set_option maxRecDepth 100000 in
theorem mjk_134_120 : mq_fck 134 120 3 = true := by decide +kernel
set_option maxRecDepth 100000 in
theorem mjk_134 : ∀ k, k < mj_len 134 → mq_fp 134 k = true := mq_fc (mq_fc (mq_fc (mq_f0 mjk_134_0) mjk_134_40) mjk_134_80) mjk_134_120
set_option maxRecDepth 100000 in
theorem mjk_135 : mq_fall 135 2 = true := by decide +kernel
set_option maxRecDepth 100000 in
theorem mjk_137 : mq_fall 137 2 = true := by decide +kernel
set_option maxRecDepth 100000 in
theorem mjk_139_0 : mq_fck 139 0 40 = true := by decide +kernel
set_option maxRecDepth 100000 in
theorem mjk_139_40 : mq_fck 139 40 40 = true := by decide +kernel
set_option maxRecDepth 100000 in
theorem mjk_139_80 : mq_fck 139 80 40 = true := by decide +kernel
set_option maxRecDepth 100000 in
theorem mjk_139_120 : mq_fck 139 120 40 = true := by decide +kernel
set_option maxRecDepth 100000 in
theorem mjk_139_160 : mq_fck 139 160 18 = true := by decide +kernel
set_option maxRecDepth 100000 in
theorem mjk_139 : ∀ k, k < mj_len 139 → mq_fp 139 k = true := mq_fc (mq_fc (mq_fc (mq_fc (mq_f0 mjk_139_0) mjk_139_40) mjk_139_80) mjk_139_120) mjk_139_160
set_option maxRecDepth 100000 in
theorem mjk_140 : mq_fall 140 3 = true := by decide +kernel
set_option maxRecDepth 100000 in
theorem mjk_143 : mq_fall 143 1 = true := by decide +kernel
set_option maxRecDepth 100000 in
theorem mjk_144 : mq_fall 144 1 = true := by decide +kernel
set_option maxRecDepth 100000 in
theorem mjk_145 : mq_fall 145 1 = true := by decide +kernel
set_option maxRecDepth 100000 in
theorem mjk_146_0 : mq_fck 146 0 40 = true := by decide +kernel
set_option maxRecDepth 100000 in
theorem mjk_146_40 : mq_fck 146 40 40 = true := by decide +kernel
set_option maxRecDepth 100000 in
theorem mjk_146_80 : mq_fck 146 80 20 = true := by decide +kernel
set_option maxRecDepth 100000 in
theorem mjk_146 : ∀ k, k < mj_len 146 → mq_fp 146 k = true := mq_fc (mq_fc (mq_f0 mjk_146_0) mjk_146_40) mjk_146_80
set_option maxRecDepth 100000 in
theorem mjk_147 : mq_fall 147 1 = true := by decide +kernel
set_option maxRecDepth 100000 in
theorem mjk_148_0 : mq_fck 148 0 40 = true := by decide +kernel
set_option maxRecDepth 100000 in
theorem mjk_148_40 : mq_fck 148 40 40 = true := by decide +kernel
set_option maxRecDepth 100000 in
theorem mjk_148_80 : mq_fck 148 80 40 = true := by decide +kernel
set_option maxRecDepth 100000 in
theorem mjk_148_120 : mq_fck 148 120 40 = true := by decide +kernel
set_option maxRecDepth 100000 in
theorem mjk_148_160 : mq_fck 148 160 40 = true := by decide +kernel
set_option maxRecDepth 100000 in
theorem mjk_148_200 : mq_fck 148 200 16 = true := by decide +kernel
set_option maxRecDepth 100000 in
theorem mjk_148 : ∀ k, k < mj_len 148 → mq_fp 148 k = true := mq_fc (mq_fc (mq_fc (mq_fc (mq_fc (mq_f0 mjk_148_0) mjk_148_40) mjk_148_80) mjk_148_120) mjk_148_160) mjk_148_200
set_option maxRecDepth 100000 in
theorem mjk_149_0 : mq_fck 149 0 40 = true := by decide +kernel
set_option maxRecDepth 100000 in
theorem mjk_149_40 : mq_fck 149 40 40 = true := by decide +kernel
set_option maxRecDepth 100000 in
theorem mjk_149_80 : mq_fck 149 80 40 = true := by decide +kernel
set_option maxRecDepth 100000 in
theorem mjk_149_120 : mq_fck 149 120 40 = true := by decide +kernel
set_option maxRecDepth 100000 in
theorem mjk_149_160 : mq_fck 149 160 40 = true := by decide +kernel
set_option maxRecDepth 100000 in
theorem mjk_149_200 : mq_fck 149 200 36 = true := by decide +kernel
set_option maxRecDepth 100000 in
theorem mjk_149 : ∀ k, k < mj_len 149 → mq_fp 149 k = true := mq_fc (mq_fc (mq_fc (mq_fc (mq_fc (mq_f0 mjk_149_0) mjk_149_40) mjk_149_80) mjk_149_120) mjk_149_160) mjk_149_200
set_option maxRecDepth 100000 in
theorem mjk_150 : mq_fall 150 2 = true := by decide +kernel
set_option maxRecDepth 100000 in
theorem mjk_152 : mq_fall 152 1 = true := by decide +kernel
set_option maxRecDepth 100000 in
theorem mjk_153_0 : mq_fck 153 0 40 = true := by decide +kernel
set_option maxRecDepth 100000 in
theorem mjk_153_40 : mq_fck 153 40 40 = true := by decide +kernel
set_option maxRecDepth 100000 in
theorem mjk_153_80 : mq_fck 153 80 40 = true := by decide +kernel
set_option maxRecDepth 100000 in
theorem mjk_153_120 : mq_fck 153 120 2 = true := by decide +kernel
set_option maxRecDepth 100000 in
theorem mjk_153 : ∀ k, k < mj_len 153 → mq_fp 153 k = true := mq_fc (mq_fc (mq_fc (mq_f0 mjk_153_0) mjk_153_40) mjk_153_80) mjk_153_120
set_option maxRecDepth 100000 in
theorem mjk_154_0 : mq_fck 154 0 40 = true := by decide +kernel
set_option maxRecDepth 100000 in
theorem mjk_154_40 : mq_fck 154 40 40 = true := by decide +kernel
set_option maxRecDepth 100000 in
theorem mjk_154_80 : mq_fck 154 80 40 = true := by decide +kernel
set_option maxRecDepth 100000 in
theorem mjk_154_120 : mq_fck 154 120 40 = true := by decide +kernel
set_option maxRecDepth 100000 in
theorem mjk_154_160 : mq_fck 154 160 6 = true := by decide +kernel
set_option maxRecDepth 100000 in
theorem mjk_154 : ∀ k, k < mj_len 154 → mq_fp 154 k = true := mq_fc (mq_fc (mq_fc (mq_fc (mq_f0 mjk_154_0) mjk_154_40) mjk_154_80) mjk_154_120) mjk_154_160
set_option maxRecDepth 100000 in
theorem mjk_155 : mq_fall 155 2 = true := by decide +kernel
set_option maxRecDepth 100000 in
theorem mjk_157_0 : mq_fck 157 0 40 = true := by decide +kernel
set_option maxRecDepth 100000 in
theorem mjk_157_40 : mq_fck 157 40 40 = true := by decide +kernel
set_option maxRecDepth 100000 in
theorem mjk_157_80 : mq_fck 157 80 29 = true := by decide +kernel
set_option maxRecDepth 100000 in
theorem mjk_157 : ∀ k, k < mj_len 157 → mq_fp 157 k = true := mq_fc (mq_fc (mq_f0 mjk_157_0) mjk_157_40) mjk_157_80
set_option maxRecDepth 100000 in
theorem mjk_158 : mq_fall 158 2 = true := by decide +kernel
set_option maxRecDepth 100000 in
theorem mjk_160 : mq_fall 160 2 = true := by decide +kernel
set_option maxRecDepth 100000 in
theorem mjk_162 : mq_fall 162 1 = true := by decide +kernel
set_option maxRecDepth 100000 in
theorem mjk_163_0 : mq_fck 163 0 40 = true := by decide +kernel
set_option maxRecDepth 100000 in
theorem mjk_163_40 : mq_fck 163 40 40 = true := by decide +kernel
set_option maxRecDepth 100000 in
theorem mjk_163_80 : mq_fck 163 80 40 = true := by decide +kernel
set_option maxRecDepth 100000 in
theorem mjk_163_120 : mq_fck 163 120 37 = true := by decide +kernel
set_option maxRecDepth 100000 in
theorem mjk_163 : ∀ k, k < mj_len 163 → mq_fp 163 k = true := mq_fc (mq_fc (mq_fc (mq_f0 mjk_163_0) mjk_163_40) mjk_163_80) mjk_163_120
set_option maxRecDepth 100000 in
theorem mjk_164 : mq_fall 164 1 = true := by decide +kernel
set_option maxRecDepth 100000 in
theorem mjk_165_0 : mq_fck 165 0 40 = true := by decide +kernel
set_option maxRecDepth 100000 in
theorem mjk_165_40 : mq_fck 165 40 40 = true := by decide +kernel
set_option maxRecDepth 100000 in
theorem mjk_165_80 : mq_fck 165 80 40 = true := by decide +kernel
set_option maxRecDepth 100000 in
theorem mjk_165_120 : mq_fck 165 120 40 = true := by decide +kernel
set_option maxRecDepth 100000 in
theorem mjk_165_160 : mq_fck 165 160 40 = true := by decide +kernel
set_option maxRecDepth 100000 in
theorem mjk_165_200 : mq_fck 165 200 8 = true := by decide +kernel
set_option maxRecDepth 100000 in
theorem mjk_165 : ∀ k, k < mj_len 165 → mq_fp 165 k = true := mq_fc (mq_fc (mq_fc (mq_fc (mq_fc (mq_f0 mjk_165_0) mjk_165_40) mjk_165_80) mjk_165_120) mjk_165_160) mjk_165_200
set_option maxRecDepth 100000 in
theorem mjk_166_0 : mq_fck 166 0 40 = true := by decide +kernel
set_option maxRecDepth 100000 in
theorem mjk_166_40 : mq_fck 166 40 40 = true := by decide +kernel
set_option maxRecDepth 100000 in
theorem mjk_166_80 : mq_fck 166 80 40 = true := by decide +kernel
set_option maxRecDepth 100000 in
theorem mjk_166_120 : mq_fck 166 120 40 = true := by decide +kernel
set_option maxRecDepth 100000 in
theorem mjk_166_160 : mq_fck 166 160 30 = true := by decide +kernel
set_option maxRecDepth 100000 in
theorem mjk_166 : ∀ k, k < mj_len 166 → mq_fp 166 k = true := mq_fc (mq_fc (mq_fc (mq_fc (mq_f0 mjk_166_0) mjk_166_40) mjk_166_80) mjk_166_120) mjk_166_160
set_option maxRecDepth 100000 in
theorem mjk_167_0 : mq_fck 167 0 40 = true := by decide +kernel
set_option maxRecDepth 100000 in
theorem mjk_167_40 : mq_fck 167 40 40 = true := by decide +kernel
set_option maxRecDepth 100000 in
theorem mjk_167_80 : mq_fck 167 80 40 = true := by decide +kernel
set_option maxRecDepth 100000 in
theorem mjk_167_120 : mq_fck 167 120 40 = true := by decide +kernel
set_option maxRecDepth 100000 in
theorem mjk_167_160 : mq_fck 167 160 40 = true := by decide +kernel
set_option maxRecDepth 100000 in
theorem mjk_167_200 : mq_fck 167 200 40 = true := by decide +kernel
set_option maxRecDepth 100000 in
theorem mjk_167_240 : mq_fck 167 240 40 = true := by decide +kernel
set_option maxRecDepth 100000 in
theorem mjk_167_280 : mq_fck 167 280 40 = true := by decide +kernel
set_option maxRecDepth 100000 in
theorem mjk_167_320 : mq_fck 167 320 27 = true := by decide +kernel
set_option maxRecDepth 100000 in
theorem mjk_167 : ∀ k, k < mj_len 167 → mq_fp 167 k = true := mq_fc (mq_fc (mq_fc (mq_fc (mq_fc (mq_fc (mq_fc (mq_fc (mq_f0 mjk_167_0) mjk_167_40) mjk_167_80) mjk_167_120) mjk_167_160) mjk_167_200) mjk_167_240) mjk_167_280) mjk_167_320
set_option maxRecDepth 100000 in
theorem mjk_168 : mq_fall 168 2 = true := by decide +kernel
set_option maxRecDepth 100000 in
theorem mjk_170_0 : mq_fck 170 0 40 = true := by decide +kernel
set_option maxRecDepth 100000 in
theorem mjk_170_40 : mq_fck 170 40 40 = true := by decide +kernel
set_option maxRecDepth 100000 in
theorem mjk_170_80 : mq_fck 170 80 13 = true := by decide +kernel
set_option maxRecDepth 100000 in
theorem mjk_170 : ∀ k, k < mj_len 170 → mq_fp 170 k = true := mq_fc (mq_fc (mq_f0 mjk_170_0) mjk_170_40) mjk_170_80
set_option maxRecDepth 100000 in
theorem mjk_171 : mq_fall 171 1 = true := by decide +kernel
set_option maxRecDepth 100000 in
theorem mjk_172 : mq_fall 172 1 = true := by decide +kernel
set_option maxRecDepth 100000 in
theorem mjk_173_0 : mq_fck 173 0 40 = true := by decide +kernel
set_option maxRecDepth 100000 in
theorem mjk_173_40 : mq_fck 173 40 40 = true := by decide +kernel
set_option maxRecDepth 100000 in
theorem mjk_173_80 : mq_fck 173 80 37 = true := by decide +kernel
set_option maxRecDepth 100000 in
theorem mjk_173 : ∀ k, k < mj_len 173 → mq_fp 173 k = true := mq_fc (mq_fc (mq_f0 mjk_173_0) mjk_173_40) mjk_173_80
set_option maxRecDepth 100000 in
theorem mjk_174 : mq_fall 174 2 = true := by decide +kernel
set_option maxRecDepth 100000 in
theorem mjk_176 : mq_fall 176 2 = true := by decide +kernel
set_option maxRecDepth 100000 in
theorem mjk_178 : mq_fall 178 1 = true := by decide +kernel
set_option maxRecDepth 100000 in
theorem mjk_179_0 : mq_fck 179 0 40 = true := by decide +kernel
set_option maxRecDepth 100000 in
theorem mjk_179_40 : mq_fck 179 40 40 = true := by decide +kernel
set_option maxRecDepth 100000 in
theorem mjk_179_80 : mq_fck 179 80 13 = true := by decide +kernel
set_option maxRecDepth 100000 in
theorem mjk_179 : ∀ k, k < mj_len 179 → mq_fp 179 k = true := mq_fc (mq_fc (mq_f0 mjk_179_0) mjk_179_40) mjk_179_80
set_option maxRecDepth 100000 in
theorem mjk_180 : mq_fall 180 2 = true := by decide +kernel
set_option maxRecDepth 100000 in
theorem mjk_182 : mq_fall 182 1 = true := by decide +kernel
set_option maxRecDepth 100000 in
theorem mjk_183 : mq_fall 183 1 = true := by decide +kernel
set_option maxRecDepth 100000 in
theorem mjk_184_0 : mq_fck 184 0 40 = true := by decide +kernel
set_option maxRecDepth 100000 in
theorem mjk_184_40 : mq_fck 184 40 40 = true := by decide +kernel
set_option maxRecDepth 100000 in
theorem mjk_184_80 : mq_fck 184 80 40 = true := by decide +kernel
set_option maxRecDepth 100000 in
theorem mjk_184_120 : mq_fck 184 120 6 = true := by decide +kernel
set_option maxRecDepth 100000 in
theorem mjk_184 : ∀ k, k < mj_len 184 → mq_fp 184 k = true := mq_fc (mq_fc (mq_fc (mq_f0 mjk_184_0) mjk_184_40) mjk_184_80) mjk_184_120
set_option maxRecDepth 100000 in
theorem mjk_185_0 : mq_fck 185 0 40 = true := by decide +kernel
set_option maxRecDepth 100000 in
theorem mjk_185_40 : mq_fck 185 40 40 = true := by decide +kernel
set_option maxRecDepth 100000 in
theorem mjk_185_80 : mq_fck 185 80 40 = true := by decide +kernel
set_option maxRecDepth 100000 in
theorem mjk_185_120 : mq_fck 185 120 4 = true := by decide +kernel
set_option maxRecDepth 100000 in
theorem mjk_185 : ∀ k, k < mj_len 185 → mq_fp 185 k = true := mq_fc (mq_fc (mq_fc (mq_f0 mjk_185_0) mjk_185_40) mjk_185_80) mjk_185_120
set_option maxRecDepth 100000 in
theorem mjk_186 : mq_fall 186 3 = true := by decide +kernel
set_option maxRecDepth 100000 in
theorem mjk_189_0 : mq_fck 189 0 40 = true := by decide +kernel
set_option maxRecDepth 100000 in
theorem mjk_189_40 : mq_fck 189 40 40 = true := by decide +kernel
set_option maxRecDepth 100000 in
theorem mjk_189_80 : mq_fck 189 80 40 = true := by decide +kernel
set_option maxRecDepth 100000 in
theorem mjk_189_120 : mq_fck 189 120 20 = true := by decide +kernel
set_option maxRecDepth 100000 in
theorem mjk_189 : ∀ k, k < mj_len 189 → mq_fp 189 k = true := mq_fc (mq_fc (mq_fc (mq_f0 mjk_189_0) mjk_189_40) mjk_189_80) mjk_189_120
set_option maxRecDepth 100000 in
theorem mjk_190_0 : mq_fck 190 0 40 = true := by decide +kernel
set_option maxRecDepth 100000 in
theorem mjk_190_40 : mq_fck 190 40 40 = true := by decide +kernel
set_option maxRecDepth 100000 in
theorem mjk_190_80 : mq_fck 190 80 36 = true := by decide +kernel
set_option maxRecDepth 100000 in
theorem mjk_190 : ∀ k, k < mj_len 190 → mq_fp 190 k = true := mq_fc (mq_fc (mq_f0 mjk_190_0) mjk_190_40) mjk_190_80
set_option maxRecDepth 100000 in
theorem mjk_191_0 : mq_fck 191 0 40 = true := by decide +kernel
set_option maxRecDepth 100000 in
theorem mjk_191_40 : mq_fck 191 40 40 = true := by decide +kernel
set_option maxRecDepth 100000 in
theorem mjk_191_80 : mq_fck 191 80 40 = true := by decide +kernel
set_option maxRecDepth 100000 in
theorem mjk_191_120 : mq_fck 191 120 40 = true := by decide +kernel
set_option maxRecDepth 100000 in
theorem mjk_191_160 : mq_fck 191 160 40 = true := by decide +kernel
set_option maxRecDepth 100000 in
theorem mjk_191_200 : mq_fck 191 200 8 = true := by decide +kernel
set_option maxRecDepth 100000 in
theorem mjk_191 : ∀ k, k < mj_len 191 → mq_fp 191 k = true := mq_fc (mq_fc (mq_fc (mq_fc (mq_fc (mq_f0 mjk_191_0) mjk_191_40) mjk_191_80) mjk_191_120) mjk_191_160) mjk_191_200
set_option maxRecDepth 100000 in
theorem mjk_192 : mq_fall 192 1 = true := by decide +kernel
set_option maxRecDepth 100000 in
theorem mjk_193_0 : mq_fck 193 0 40 = true := by decide +kernel
set_option maxRecDepth 100000 in
theorem mjk_193_40 : mq_fck 193 40 40 = true := by decide +kernel
set_option maxRecDepth 100000 in
theorem mjk_193_80 : mq_fck 193 80 16 = true := by decide +kernel
set_option maxRecDepth 100000 in
theorem mjk_193 : ∀ k, k < mj_len 193 → mq_fp 193 k = true := mq_fc (mq_fc (mq_f0 mjk_193_0) mjk_193_40) mjk_193_80
set_option maxRecDepth 100000 in
theorem mjk_194 : mq_fall 194 1 = true := by decide +kernel
set_option maxRecDepth 100000 in
theorem mjk_195 : mq_fall 195 2 = true := by decide +kernel
set_option maxRecDepth 100000 in
theorem mjk_197_0 : mq_fck 197 0 40 = true := by decide +kernel
set_option maxRecDepth 100000 in
theorem mjk_197_40 : mq_fck 197 40 40 = true := by decide +kernel
set_option maxRecDepth 100000 in
theorem mjk_197_80 : mq_fck 197 80 40 = true := by decide +kernel
set_option maxRecDepth 100000 in
theorem mjk_197_120 : mq_fck 197 120 35 = true := by decide +kernel
set_option maxRecDepth 100000 in
theorem mjk_197 : ∀ k, k < mj_len 197 → mq_fp 197 k = true := mq_fc (mq_fc (mq_fc (mq_f0 mjk_197_0) mjk_197_40) mjk_197_80) mjk_197_120
set_option maxRecDepth 100000 in
theorem mjk_198 : mq_fall 198 1 = true := by decide +kernel
set_option maxRecDepth 100000 in
theorem mjk_199_0 : mq_fck 199 0 40 = true := by decide +kernel
set_option maxRecDepth 100000 in
theorem mjk_199_40 : mq_fck 199 40 40 = true := by decide +kernel
set_option maxRecDepth 100000 in
theorem mjk_199_80 : mq_fck 199 80 32 = true := by decide +kernel
set_option maxRecDepth 100000 in
theorem mjk_199 : ∀ k, k < mj_len 199 → mq_fp 199 k = true := mq_fc (mq_fc (mq_f0 mjk_199_0) mjk_199_40) mjk_199_80
set_option maxRecDepth 100000 in
theorem mjk_200_0 : mq_fck 200 0 40 = true := by decide +kernel
set_option maxRecDepth 100000 in
theorem mjk_200_40 : mq_fck 200 40 40 = true := by decide +kernel
set_option maxRecDepth 100000 in
theorem mjk_200_80 : mq_fck 200 80 40 = true := by decide +kernel
set_option maxRecDepth 100000 in
theorem mjk_200_120 : mq_fck 200 120 40 = true := by decide +kernel
set_option maxRecDepth 100000 in
theorem mjk_200_160 : mq_fck 200 160 40 = true := by decide +kernel
set_option maxRecDepth 100000 in
theorem mjk_200_200 : mq_fck 200 200 23 = true := by decide +kernel
set_option maxRecDepth 100000 in
theorem mjk_200 : ∀ k, k < mj_len 200 → mq_fp 200 k = true := mq_fc (mq_fc (mq_fc (mq_fc (mq_fc (mq_f0 mjk_200_0) mjk_200_40) mjk_200_80) mjk_200_120) mjk_200_160) mjk_200_200
set_option maxRecDepth 100000 in
theorem mjk_201_0 : mq_fck 201 0 40 = true := by decide +kernel
set_option maxRecDepth 100000 in
theorem mjk_201_40 : mq_fck 201 40 40 = true := by decide +kernel
set_option maxRecDepth 100000 in
theorem mjk_201_80 : mq_fck 201 80 22 = true := by decide +kernel
set_option maxRecDepth 100000 in
theorem mjk_201 : ∀ k, k < mj_len 201 → mq_fp 201 k = true := mq_fc (mq_fc (mq_f0 mjk_201_0) mjk_201_40) mjk_201_80
set_option maxRecDepth 100000 in
theorem mjk_202 : mq_fall 202 1 = true := by decide +kernel
set_option maxRecDepth 100000 in
theorem mjk_203 : mq_fall 203 2 = true := by decide +kernel
set_option maxRecDepth 100000 in
theorem mjk_205 : mq_fall 205 4 = true := by decide +kernel
set_option maxRecDepth 100000 in
theorem mjl_0 : mq_lall 0 1 = true := by decide +kernel
set_option maxRecDepth 100000 in
theorem mjl_1 : mq_lall 1 4 = true := by decide +kernel
set_option maxRecDepth 100000 in
theorem mjl_5 : mq_lall 5 7 = true := by decide +kernel
set_option maxRecDepth 100000 in
theorem mjl_12 : mq_lall 12 10 = true := by decide +kernel
set_option maxRecDepth 100000 in
theorem mjl_22 : mq_lall 22 4 = true := by decide +kernel
set_option maxRecDepth 100000 in
theorem mjl_26 : mq_lall 26 9 = true := by decide +kernel
set_option maxRecDepth 100000 in
theorem mjl_35 : mq_lall 35 5 = true := by decide +kernel
set_option maxRecDepth 100000 in
theorem mjl_40 : mq_lall 40 6 = true := by decide +kernel
set_option maxRecDepth 100000 in
theorem mjl_46 : mq_lall 46 5 = true := by decide +kernel
set_option maxRecDepth 100000 in
theorem mjl_51 : mq_lall 51 5 = true := by decide +kernel
set_option maxRecDepth 100000 in
theorem mjl_56 : mq_lall 56 5 = true := by decide +kernel
set_option maxRecDepth 100000 in
theorem mjl_61 : mq_lall 61 6 = true := by decide +kernel
set_option maxRecDepth 100000 in
theorem mjl_67 : mq_lall 67 5 = true := by decide +kernel
set_option maxRecDepth 100000 in
theorem mjl_72 : mq_lall 72 7 = true := by decide +kernel
set_option maxRecDepth 100000 in
theorem mjl_79 : mq_lall 79 4 = true := by decide +kernel
set_option maxRecDepth 100000 in
theorem mjl_83 : mq_lall 83 10 = true := by decide +kernel
set_option maxRecDepth 100000 in
theorem mjl_93 : mq_lall 93 5 = true := by decide +kernel
set_option maxRecDepth 100000 in
theorem mjl_98 : mq_lall 98 5 = true := by decide +kernel
set_option maxRecDepth 100000 in
theorem mjl_103 : mq_lall 103 7 = true := by decide +kernel
set_option maxRecDepth 100000 in
theorem mjl_110 : mq_lall 110 7 = true := by decide +kernel
set_option maxRecDepth 100000 in
theorem mjl_117 : mq_lall 117 6 = true := by decide +kernel
set_option maxRecDepth 100000 in
theorem mjl_123 : mq_lall 123 8 = true := by decide +kernel
set_option maxRecDepth 100000 in
theorem mjl_131 : mq_lall 131 4 = true := by decide +kernel
set_option maxRecDepth 100000 in
theorem mjl_135 : mq_lall 135 5 = true := by decide +kernel
set_option maxRecDepth 100000 in
theorem mjl_140 : mq_lall 140 7 = true := by decide +kernel
set_option maxRecDepth 100000 in
theorem mjl_147 : mq_lall 147 3 = true := by decide +kernel
set_option maxRecDepth 100000 in
theorem mjl_150 : mq_lall 150 5 = true := by decide +kernel
set_option maxRecDepth 100000 in
theorem mjl_155 : mq_lall 155 6 = true := by decide +kernel
set_option maxRecDepth 100000 in
theorem mjl_161 : mq_lall 161 5 = true := by decide +kernel
set_option maxRecDepth 100000 in
theorem mjl_166 : mq_lall 166 2 = true := by decide +kernel
set_option maxRecDepth 100000 in
theorem mjl_168 : mq_lall 168 6 = true := by decide +kernel
set_option maxRecDepth 100000 in
theorem mjl_174 : mq_lall 174 7 = true := by decide +kernel
set_option maxRecDepth 100000 in
theorem mjl_181 : mq_lall 181 4 = true := by decide +kernel
set_option maxRecDepth 100000 in
theorem mjl_185 : mq_lall 185 5 = true := by decide +kernel
set_option maxRecDepth 100000 in
theorem mjl_190 : mq_lall 190 2 = true := by decide +kernel
set_option maxRecDepth 100000 in
theorem mjl_192 : mq_lall 192 6 = true := by decide +kernel
set_option maxRecDepth 100000 in
theorem mjl_198 : mq_lall 198 3 = true := by decide +kernel
set_option maxRecDepth 100000 in
theorem mjl_201 : mq_lall 201 8 = true := by decide +kernel
set_option maxRecDepth 100000 in
theorem mjm_0 : mq_mall 0 10 = true := by decide +kernel
set_option maxRecDepth 100000 in
theorem mjm_10 : mq_mall 10 10 = true := by decide +kernel
set_option maxRecDepth 100000 in
theorem mjm_20 : mq_mall 20 10 = true := by decide +kernel
set_option maxRecDepth 100000 in
theorem mjm_30 : mq_mall 30 10 = true := by decide +kernel
set_option maxRecDepth 100000 in
theorem mjm_40 : mq_mall 40 10 = true := by decide +kernel
set_option maxRecDepth 100000 in
theorem mjm_50 : mq_mall 50 10 = true := by decide +kernel
set_option maxRecDepth 100000 in
theorem mjm_60 : mq_mall 60 10 = true := by decide +kernel
set_option maxRecDepth 100000 in
theorem mjm_70 : mq_mall 70 10 = true := by decide +kernel
set_option maxRecDepth 100000 in
theorem mjm_80 : mq_mall 80 10 = true := by decide +kernel
set_option maxRecDepth 100000 in
theorem mjm_90 : mq_mall 90 10 = true := by decide +kernel
set_option maxRecDepth 100000 in
theorem mjm_100 : mq_mall 100 10 = true := by decide +kernel
set_option maxRecDepth 100000 in
theorem mjm_110 : mq_mall 110 10 = true := by decide +kernel
set_option maxRecDepth 100000 in
theorem mjm_120 : mq_mall 120 10 = true := by decide +kernel
set_option maxRecDepth 100000 in
theorem mjm_130 : mq_mall 130 10 = true := by decide +kernel
set_option maxRecDepth 100000 in
theorem mjm_140 : mq_mall 140 10 = true := by decide +kernel
set_option maxRecDepth 100000 in
theorem mjm_150 : mq_mall 150 10 = true := by decide +kernel
set_option maxRecDepth 100000 in
theorem mjm_160 : mq_mall 160 10 = true := by decide +kernel
set_option maxRecDepth 100000 in
theorem mjm_170 : mq_mall 170 10 = true := by decide +kernel
set_option maxRecDepth 100000 in
theorem mjm_180 : mq_mall 180 10 = true := by decide +kernel
set_option maxRecDepth 100000 in
theorem mjm_190 : mq_mall 190 10 = true := by decide +kernel
set_option maxRecDepth 100000 in
theorem mjm_200 : mq_mall 200 9 = true := by decide +kernel
theorem mj_cl_all : ∀ j, j < 209 → ∀ k, k < mj_len j → mj_ckl j k = true := mq_lj2 (mq_lj2 (mq_lj2 (mq_lj2 (mq_lj2 (mq_lj2 (mq_lj2 (mq_lj2 (mq_lj2 (mq_lj2 (mq_lj2 (mq_lj2 (mq_lj2 (mq_lj2 (mq_lj2 (mq_lj2 (mq_lj2 (mq_lj2 (mq_lj2 (mq_lj2 (mq_lj2 (mq_lj2 (mq_lj2 (mq_lj2 (mq_lj2 (mq_lj2 (mq_lj2 (mq_lj2 (mq_lj2 (mq_lj2 (mq_lj2 (mq_lj2 (mq_lj2 (mq_lj2 (mq_lj2 (mq_lj2 (mq_lj2 (mq_lj2 (fun j h => absurd h (Nat.not_lt_zero j)) mjl_0) mjl_1) mjl_5) mjl_12) mjl_22) mjl_26) mjl_35) mjl_40) mjl_46) mjl_51) mjl_56) mjl_61) mjl_67) mjl_72) mjl_79) mjl_83) mjl_93) mjl_98) mjl_103) mjl_110) mjl_117) mjl_123) mjl_131) mjl_135) mjl_140) mjl_147) mjl_150) mjl_155) mjl_161) mjl_166) mjl_168) mjl_174) mjl_181) mjl_185) mjl_190) mjl_192) mjl_198) mjl_201
theorem mq_fp_all : ∀ j, j < 209 → ∀ k, k < mj_len j → mq_fp j k = true := mq_fj (mq_fj (mq_fj (mq_f1 (mq_f1 (mq_f1 (mq_fj (mq_f1 (mq_fj (mq_fj (mq_f1 (mq_fj (mq_f1 (mq_f1 (mq_f1 (mq_fj (mq_f1 (mq_f1 (mq_fj (mq_fj (mq_fj (mq_f1 (mq_fj (mq_fj (mq_fj (mq_f1 (mq_fj (mq_fj (mq_f1 (mq_fj (mq_f1 (mq_f1 (mq_f1 (mq_fj (mq_f1 (mq_fj (mq_fj (mq_fj (mq_f1 (mq_fj (mq_f1 (mq_f1 (mq_fj (mq_fj (mq_f1 (mq_f1 (mq_fj (mq_f1 (mq_fj (mq_fj (mq_fj (mq_fj (mq_f1 (mq_fj (mq_fj (mq_f1 (mq_fj (mq_f1 (mq_fj (mq_fj (mq_f1 (mq_fj (mq_fj (mq_f1 (mq_f1 (mq_fj (mq_f1 (mq_fj (mq_fj (mq_fj (mq_fj (mq_fj (mq_fj (mq_fj (mq_fj (mq_f1 (mq_fj (mq_fj (mq_f1 (mq_f1 (mq_fj (mq_fj (mq_f1 (mq_fj (mq_fj (mq_fj (mq_fj (mq_fj (mq_f1 (mq_f1 (mq_fj (mq_fj (mq_fj (mq_f1 (mq_fj (mq_fj (mq_fj (mq_f1 (mq_f1 (mq_fj (mq_fj (mq_f1 (mq_fj (mq_fj (mq_fj (mq_fj (mq_f1 (mq_f1 (mq_f1 (mq_fj (mq_f1 (mq_f1 (mq_f1 (mq_fj (mq_f1 (mq_fj (mq_fj (mq_f1 (mq_f1 (mq_fj (mq_fj (mq_fj (mq_fj (mq_fj (mq_fj (mq_f1 (mq_fj (mq_fj (mq_f1 (mq_f1 (mq_fj (mq_fj (mq_fj (mq_fj (mq_f1 (mq_fj (mq_fj (mq_fj (mq_fj (mq_fj (mq_f1 (mq_fj (mq_f1 (mq_fj (mq_f1 (fun j h => absurd h (Nat.not_lt_zero j)) mjk_0) mjk_1) mjk_2) mjk_3) mjk_4) mjk_5) mjk_7) mjk_8) mjk_9) mjk_10) mjk_11) mjk_12) mjk_16) mjk_18) mjk_19) mjk_21) mjk_22) mjk_23) mjk_24) mjk_25) mjk_26) mjk_28) mjk_31) mjk_33) mjk_34) mjk_36) mjk_38) mjk_39) mjk_40) mjk_42) mjk_45) mjk_46) mjk_48) mjk_49) mjk_50) mjk_51) mjk_54) mjk_55) mjk_56) mjk_57) mjk_59) mjk_60) mjk_61) mjk_62) mjk_63) mjk_64) mjk_66) mjk_67) mjk_68) mjk_70) mjk_71) mjk_72) mjk_73) mjk_76) mjk_78) mjk_79) mjk_80) mjk_81) mjk_84) mjk_87) mjk_89) mjk_91) mjk_92) mjk_93) mjk_96) mjk_97) mjk_98) mjk_99) mjk_101) mjk_102) mjk_103) mjk_104) mjk_105) mjk_106) mjk_108) mjk_111) mjk_113) mjk_115) mjk_116) mjk_117) mjk_120) mjk_121) mjk_122) mjk_124) mjk_128) mjk_129) mjk_131) mjk_132) mjk_133) mjk_134) mjk_135) mjk_137) mjk_139) mjk_140) mjk_143) mjk_144) mjk_145) mjk_146) mjk_147) mjk_148) mjk_149) mjk_150) mjk_152) mjk_153) mjk_154) mjk_155) mjk_157) mjk_158) mjk_160) mjk_162) mjk_163) mjk_164) mjk_165) mjk_166) mjk_167) mjk_168) mjk_170) mjk_171) mjk_172) mjk_173) mjk_174) mjk_176) mjk_178) mjk_179) mjk_180) mjk_182) mjk_183) mjk_184) mjk_185) mjk_186) mjk_189) mjk_190) mjk_191) mjk_192) mjk_193) mjk_194) mjk_195) mjk_197) mjk_198) mjk_199) mjk_200) mjk_201) mjk_202) mjk_203) mjk_205
theorem mj_ck_all : ∀ j, j < 209 → ∀ k, k < mj_len j → mj_ckp j k = true := fun j hj k hk => mq_fp_ok (mq_fp_all j hj k hk)
theorem mj_cm_all : ∀ j, j < 209 → mj_ckm j = true := mq_mj (mq_mj (mq_mj (mq_mj (mq_mj (mq_mj (mq_mj (mq_mj (mq_mj (mq_mj (mq_mj (mq_mj (mq_mj (mq_mj (mq_mj (mq_mj (mq_mj (mq_mj (mq_mj (mq_mj (mq_mj (fun j h => absurd h (Nat.not_lt_zero j)) mjm_0) mjm_10) mjm_20) mjm_30) mjm_40) mjm_50) mjm_60) mjm_70) mjm_80) mjm_90) mjm_100) mjm_110) mjm_120) mjm_130) mjm_140) mjm_150) mjm_160) mjm_170) mjm_180) mjm_190) mjm_200
set_option maxRecDepth 100000 in
theorem mj_cw_all : ∀ c, c < 13 → mj_ckc c = true := by decide +kernel
set_option maxRecDepth 100000 in
theorem mj_w_oi : Jvm.Cond.instanceMethod Jvm.Lib.objectInit ∈ lw_tbl := by decide +kernel
set_option maxRecDepth 100000 in
theorem mj_w_oc : Jvm.Cond.code Jvm.Lib.objectInit ⟨#[0xb1]⟩ 1 none ∈ lw_tbl := by decide +kernel
set_option maxRecDepth 100000 in
theorem mj_w_ai : Jvm.Cond.arrayClass .int ∈ lw_tbl := by decide +kernel
set_option maxRecDepth 100000 in
theorem mj_w_al : Jvm.Cond.arrayClass .long ∈ lw_tbl := by decide +kernel
set_option maxRecDepth 100000 in
theorem mj_w_o0 : Jvm.Cond.arrayOver (.object (mj_nm 0)) ∈ lw_tbl := by decide +kernel
set_option maxRecDepth 100000 in
theorem mj_w_o4 : Jvm.Cond.arrayOver (.object (mj_nm 4)) ∈ lw_tbl := by decide +kernel
set_option maxRecDepth 100000 in
theorem mj_w_o6 : Jvm.Cond.arrayOver (.object (mj_nm 6)) ∈ lw_tbl := by decide +kernel
set_option maxRecDepth 100000 in
theorem mj_w_nm : ∀ c, c < 13 → ∀ a, a < mj_N c → ∀ b, b < mj_N c → a ≠ b → (mj_T c a).2.1 ≠ (mj_T c b).2.1 := by decide +kernel
