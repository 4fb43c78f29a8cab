set_option maxRecDepth 100000 in
theorem mjk_123_0 : mj_chunk 123 0 24 = true := by decide +kernel
set_option maxRecDepth 100000 in
theorem mjl_123_0 : mj_chl 123 0 24 = true := by decide +kernel
set_option maxRecDepth 100000 in
theorem mjl_123 : ∀ k, k < mj_len 123 → mj_ckl 123 k = true := mj_l0 mjl_123_0
set_option maxRecDepth 100000 in
theorem mjk_123 : ∀ k, k < mj_len 123 → mj_ckp 123 k = true := mj_ch0 mjk_123_0
set_option maxRecDepth 100000 in
theorem mjm_123 : mj_ckm 123 = true := by decide +kernel
set_option maxRecDepth 100000 in
theorem mjk_124_0 : mj_chunk 124 0 16 = true := by decide +kernel
set_option maxRecDepth 100000 in
theorem mjl_124_0 : mj_chl 124 0 16 = true := by decide +kernel
set_option maxRecDepth 100000 in
theorem mjl_124 : ∀ k, k < mj_len 124 → mj_ckl 124 k = true := mj_l0 mjl_124_0
set_option maxRecDepth 100000 in
theorem mjk_124 : ∀ k, k < mj_len 124 → mj_ckp 124 k = true := mj_ch0 mjk_124_0
set_option maxRecDepth 100000 in
theorem mjm_124 : mj_ckm 124 = true := by decide +kernel
set_option maxRecDepth 100000 in
theorem mjk_125_0 : mj_chunk 125 0 18 = true := by decide +kernel
set_option maxRecDepth 100000 in
theorem mjl_125_0 : mj_chl 125 0 18 = true := by decide +kernel
set_option maxRecDepth 100000 in
theorem mjl_125 : ∀ k, k < mj_len 125 → mj_ckl 125 k = true := mj_l0 mjl_125_0
set_option maxRecDepth 100000 in
theorem mjk_125 : ∀ k, k < mj_len 125 → mj_ckp 125 k = true := mj_ch0 mjk_125_0
set_option maxRecDepth 100000 in
theorem mjm_125 : mj_ckm 125 = true := by decide +kernel
set_option maxRecDepth 100000 in
theorem mjk_126_0 : mj_chunk 126 0 18 = true := by decide +kernel
set_option maxRecDepth 100000 in
theorem mjl_126_0 : mj_chl 126 0 18 = true := by decide +kernel
set_option maxRecDepth 100000 in
theorem mjl_126 : ∀ k, k < mj_len 126 → mj_ckl 126 k = true := mj_l0 mjl_126_0
set_option maxRecDepth 100000 in
theorem mjk_126 : ∀ k, k < mj_len 126 → mj_ckp 126 k = true := mj_ch0 mjk_126_0
set_option maxRecDepth 100000 in
theorem mjm_126 : mj_ckm 126 = true := by decide +kernel
set_option maxRecDepth 100000 in
theorem mjk_127_0 : mj_chunk 127 0 36 = true := by decide +kernel
set_option maxRecDepth 100000 in
theorem mjl_127_0 : mj_chl 127 0 36 = true := by decide +kernel
set_option maxRecDepth 100000 in
theorem mjl_127 : ∀ k, k < mj_len 127 → mj_ckl 127 k = true := mj_l0 mjl_127_0
set_option maxRecDepth 100000 in
theorem mjk_127 : ∀ k, k < mj_len 127 → mj_ckp 127 k = true := mj_ch0 mjk_127_0
set_option maxRecDepth 100000 in
theorem mjm_127 : mj_ckm 127 = true := by decide +kernel
set_option maxRecDepth 100000 in
theorem mjk_128_0 : mj_chunk 128 0 40 = true := by decide +kernel
set_option maxRecDepth 100000 in
theorem mjk_128_40 : mj_chunk 128 40 40 = true := by decide +kernel
set_option maxRecDepth 100000 in
theorem mjk_128_80 : mj_chunk 128 80 36 = true := by decide +kernel
set_option maxRecDepth 100000 in
theorem mjl_128_0 : mj_chl 128 0 116 = true := by decide +kernel
set_option maxRecDepth 100000 in
theorem mjl_128 : ∀ k, k < mj_len 128 → mj_ckl 128 k = true := mj_l0 mjl_128_0
set_option maxRecDepth 100000 in
theorem mjk_128 : ∀ k, k < mj_len 128 → mj_ckp 128 k = true := mj_cj (mj_cj (mj_ch0 mjk_128_0) (mj_ch mjk_128_40)) (mj_ch mjk_128_80)
set_option maxRecDepth 100000 in
theorem mjm_128 : mj_ckm 128 = true := by decide +kernel
set_option maxRecDepth 100000 in
theorem mjk_129_0 : mj_chunk 129 0 40 = true := by decide +kernel
set_option maxRecDepth 100000 in
theorem mjk_129_40 : mj_chunk 129 40 4 = true := by decide +kernel
set_option maxRecDepth 100000 in
theorem mjl_129_0 : mj_chl 129 0 44 = true := by decide +kernel
set_option maxRecDepth 100000 in
theorem mjl_129 : ∀ k, k < mj_len 129 → mj_ckl 129 k = true := mj_l0 mjl_129_0
set_option maxRecDepth 100000 in
theorem mjk_129 : ∀ k, k < mj_len 129 → mj_ckp 129 k = true := mj_cj (mj_ch0 mjk_129_0) (mj_ch mjk_129_40)
set_option maxRecDepth 100000 in
theorem mjm_129 : mj_ckm 129 = true := by decide +kernel
set_option maxRecDepth 100000 in
theorem mjk_130_0 : mj_chunk 130 0 40 = true := by decide +kernel
set_option maxRecDepth 100000 in
theorem mjk_130_40 : mj_chunk 130 40 4 = true := by decide +kernel
set_option maxRecDepth 100000 in
theorem mjl_130_0 : mj_chl 130 0 44 = true := by decide +kernel
set_option maxRecDepth 100000 in
theorem mjl_130 : ∀ k, k < mj_len 130 → mj_ckl 130 k = true := mj_l0 mjl_130_0
set_option maxRecDepth 100000 in
theorem mjk_130 : ∀ k, k < mj_len 130 → mj_ckp 130 k = true := mj_cj (mj_ch0 mjk_130_0) (mj_ch mjk_130_40)
set_option maxRecDepth 100000 in
theorem mjm_130 : mj_ckm 130 = true := by decide +kernel
set_option maxRecDepth 100000 in
theorem mjk_131_0 : mj_chunk 131 0 40 = true := by decide +kernel
set_option maxRecDepth 100000 in
theorem mjk_131_40 : mj_chunk 131 40 8 = true := by decide +kernel
set_option maxRecDepth 100000 in
theorem mjl_131_0 : mj_chl 131 0 48 = true := by decide +kernel
set_option maxRecDepth 100000 in
theorem mjl_131 : ∀ k, k < mj_len 131 → mj_ckl 131 k = true := mj_l0 mjl_131_0
set_option maxRecDepth 100000 in
theorem mjk_131 : ∀ k, k < mj_len 131 → mj_ckp 131 k = true := mj_cj (mj_ch0 mjk_131_0) (mj_ch mjk_131_40)
set_option maxRecDepth 100000 in
theorem mjm_131 : mj_ckm 131 = true := by decide +kernel
set_option maxRecDepth 100000 in
theorem mjk_132_0 : mj_chunk 132 0 40 = true := by decide +kernel
set_option maxRecDepth 100000 in
theorem mjk_132_40 : mj_chunk 132 40 40 = true := by decide +kernel
set_option maxRecDepth 100000 in
theorem mjk_132_80 : mj_chunk 132 80 15 = true := by decide +kernel
set_option maxRecDepth 100000 in
theorem mjl_132_0 : mj_chl 132 0 95 = true := by decide +kernel
set_option maxRecDepth 100000 in
theorem mjl_132 : ∀ k, k < mj_len 132 → mj_ckl 132 k = true := mj_l0 mjl_132_0
set_option maxRecDepth 100000 in
theorem mjk_132 : ∀ k, k < mj_len 132 → mj_ckp 132 k = true := mj_cj (mj_cj (mj_ch0 mjk_132_0) (mj_ch mjk_132_40)) (mj_ch mjk_132_80)
set_option maxRecDepth 100000 in
theorem mjm_132 : mj_ckm 132 = true := by decide +kernel
set_option maxRecDepth 100000 in
theorem mjk_133_0 : mj_chunk 133 0 40 = true := by decide +kernel
set_option maxRecDepth 100000 in
theorem mjk_133_40 : mj_chunk 133 40 6 = true := by decide +kernel
set_option maxRecDepth 100000 in
theorem mjl_133_0 : mj_chl 133 0 46 = true := by decide +kernel
set_option maxRecDepth 100000 in
theorem mjl_133 : ∀ k, k < mj_len 133 → mj_ckl 133 k = true := mj_l0 mjl_133_0
set_option maxRecDepth 100000 in
theorem mjk_133 : ∀ k, k < mj_len 133 → mj_ckp 133 k = true := mj_cj (mj_ch0 mjk_133_0) (mj_ch mjk_133_40)
set_option maxRecDepth 100000 in
theorem mjm_133 : mj_ckm 133 = true := by decide +kernel
set_option maxRecDepth 100000 in
theorem mjk_134_0 : mj_chunk 134 0 40 = true := by decide +kernel
set_option maxRecDepth 100000 in
theorem mjk_134_40 : mj_chunk 134 40 40 = true := by decide +kernel
set_option maxRecDepth 100000 in
theorem mjk_134_80 : mj_chunk 134 80 40 = true := by decide +kernel
set_option maxRecDepth 100000 in
theorem mjk_134_120 : mj_chunk 134 120 3 = true := by decide +kernel
set_option maxRecDepth 100000 in
theorem mjl_134_0 : mj_chl 134 0 120 = true := by decide +kernel
set_option maxRecDepth 100000 in
theorem mjl_134_120 : mj_chl 134 120 3 = true := by decide +kernel
set_option maxRecDepth 100000 in
theorem mjl_134 : ∀ k, k < mj_len 134 → mj_ckl 134 k = true := mj_lj (mj_l0 mjl_134_0) (mj_lh mjl_134_120)
set_option maxRecDepth 100000 in
theorem mjk_134 : ∀ k, k < mj_len 134 → mj_ckp 134 k = true := mj_cj (mj_cj (mj_cj (mj_ch0 mjk_134_0) (mj_ch mjk_134_40)) (mj_ch mjk_134_80)) (mj_ch mjk_134_120)
set_option maxRecDepth 100000 in
theorem mjm_134 : mj_ckm 134 = true := by decide +kernel
set_option maxRecDepth 100000 in
theorem mjk_135_0 : mj_chunk 135 0 37 = true := by decide +kernel
set_option maxRecDepth 100000 in
theorem mjl_135_0 : mj_chl 135 0 37 = true := by decide +kernel
set_option maxRecDepth 100000 in
theorem mjl_135 : ∀ k, k < mj_len 135 → mj_ckl 135 k = true := mj_l0 mjl_135_0
set_option maxRecDepth 100000 in
theorem mjk_135 : ∀ k, k < mj_len 135 → mj_ckp 135 k = true := mj_ch0 mjk_135_0
set_option maxRecDepth 100000 in
theorem mjm_135 : mj_ckm 135 = true := by decide +kernel
set_option maxRecDepth 100000 in
theorem mjk_136_0 : mj_chunk 136 0 40 = true := by decide +kernel
set_option maxRecDepth 100000 in
theorem mjl_136_0 : mj_chl 136 0 40 = true := by decide +kernel
set_option maxRecDepth 100000 in
theorem mjl_136 : ∀ k, k < mj_len 136 → mj_ckl 136 k = true := mj_l0 mjl_136_0
set_option maxRecDepth 100000 in
theorem mjk_136 : ∀ k, k < mj_len 136 → mj_ckp 136 k = true := mj_ch0 mjk_136_0
set_option maxRecDepth 100000 in
theorem mjm_136 : mj_ckm 136 = true := by decide +kernel
set_option maxRecDepth 100000 in
theorem mjk_137_0 : mj_chunk 137 0 21 = true := by decide +kernel
set_option maxRecDepth 100000 in
theorem mjl_137_0 : mj_chl 137 0 21 = true := by decide +kernel
set_option maxRecDepth 100000 in
theorem mjl_137 : ∀ k, k < mj_len 137 → mj_ckl 137 k = true := mj_l0 mjl_137_0
set_option maxRecDepth 100000 in
theorem mjk_137 : ∀ k, k < mj_len 137 → mj_ckp 137 k = true := mj_ch0 mjk_137_0
set_option maxRecDepth 100000 in
theorem mjm_137 : mj_ckm 137 = true := by decide +kernel
set_option maxRecDepth 100000 in
theorem mjk_138_0 : mj_chunk 138 0 37 = true := by decide +kernel
set_option maxRecDepth 100000 in
theorem mjl_138_0 : mj_chl 138 0 37 = true := by decide +kernel
set_option maxRecDepth 100000 in
theorem mjl_138 : ∀ k, k < mj_len 138 → mj_ckl 138 k = true := mj_l0 mjl_138_0
set_option maxRecDepth 100000 in
theorem mjk_138 : ∀ k, k < mj_len 138 → mj_ckp 138 k = true := mj_ch0 mjk_138_0
set_option maxRecDepth 100000 in
theorem mjm_138 : mj_ckm 138 = true := by decide +kernel
set_option maxRecDepth 100000 in
theorem mjk_139_0 : mj_chunk 139 0 40 = true := by decide +kernel
set_option maxRecDepth 100000 in
theorem mjk_139_40 : mj_chunk 139 40 40 = true := by decide +kernel
set_option maxRecDepth 100000 in
theorem mjk_139_80 : mj_chunk 139 80 40 = true := by decide +kernel
set_option maxRecDepth 100000 in
theorem mjk_139_120 : mj_chunk 139 120 40 = true := by decide +kernel
set_option maxRecDepth 100000 in
theorem mjk_139_160 : mj_chunk 139 160 18 = true := by decide +kernel
set_option maxRecDepth 100000 in
theorem mjl_139_0 : mj_chl 139 0 120 = true := by decide +kernel
set_option maxRecDepth 100000 in
theorem mjl_139_120 : mj_chl 139 120 58 = true := by decide +kernel
set_option maxRecDepth 100000 in
theorem mjl_139 : ∀ k, k < mj_len 139 → mj_ckl 139 k = true := mj_lj (mj_l0 mjl_139_0) (mj_lh mjl_139_120)
set_option maxRecDepth 100000 in
theorem mjk_139 : ∀ k, k < mj_len 139 → mj_ckp 139 k = true := mj_cj (mj_cj (mj_cj (mj_cj (mj_ch0 mjk_139_0) (mj_ch mjk_139_40)) (mj_ch mjk_139_80)) (mj_ch mjk_139_120)) (mj_ch mjk_139_160)
set_option maxRecDepth 100000 in
theorem mjm_139 : mj_ckm 139 = true := by decide +kernel
set_option maxRecDepth 100000 in
theorem mjk_140_0 : mj_chunk 140 0 21 = true := by decide +kernel
set_option maxRecDepth 100000 in
theorem mjl_140_0 : mj_chl 140 0 21 = true := by decide +kernel
set_option maxRecDepth 100000 in
theorem mjl_140 : ∀ k, k < mj_len 140 → mj_ckl 140 k = true := mj_l0 mjl_140_0
set_option maxRecDepth 100000 in
theorem mjk_140 : ∀ k, k < mj_len 140 → mj_ckp 140 k = true := mj_ch0 mjk_140_0
set_option maxRecDepth 100000 in
theorem mjm_140 : mj_ckm 140 = true := by decide +kernel
set_option maxRecDepth 100000 in
theorem mjk_141_0 : mj_chunk 141 0 21 = true := by decide +kernel
set_option maxRecDepth 100000 in
theorem mjl_141_0 : mj_chl 141 0 21 = true := by decide +kernel
set_option maxRecDepth 100000 in
theorem mjl_141 : ∀ k, k < mj_len 141 → mj_ckl 141 k = true := mj_l0 mjl_141_0
set_option maxRecDepth 100000 in
theorem mjk_141 : ∀ k, k < mj_len 141 → mj_ckp 141 k = true := mj_ch0 mjk_141_0
set_option maxRecDepth 100000 in
theorem mjm_141 : mj_ckm 141 = true := by decide +kernel
set_option maxRecDepth 100000 in
theorem mjk_142_0 : mj_chunk 142 0 40 = true := by decide +kernel
set_option maxRecDepth 100000 in
theorem mjk_142_40 : mj_chunk 142 40 8 = true := by decide +kernel
set_option maxRecDepth 100000 in
theorem mjl_142_0 : mj_chl 142 0 48 = true := by decide +kernel
set_option maxRecDepth 100000 in
theorem mjl_142 : ∀ k, k < mj_len 142 → mj_ckl 142 k = true := mj_l0 mjl_142_0
set_option maxRecDepth 100000 in
theorem mjk_142 : ∀ k, k < mj_len 142 → mj_ckp 142 k = true := mj_cj (mj_ch0 mjk_142_0) (mj_ch mjk_142_40)
set_option maxRecDepth 100000 in
theorem mjm_142 : mj_ckm 142 = true := by decide +kernel
set_option maxRecDepth 100000 in
theorem mjk_143_0 : mj_chunk 143 0 16 = true := by decide +kernel
set_option maxRecDepth 100000 in
theorem mjl_143_0 : mj_chl 143 0 16 = true := by decide +kernel
set_option maxRecDepth 100000 in
theorem mjl_143 : ∀ k, k < mj_len 143 → mj_ckl 143 k = true := mj_l0 mjl_143_0
set_option maxRecDepth 100000 in
theorem mjk_143 : ∀ k, k < mj_len 143 → mj_ckp 143 k = true := mj_ch0 mjk_143_0
set_option maxRecDepth 100000 in
theorem mjm_143 : mj_ckm 143 = true := by decide +kernel
set_option maxRecDepth 100000 in
theorem mjk_144_0 : mj_chunk 144 0 40 = true := by decide +kernel
set_option maxRecDepth 100000 in
theorem mjk_144_40 : mj_chunk 144 40 38 = true := by decide +kernel
set_option maxRecDepth 100000 in
theorem mjl_144_0 : mj_chl 144 0 78 = true := by decide +kernel
set_option maxRecDepth 100000 in
theorem mjl_144 : ∀ k, k < mj_len 144 → mj_ckl 144 k = true := mj_l0 mjl_144_0
set_option maxRecDepth 100000 in
theorem mjk_144 : ∀ k, k < mj_len 144 → mj_ckp 144 k = true := mj_cj (mj_ch0 mjk_144_0) (mj_ch mjk_144_40)
set_option maxRecDepth 100000 in
theorem mjm_144 : mj_ckm 144 = true := by decide +kernel
set_option maxRecDepth 100000 in
theorem mjk_145_0 : mj_chunk 145 0 27 = true := by decide +kernel
set_option maxRecDepth 100000 in
theorem mjl_145_0 : mj_chl 145 0 27 = true := by decide +kernel
set_option maxRecDepth 100000 in
theorem mjl_145 : ∀ k, k < mj_len 145 → mj_ckl 145 k = true := mj_l0 mjl_145_0
set_option maxRecDepth 100000 in
theorem mjk_145 : ∀ k, k < mj_len 145 → mj_ckp 145 k = true := mj_ch0 mjk_145_0
set_option maxRecDepth 100000 in
theorem mjm_145 : mj_ckm 145 = true := by decide +kernel
set_option maxRecDepth 100000 in
theorem mjk_146_0 : mj_chunk 146 0 40 = true := by decide +kernel
set_option maxRecDepth 100000 in
theorem mjk_146_40 : mj_chunk 146 40 40 = true := by decide +kernel
set_option maxRecDepth 100000 in
theorem mjk_146_80 : mj_chunk 146 80 20 = true := by decide +kernel
set_option maxRecDepth 100000 in
theorem mjl_146_0 : mj_chl 146 0 100 = true := by decide +kernel
set_option maxRecDepth 100000 in
theorem mjl_146 : ∀ k, k < mj_len 146 → mj_ckl 146 k = true := mj_l0 mjl_146_0
set_option maxRecDepth 100000 in
theorem mjk_146 : ∀ k, k < mj_len 146 → mj_ckp 146 k = true := mj_cj (mj_cj (mj_ch0 mjk_146_0) (mj_ch mjk_146_40)) (mj_ch mjk_146_80)
set_option maxRecDepth 100000 in
theorem mjm_146 : mj_ckm 146 = true := by decide +kernel
set_option maxRecDepth 100000 in
theorem mjk_147_0 : mj_chunk 147 0 22 = true := by decide +kernel
set_option maxRecDepth 100000 in
theorem mjl_147_0 : mj_chl 147 0 22 = true := by decide +kernel
set_option maxRecDepth 100000 in
theorem mjl_147 : ∀ k, k < mj_len 147 → mj_ckl 147 k = true := mj_l0 mjl_147_0
set_option maxRecDepth 100000 in
theorem mjk_147 : ∀ k, k < mj_len 147 → mj_ckp 147 k = true := mj_ch0 mjk_147_0
set_option maxRecDepth 100000 in
theorem mjm_147 : mj_ckm 147 = true := by decide +kernel
set_option maxRecDepth 100000 in
theorem mjk_148_0 : mj_chunk 148 0 40 = true := by decide +kernel
set_option maxRecDepth 100000 in
theorem mjk_148_40 : mj_chunk 148 40 40 = true := by decide +kernel
set_option maxRecDepth 100000 in
theorem mjk_148_80 : mj_chunk 148 80 40 = true := by decide +kernel
set_option maxRecDepth 100000 in
theorem mjk_148_120 : mj_chunk 148 120 40 = true := by decide +kernel
set_option maxRecDepth 100000 in
theorem mjk_148_160 : mj_chunk 148 160 40 = true := by decide +kernel
set_option maxRecDepth 100000 in
theorem mjk_148_200 : mj_chunk 148 200 16 = true := by decide +kernel
set_option maxRecDepth 100000 in
theorem mjl_148_0 : mj_chl 148 0 120 = true := by decide +kernel
set_option maxRecDepth 100000 in
theorem mjl_148_120 : mj_chl 148 120 96 = true := by decide +kernel
set_option maxRecDepth 100000 in
theorem mjl_148 : ∀ k, k < mj_len 148 → mj_ckl 148 k = true := mj_lj (mj_l0 mjl_148_0) (mj_lh mjl_148_120)
set_option maxRecDepth 100000 in
theorem mjk_148 : ∀ k, k < mj_len 148 → mj_ckp 148 k = true := mj_cj (mj_cj (mj_cj (mj_cj (mj_cj (mj_ch0 mjk_148_0) (mj_ch mjk_148_40)) (mj_ch mjk_148_80)) (mj_ch mjk_148_120)) (mj_ch mjk_148_160)) (mj_ch mjk_148_200)
set_option maxRecDepth 100000 in
theorem mjm_148 : mj_ckm 148 = true := by decide +kernel
set_option maxRecDepth 100000 in
theorem mjk_149_0 : mj_chunk 149 0 40 = true := by decide +kernel
set_option maxRecDepth 100000 in
theorem mjk_149_40 : mj_chunk 149 40 40 = true := by decide +kernel
set_option maxRecDepth 100000 in
theorem mjk_149_80 : mj_chunk 149 80 40 = true := by decide +kernel
set_option maxRecDepth 100000 in
theorem mjk_149_120 : mj_chunk 149 120 40 = true := by decide +kernel
set_option maxRecDepth 100000 in
theorem mjk_149_160 : mj_chunk 149 160 40 = true := by decide +kernel
set_option maxRecDepth 100000 in
theorem mjk_149_200 : mj_chunk 149 200 36 = true := by decide +kernel
set_option maxRecDepth 100000 in
theorem mjl_149_0 : mj_chl 149 0 120 = true := by decide +kernel
set_option maxRecDepth 100000 in
theorem mjl_149_120 : mj_chl 149 120 116 = true := by decide +kernel
set_option maxRecDepth 100000 in
theorem mjl_149 : ∀ k, k < mj_len 149 → mj_ckl 149 k = true := mj_lj (mj_l0 mjl_149_0) (mj_lh mjl_149_120)
set_option maxRecDepth 100000 in
theorem mjk_149 : ∀ k, k < mj_len 149 → mj_ckp 149 k = true := mj_cj (mj_cj (mj_cj (mj_cj (mj_cj (mj_ch0 mjk_149_0) (mj_ch mjk_149_40)) (mj_ch mjk_149_80)) (mj_ch mjk_149_120)) (mj_ch mjk_149_160)) (mj_ch mjk_149_200)
set_option maxRecDepth 100000 in
theorem mjm_149 : mj_ckm 149 = true := by decide +kernel
set_option maxRecDepth 100000 in
theorem mjk_150_0 : mj_chunk 150 0 40 = true := by decide +kernel
set_option maxRecDepth 100000 in
theorem mjk_150_40 : mj_chunk 150 40 9 = true := by decide +kernel
set_option maxRecDepth 100000 in
theorem mjl_150_0 : mj_chl 150 0 49 = true := by decide +kernel
set_option maxRecDepth 100000 in
theorem mjl_150 : ∀ k, k < mj_len 150 → mj_ckl 150 k = true := mj_l0 mjl_150_0
set_option maxRecDepth 100000 in
theorem mjk_150 : ∀ k, k < mj_len 150 → mj_ckp 150 k = true := mj_cj (mj_ch0 mjk_150_0) (mj_ch mjk_150_40)
set_option maxRecDepth 100000 in
theorem mjm_150 : mj_ckm 150 = true := by decide +kernel
set_option maxRecDepth 100000 in
theorem mjk_151_0 : mj_chunk 151 0 25 = true := by decide +kernel
set_option maxRecDepth 100000 in
theorem mjl_151_0 : mj_chl 151 0 25 = true := by decide +kernel
set_option maxRecDepth 100000 in
theorem mjl_151 : ∀ k, k < mj_len 151 → mj_ckl 151 k = true := mj_l0 mjl_151_0
set_option maxRecDepth 100000 in
theorem mjk_151 : ∀ k, k < mj_len 151 → mj_ckp 151 k = true := mj_ch0 mjk_151_0
set_option maxRecDepth 100000 in
theorem mjm_151 : mj_ckm 151 = true := by decide +kernel
set_option maxRecDepth 100000 in
theorem mjk_152_0 : mj_chunk 152 0 20 = true := by decide +kernel
set_option maxRecDepth 100000 in
theorem mjl_152_0 : mj_chl 152 0 20 = true := by decide +kernel
set_option maxRecDepth 100000 in
theorem mjl_152 : ∀ k, k < mj_len 152 → mj_ckl 152 k = true := mj_l0 mjl_152_0
set_option maxRecDepth 100000 in
theorem mjk_152 : ∀ k, k < mj_len 152 → mj_ckp 152 k = true := mj_ch0 mjk_152_0
set_option maxRecDepth 100000 in
theorem mjm_152 : mj_ckm 152 = true := by decide +kernel
set_option maxRecDepth 100000 in
theorem mjk_153_0 : mj_chunk 153 0 40 = true := by decide +kernel
set_option maxRecDepth 100000 in
theorem mjk_153_40 : mj_chunk 153 40 40 = true := by decide +kernel
set_option maxRecDepth 100000 in
theorem mjk_153_80 : mj_chunk 153 80 40 = true := by decide +kernel
set_option maxRecDepth 100000 in
theorem mjk_153_120 : mj_chunk 153 120 2 = true := by decide +kernel
set_option maxRecDepth 100000 in
theorem mjl_153_0 : mj_chl 153 0 120 = true := by decide +kernel
set_option maxRecDepth 100000 in
theorem mjl_153_120 : mj_chl 153 120 2 = true := by decide +kernel
set_option maxRecDepth 100000 in
theorem mjl_153 : ∀ k, k < mj_len 153 → mj_ckl 153 k = true := mj_lj (mj_l0 mjl_153_0) (mj_lh mjl_153_120)
set_option maxRecDepth 100000 in
theorem mjk_153 : ∀ k, k < mj_len 153 → mj_ckp 153 k = true := mj_cj (mj_cj (mj_cj (mj_ch0 mjk_153_0) (mj_ch mjk_153_40)) (mj_ch mjk_153_80)) (mj_ch mjk_153_120)
set_option maxRecDepth 100000 in
theorem mjm_153 : mj_ckm 153 = true := by decide +kernel
set_option maxRecDepth 100000 in
theorem mjk_154_0 : mj_chunk 154 0 40 = true := by decide +kernel
set_option maxRecDepth 100000 in
theorem mjk_154_40 : mj_chunk 154 40 40 = true := by decide +kernel
set_option maxRecDepth 100000 in
theorem mjk_154_80 : mj_chunk 154 80 40 = true := by decide +kernel
set_option maxRecDepth 100000 in
theorem mjk_154_120 : mj_chunk 154 120 40 = true := by decide +kernel
set_option maxRecDepth 100000 in
theorem mjk_154_160 : mj_chunk 154 160 6 = true := by decide +kernel
set_option maxRecDepth 100000 in
theorem mjl_154_0 : mj_chl 154 0 120 = true := by decide +kernel
set_option maxRecDepth 100000 in
theorem mjl_154_120 : mj_chl 154 120 46 = true := by decide +kernel
set_option maxRecDepth 100000 in
theorem mjl_154 : ∀ k, k < mj_len 154 → mj_ckl 154 k = true := mj_lj (mj_l0 mjl_154_0) (mj_lh mjl_154_120)
set_option maxRecDepth 100000 in
theorem mjk_154 : ∀ k, k < mj_len 154 → mj_ckp 154 k = true := mj_cj (mj_cj (mj_cj (mj_cj (mj_ch0 mjk_154_0) (mj_ch mjk_154_40)) (mj_ch mjk_154_80)) (mj_ch mjk_154_120)) (mj_ch mjk_154_160)
set_option maxRecDepth 100000 in
theorem mjm_154 : mj_ckm 154 = true := by decide +kernel
set_option maxRecDepth 100000 in
theorem mjk_155_0 : mj_chunk 155 0 30 = true := by decide +kernel
set_option maxRecDepth 100000 in
theorem mjl_155_0 : mj_chl 155 0 30 = true := by decide +kernel
set_option maxRecDepth 100000 in
theorem mjl_155 : ∀ k, k < mj_len 155 → mj_ckl 155 k = true := mj_l0 mjl_155_0
set_option maxRecDepth 100000 in
theorem mjk_155 : ∀ k, k < mj_len 155 → mj_ckp 155 k = true := mj_ch0 mjk_155_0
set_option maxRecDepth 100000 in
theorem mjm_155 : mj_ckm 155 = true := by decide +kernel
set_option maxRecDepth 100000 in
theorem mjk_156_0 : mj_chunk 156 0 33 = true := by decide +kernel
set_option maxRecDepth 100000 in
theorem mjl_156_0 : mj_chl 156 0 33 = true := by decide +kernel
set_option maxRecDepth 100000 in
theorem mjl_156 : ∀ k, k < mj_len 156 → mj_ckl 156 k = true := mj_l0 mjl_156_0
set_option maxRecDepth 100000 in
theorem mjk_156 : ∀ k, k < mj_len 156 → mj_ckp 156 k = true := mj_ch0 mjk_156_0
set_option maxRecDepth 100000 in
theorem mjm_156 : mj_ckm 156 = true := by decide +kernel
set_option maxRecDepth 100000 in
theorem mjk_157_0 : mj_chunk 157 0 40 = true := by decide +kernel
set_option maxRecDepth 100000 in
theorem mjk_157_40 : mj_chunk 157 40 40 = true := by decide +kernel
set_option maxRecDepth 100000 in
theorem mjk_157_80 : mj_chunk 157 80 29 = true := by decide +kernel
set_option maxRecDepth 100000 in
theorem mjl_157_0 : mj_chl 157 0 109 = true := by decide +kernel
set_option maxRecDepth 100000 in
theorem mjl_157 : ∀ k, k < mj_len 157 → mj_ckl 157 k = true := mj_l0 mjl_157_0
set_option maxRecDepth 100000 in
theorem mjk_157 : ∀ k, k < mj_len 157 → mj_ckp 157 k = true := mj_cj (mj_cj (mj_ch0 mjk_157_0) (mj_ch mjk_157_40)) (mj_ch mjk_157_80)
set_option maxRecDepth 100000 in
theorem mjm_157 : mj_ckm 157 = true := by decide +kernel
set_option maxRecDepth 100000 in
theorem mjk_158_0 : mj_chunk 158 0 40 = true := by decide +kernel
set_option maxRecDepth 100000 in
theorem mjk_158_40 : mj_chunk 158 40 14 = true := by decide +kernel
set_option maxRecDepth 100000 in
theorem mjl_158_0 : mj_chl 158 0 54 = true := by decide +kernel
set_option maxRecDepth 100000 in
theorem mjl_158 : ∀ k, k < mj_len 158 → mj_ckl 158 k = true := mj_l0 mjl_158_0
set_option maxRecDepth 100000 in
theorem mjk_158 : ∀ k, k < mj_len 158 → mj_ckp 158 k = true := mj_cj (mj_ch0 mjk_158_0) (mj_ch mjk_158_40)
set_option maxRecDepth 100000 in
theorem mjm_158 : mj_ckm 158 = true := by decide +kernel
set_option maxRecDepth 100000 in
theorem mjk_159_0 : mj_chunk 159 0 35 = true := by decide +kernel
set_option maxRecDepth 100000 in
theorem mjl_159_0 : mj_chl 159 0 35 = true := by decide +kernel
set_option maxRecDepth 100000 in
theorem mjl_159 : ∀ k, k < mj_len 159 → mj_ckl 159 k = true := mj_l0 mjl_159_0
set_option maxRecDepth 100000 in
theorem mjk_159 : ∀ k, k < mj_len 159 → mj_ckp 159 k = true := mj_ch0 mjk_159_0
set_option maxRecDepth 100000 in
theorem mjm_159 : mj_ckm 159 = true := by decide +kernel
set_option maxRecDepth 100000 in
theorem mjk_160_0 : mj_chunk 160 0 40 = true := by decide +kernel
set_option maxRecDepth 100000 in
theorem mjk_160_40 : mj_chunk 160 40 17 = true := by decide +kernel
set_option maxRecDepth 100000 in
theorem mjl_160_0 : mj_chl 160 0 57 = true := by decide +kernel
set_option maxRecDepth 100000 in
theorem mjl_160 : ∀ k, k < mj_len 160 → mj_ckl 160 k = true := mj_l0 mjl_160_0
set_option maxRecDepth 100000 in
theorem mjk_160 : ∀ k, k < mj_len 160 → mj_ckp 160 k = true := mj_cj (mj_ch0 mjk_160_0) (mj_ch mjk_160_40)
set_option maxRecDepth 100000 in
theorem mjm_160 : mj_ckm 160 = true := by decide +kernel
set_option maxRecDepth 100000 in
theorem mjk_161_0 : mj_chunk 161 0 28 = true := by decide +kernel
set_option maxRecDepth 100000 in
theorem mjl_161_0 : mj_chl 161 0 28 = true := by decide +kernel
set_option maxRecDepth 100000 in
theorem mjl_161 : ∀ k, k < mj_len 161 → mj_ckl 161 k = true := mj_l0 mjl_161_0
set_option maxRecDepth 100000 in
theorem mjk_161 : ∀ k, k < mj_len 161 → mj_ckp 161 k = true := mj_ch0 mjk_161_0
set_option maxRecDepth 100000 in
theorem mjm_161 : mj_ckm 161 = true := by decide +kernel
set_option maxRecDepth 100000 in
theorem mjk_162_0 : mj_chunk 162 0 9 = true := by decide +kernel
set_option maxRecDepth 100000 in
theorem mjl_162_0 : mj_chl 162 0 9 = true := by decide +kernel
set_option maxRecDepth 100000 in
theorem mjl_162 : ∀ k, k < mj_len 162 → mj_ckl 162 k = true := mj_l0 mjl_162_0
set_option maxRecDepth 100000 in
theorem mjk_162 : ∀ k, k < mj_len 162 → mj_ckp 162 k = true := mj_ch0 mjk_162_0
set_option maxRecDepth 100000 in
theorem mjm_162 : mj_ckm 162 = true := by decide +kernel
set_option maxRecDepth 100000 in
theorem mjk_163_0 : mj_chunk 163 0 40 = true := by decide +kernel
set_option maxRecDepth 100000 in
theorem mjk_163_40 : mj_chunk 163 40 40 = true := by decide +kernel
set_option maxRecDepth 100000 in
theorem mjk_163_80 : mj_chunk 163 80 40 = true := by decide +kernel
set_option maxRecDepth 100000 in
theorem mjk_163_120 : mj_chunk 163 120 37 = true := by decide +kernel
set_option maxRecDepth 100000 in
theorem mjl_163_0 : mj_chl 163 0 120 = true := by decide +kernel
set_option maxRecDepth 100000 in
theorem mjl_163_120 : mj_chl 163 120 37 = true := by decide +kernel
set_option maxRecDepth 100000 in
theorem mjl_163 : ∀ k, k < mj_len 163 → mj_ckl 163 k = true := mj_lj (mj_l0 mjl_163_0) (mj_lh mjl_163_120)
set_option maxRecDepth 100000 in
theorem mjk_163 : ∀ k, k < mj_len 163 → mj_ckp 163 k = true := mj_cj (mj_cj (mj_cj (mj_ch0 mjk_163_0) (mj_ch mjk_163_40)) (mj_ch mjk_163_80)) (mj_ch mjk_163_120)
set_option maxRecDepth 100000 in
theorem mjm_163 : mj_ckm 163 = true := by decide +kernel
set_option maxRecDepth 100000 in
theorem mjk_164_0 : mj_chunk 164 0 13 = true := by decide +kernel
set_option maxRecDepth 100000 in
theorem mjl_164_0 : mj_chl 164 0 13 = true := by decide +kernel
set_option maxRecDepth 100000 in
theorem mjl_164 : ∀ k, k < mj_len 164 → mj_ckl 164 k = true := mj_l0 mjl_164_0
set_option maxRecDepth 100000 in
theorem mjk_164 : ∀ k, k < mj_len 164 → mj_ckp 164 k = true := mj_ch0 mjk_164_0
set_option maxRecDepth 100000 in
theorem mjm_164 : mj_ckm 164 = true := by decide +kernel
set_option maxRecDepth 100000 in
theorem mjk_165_0 : mj_chunk 165 0 40 = true := by decide +kernel
set_option maxRecDepth 100000 in
theorem mjk_165_40 : mj_chunk 165 40 40 = true := by decide +kernel
set_option maxRecDepth 100000 in
theorem mjk_165_80 : mj_chunk 165 80 40 = true := by decide +kernel
set_option maxRecDepth 100000 in
theorem mjk_165_120 : mj_chunk 165 120 40 = true := by decide +kernel
set_option maxRecDepth 100000 in
theorem mjk_165_160 : mj_chunk 165 160 40 = true := by decide +kernel
set_option maxRecDepth 100000 in
theorem mjk_165_200 : mj_chunk 165 200 8 = true := by decide +kernel
set_option maxRecDepth 100000 in
theorem mjl_165_0 : mj_chl 165 0 120 = true := by decide +kernel
set_option maxRecDepth 100000 in
theorem mjl_165_120 : mj_chl 165 120 88 = true := by decide +kernel
set_option maxRecDepth 100000 in
theorem mjl_165 : ∀ k, k < mj_len 165 → mj_ckl 165 k = true := mj_lj (mj_l0 mjl_165_0) (mj_lh mjl_165_120)
set_option maxRecDepth 100000 in
theorem mjk_165 : ∀ k, k < mj_len 165 → mj_ckp 165 k = true := mj_cj (mj_cj (mj_cj (mj_cj (mj_cj (mj_ch0 mjk_165_0) (mj_ch mjk_165_40)) (mj_ch mjk_165_80)) (mj_ch mjk_165_120)) (mj_ch mjk_165_160)) (mj_ch mjk_165_200)
set_option maxRecDepth 100000 in
theorem mjm_165 : mj_ckm 165 = true := by decide +kernel
set_option maxRecDepth 100000 in
theorem mjk_166_0 : mj_chunk 166 0 40 = true := by decide +kernel
set_option maxRecDepth 100000 in
theorem mjk_166_40 : mj_chunk 166 40 40 = true := by decide +kernel
set_option maxRecDepth 100000 in
theorem mjk_166_80 : mj_chunk 166 80 40 = true := by decide +kernel
set_option maxRecDepth 100000 in
theorem mjk_166_120 : mj_chunk 166 120 40 = true := by decide +kernel
set_option maxRecDepth 100000 in
theorem mjk_166_160 : mj_chunk 166 160 30 = true := by decide +kernel
set_option maxRecDepth 100000 in
theorem mjl_166_0 : mj_chl 166 0 120 = true := by decide +kernel
set_option maxRecDepth 100000 in
theorem mjl_166_120 : mj_chl 166 120 70 = true := by decide +kernel
set_option maxRecDepth 100000 in
theorem mjl_166 : ∀ k, k < mj_len 166 → mj_ckl 166 k = true := mj_lj (mj_l0 mjl_166_0) (mj_lh mjl_166_120)
set_option maxRecDepth 100000 in
theorem mjk_166 : ∀ k, k < mj_len 166 → mj_ckp 166 k = true := mj_cj (mj_cj (mj_cj (mj_cj (mj_ch0 mjk_166_0) (mj_ch mjk_166_40)) (mj_ch mjk_166_80)) (mj_ch mjk_166_120)) (mj_ch mjk_166_160)
set_option maxRecDepth 100000 in
theorem mjm_166 : mj_ckm 166 = true := by decide +kernel
set_option maxRecDepth 100000 in
theorem mjk_167_0 : mj_chunk 167 0 40 = true := by decide +kernel
set_option maxRecDepth 100000 in
theorem mjk_167_40 : mj_chunk 167 40 40 = true := by decide +kernel
set_option maxRecDepth 100000 in
theorem mjk_167_80 : mj_chunk 167 80 40 = true := by decide +kernel
set_option maxRecDepth 100000 in
theorem mjk_167_120 : mj_chunk 167 120 40 = true := by decide +kernel
set_option maxRecDepth 100000 in
theorem mjk_167_160 : mj_chunk 167 160 40 = true := by decide +kernel
set_option maxRecDepth 100000 in
theorem mjk_167_200 : mj_chunk 167 200 40 = true := by decide +kernel
set_option maxRecDepth 100000 in
theorem mjk_167_240 : mj_chunk 167 240 40 = true := by decide +kernel
set_option maxRecDepth 100000 in
theorem mjk_167_280 : mj_chunk 167 280 40 = true := by decide +kernel
set_option maxRecDepth 100000 in
theorem mjk_167_320 : mj_chunk 167 320 27 = true := by decide +kernel
set_option maxRecDepth 100000 in
theorem mjl_167_0 : mj_chl 167 0 120 = true := by decide +kernel
set_option maxRecDepth 100000 in
theorem mjl_167_120 : mj_chl 167 120 120 = true := by decide +kernel
set_option maxRecDepth 100000 in
theorem mjl_167_240 : mj_chl 167 240 107 = true := by decide +kernel
set_option maxRecDepth 100000 in
theorem mjl_167 : ∀ k, k < mj_len 167 → mj_ckl 167 k = true := mj_lj (mj_lj (mj_l0 mjl_167_0) (mj_lh mjl_167_120)) (mj_lh mjl_167_240)
set_option maxRecDepth 100000 in
theorem mjk_167 : ∀ k, k < mj_len 167 → mj_ckp 167 k = true := mj_cj (mj_cj (mj_cj (mj_cj (mj_cj (mj_cj (mj_cj (mj_cj (mj_ch0 mjk_167_0) (mj_ch mjk_167_40)) (mj_ch mjk_167_80)) (mj_ch mjk_167_120)) (mj_ch mjk_167_160)) (mj_ch mjk_167_200)) (mj_ch mjk_167_240)) (mj_ch mjk_167_280)) (mj_ch mjk_167_320)
set_option maxRecDepth 100000 in
theorem mjm_167 : mj_ckm 167 = true := by decide +kernel
set_option maxRecDepth 100000 in
theorem mjk_168_0 : mj_chunk 168 0 22 = true := by decide +kernel
set_option maxRecDepth 100000 in
theorem mjl_168_0 : mj_chl 168 0 22 = true := by decide +kernel
set_option maxRecDepth 100000 in
theorem mjl_168 : ∀ k, k < mj_len 168 → mj_ckl 168 k = true := mj_l0 mjl_168_0
set_option maxRecDepth 100000 in
theorem mjk_168 : ∀ k, k < mj_len 168 → mj_ckp 168 k = true := mj_ch0 mjk_168_0
set_option maxRecDepth 100000 in
theorem mjm_168 : mj_ckm 168 = true := by decide +kernel
set_option maxRecDepth 100000 in
theorem mjk_169_0 : mj_chunk 169 0 40 = true := by decide +kernel
set_option maxRecDepth 100000 in
theorem mjk_169_40 : mj_chunk 169 40 26 = true := by decide +kernel
set_option maxRecDepth 100000 in
theorem mjl_169_0 : mj_chl 169 0 66 = true := by decide +kernel
set_option maxRecDepth 100000 in
theorem mjl_169 : ∀ k, k < mj_len 169 → mj_ckl 169 k = true := mj_l0 mjl_169_0
set_option maxRecDepth 100000 in
theorem mjk_169 : ∀ k, k < mj_len 169 → mj_ckp 169 k = true := mj_cj (mj_ch0 mjk_169_0) (mj_ch mjk_169_40)
set_option maxRecDepth 100000 in
theorem mjm_169 : mj_ckm 169 = true := by decide +kernel
set_option maxRecDepth 100000 in
theorem mjk_170_0 : mj_chunk 170 0 40 = true := by decide +kernel
set_option maxRecDepth 100000 in
theorem mjk_170_40 : mj_chunk 170 40 40 = true := by decide +kernel
set_option maxRecDepth 100000 in
theorem mjk_170_80 : mj_chunk 170 80 13 = true := by decide +kernel
set_option maxRecDepth 100000 in
theorem mjl_170_0 : mj_chl 170 0 93 = true := by decide +kernel
set_option maxRecDepth 100000 in
theorem mjl_170 : ∀ k, k < mj_len 170 → mj_ckl 170 k = true := mj_l0 mjl_170_0
set_option maxRecDepth 100000 in
theorem mjk_170 : ∀ k, k < mj_len 170 → mj_ckp 170 k = true := mj_cj (mj_cj (mj_ch0 mjk_170_0) (mj_ch mjk_170_40)) (mj_ch mjk_170_80)
set_option maxRecDepth 100000 in
theorem mjm_170 : mj_ckm 170 = true := by decide +kernel
set_option maxRecDepth 100000 in
theorem mjk_171_0 : mj_chunk 171 0 40 = true := by decide +kernel
set_option maxRecDepth 100000 in
theorem mjk_171_40 : mj_chunk 171 40 5 = true := by decide +kernel
set_option maxRecDepth 100000 in
theorem mjl_171_0 : mj_chl 171 0 45 = true := by decide +kernel
set_option maxRecDepth 100000 in
theorem mjl_171 : ∀ k, k < mj_len 171 → mj_ckl 171 k = true := mj_l0 mjl_171_0
set_option maxRecDepth 100000 in
theorem mjk_171 : ∀ k, k < mj_len 171 → mj_ckp 171 k = true := mj_cj (mj_ch0 mjk_171_0) (mj_ch mjk_171_40)
set_option maxRecDepth 100000 in
theorem mjm_171 : mj_ckm 171 = true := by decide +kernel
set_option maxRecDepth 100000 in
theorem mjk_172_0 : mj_chunk 172 0 40 = true := by decide +kernel
set_option maxRecDepth 100000 in
theorem mjk_172_40 : mj_chunk 172 40 15 = true := by decide +kernel
set_option maxRecDepth 100000 in
theorem mjl_172_0 : mj_chl 172 0 55 = true := by decide +kernel
set_option maxRecDepth 100000 in
theorem mjl_172 : ∀ k, k < mj_len 172 → mj_ckl 172 k = true := mj_l0 mjl_172_0
set_option maxRecDepth 100000 in
theorem mjk_172 : ∀ k, k < mj_len 172 → mj_ckp 172 k = true := mj_cj (mj_ch0 mjk_172_0) (mj_ch mjk_172_40)
set_option maxRecDepth 100000 in
theorem mjm_172 : mj_ckm 172 = true := by decide +kernel
set_option maxRecDepth 100000 in
theorem mjk_173_0 : mj_chunk 173 0 40 = true := by decide +kernel
set_option maxRecDepth 100000 in
theorem mjk_173_40 : mj_chunk 173 40 40 = true := by decide +kernel
set_option maxRecDepth 100000 in
theorem mjk_173_80 : mj_chunk 173 80 37 = true := by decide +kernel
set_option maxRecDepth 100000 in
theorem mjl_173_0 : mj_chl 173 0 117 = true := by decide +kernel
set_option maxRecDepth 100000 in
theorem mjl_173 : ∀ k, k < mj_len 173 → mj_ckl 173 k = true := mj_l0 mjl_173_0
set_option maxRecDepth 100000 in
theorem mjk_173 : ∀ k, k < mj_len 173 → mj_ckp 173 k = true := mj_cj (mj_cj (mj_ch0 mjk_173_0) (mj_ch mjk_173_40)) (mj_ch mjk_173_80)
set_option maxRecDepth 100000 in
theorem mjm_173 : mj_ckm 173 = true := by decide +kernel
set_option maxRecDepth 100000 in
theorem mjk_174_0 : mj_chunk 174 0 21 = true := by decide +kernel
set_option maxRecDepth 100000 in
theorem mjl_174_0 : mj_chl 174 0 21 = true := by decide +kernel
set_option maxRecDepth 100000 in
theorem mjl_174 : ∀ k, k < mj_len 174 → mj_ckl 174 k = true := mj_l0 mjl_174_0
set_option maxRecDepth 100000 in
theorem mjk_174 : ∀ k, k < mj_len 174 → mj_ckp 174 k = true := mj_ch0 mjk_174_0
set_option maxRecDepth 100000 in
theorem mjm_174 : mj_ckm 174 = true := by decide +kernel
set_option maxRecDepth 100000 in
theorem mjk_175_0 : mj_chunk 175 0 39 = true := by decide +kernel
set_option maxRecDepth 100000 in
theorem mjl_175_0 : mj_chl 175 0 39 = true := by decide +kernel
set_option maxRecDepth 100000 in
theorem mjl_175 : ∀ k, k < mj_len 175 → mj_ckl 175 k = true := mj_l0 mjl_175_0
set_option maxRecDepth 100000 in
theorem mjk_175 : ∀ k, k < mj_len 175 → mj_ckp 175 k = true := mj_ch0 mjk_175_0
set_option maxRecDepth 100000 in
theorem mjm_175 : mj_ckm 175 = true := by decide +kernel
set_option maxRecDepth 100000 in
theorem mjk_176_0 : mj_chunk 176 0 40 = true := by decide +kernel
set_option maxRecDepth 100000 in
theorem mjl_176_0 : mj_chl 176 0 40 = true := by decide +kernel
set_option maxRecDepth 100000 in
theorem mjl_176 : ∀ k, k < mj_len 176 → mj_ckl 176 k = true := mj_l0 mjl_176_0
set_option maxRecDepth 100000 in
theorem mjk_176 : ∀ k, k < mj_len 176 → mj_ckp 176 k = true := mj_ch0 mjk_176_0
set_option maxRecDepth 100000 in
theorem mjm_176 : mj_ckm 176 = true := by decide +kernel
set_option maxRecDepth 100000 in
theorem mjk_177_0 : mj_chunk 177 0 28 = true := by decide +kernel
set_option maxRecDepth 100000 in
theorem mjl_177_0 : mj_chl 177 0 28 = true := by decide +kernel
set_option maxRecDepth 100000 in
theorem mjl_177 : ∀ k, k < mj_len 177 → mj_ckl 177 k = true := mj_l0 mjl_177_0
set_option maxRecDepth 100000 in
theorem mjk_177 : ∀ k, k < mj_len 177 → mj_ckp 177 k = true := mj_ch0 mjk_177_0
set_option maxRecDepth 100000 in
theorem mjm_177 : mj_ckm 177 = true := by decide +kernel
set_option maxRecDepth 100000 in
theorem mjk_178_0 : mj_chunk 178 0 40 = true := by decide +kernel
set_option maxRecDepth 100000 in
theorem mjk_178_40 : mj_chunk 178 40 4 = true := by decide +kernel
set_option maxRecDepth 100000 in
theorem mjl_178_0 : mj_chl 178 0 44 = true := by decide +kernel
set_option maxRecDepth 100000 in
theorem mjl_178 : ∀ k, k < mj_len 178 → mj_ckl 178 k = true := mj_l0 mjl_178_0
set_option maxRecDepth 100000 in
theorem mjk_178 : ∀ k, k < mj_len 178 → mj_ckp 178 k = true := mj_cj (mj_ch0 mjk_178_0) (mj_ch mjk_178_40)
set_option maxRecDepth 100000 in
theorem mjm_178 : mj_ckm 178 = true := by decide +kernel
set_option maxRecDepth 100000 in
theorem mjk_179_0 : mj_chunk 179 0 40 = true := by decide +kernel
set_option maxRecDepth 100000 in
theorem mjk_179_40 : mj_chunk 179 40 40 = true := by decide +kernel
set_option maxRecDepth 100000 in
theorem mjk_179_80 : mj_chunk 179 80 13 = true := by decide +kernel
set_option maxRecDepth 100000 in
theorem mjl_179_0 : mj_chl 179 0 93 = true := by decide +kernel
set_option maxRecDepth 100000 in
theorem mjl_179 : ∀ k, k < mj_len 179 → mj_ckl 179 k = true := mj_l0 mjl_179_0
set_option maxRecDepth 100000 in
theorem mjk_179 : ∀ k, k < mj_len 179 → mj_ckp 179 k = true := mj_cj (mj_cj (mj_ch0 mjk_179_0) (mj_ch mjk_179_40)) (mj_ch mjk_179_80)
set_option maxRecDepth 100000 in
theorem mjm_179 : mj_ckm 179 = true := by decide +kernel
set_option maxRecDepth 100000 in
theorem mjk_180_0 : mj_chunk 180 0 40 = true := by decide +kernel
set_option maxRecDepth 100000 in
theorem mjl_180_0 : mj_chl 180 0 40 = true := by decide +kernel
set_option maxRecDepth 100000 in
theorem mjl_180 : ∀ k, k < mj_len 180 → mj_ckl 180 k = true := mj_l0 mjl_180_0
set_option maxRecDepth 100000 in
theorem mjk_180 : ∀ k, k < mj_len 180 → mj_ckp 180 k = true := mj_ch0 mjk_180_0
set_option maxRecDepth 100000 in
theorem mjm_180 : mj_ckm 180 = true := by decide +kernel
set_option maxRecDepth 100000 in
theorem mjk_181_0 : mj_chunk 181 0 40 = true := by decide +kernel
set_option maxRecDepth 100000 in
theorem mjk_181_40 : mj_chunk 181 40 5 = true := by decide +kernel
set_option maxRecDepth 100000 in
theorem mjl_181_0 : mj_chl 181 0 45 = true := by decide +kernel
set_option maxRecDepth 100000 in
theorem mjl_181 : ∀ k, k < mj_len 181 → mj_ckl 181 k = true := mj_l0 mjl_181_0
set_option maxRecDepth 100000 in
theorem mjk_181 : ∀ k, k < mj_len 181 → mj_ckp 181 k = true := mj_cj (mj_ch0 mjk_181_0) (mj_ch mjk_181_40)
set_option maxRecDepth 100000 in
theorem mjm_181 : mj_ckm 181 = true := by decide +kernel
