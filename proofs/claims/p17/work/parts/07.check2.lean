set_option maxRecDepth 100000 in
theorem mjl_0 : mq_lall 0 1 = true := by decide +kernel
set_option maxRecDepth 100000 in
theorem mjl_1 : mq_lall 1 4 = true := by decide +kernel
set_option maxRecDepth 100000 in
theorem mjl_5 : mq_lall 5 7 = true := by decide +kernel
set_option maxRecDepth 100000 in
theorem mjl_12 : mq_lall 12 10 = true := by decide +kernel
set_option maxRecDepth 100000 in
theorem mjl_22 : mq_lall 22 4 = true := by decide +kernel
set_option maxRecDepth 100000 in
theorem mjl_26 : mq_lall 26 9 = true := by decide +kernel
set_option maxRecDepth 100000 in
theorem mjl_35 : mq_lall 35 5 = true := by decide +kernel
set_option maxRecDepth 100000 in
theorem mjl_40 : mq_lall 40 6 = true := by decide +kernel
set_option maxRecDepth 100000 in
theorem mjl_46 : mq_lall 46 5 = true := by decide +kernel
set_option maxRecDepth 100000 in
theorem mjl_51 : mq_lall 51 5 = true := by decide +kernel
set_option maxRecDepth 100000 in
theorem mjl_56 : mq_lall 56 5 = true := by decide +kernel
set_option maxRecDepth 100000 in
theorem mjl_61 : mq_lall 61 6 = true := by decide +kernel
set_option maxRecDepth 100000 in
theorem mjl_67 : mq_lall 67 5 = true := by decide +kernel
set_option maxRecDepth 100000 in
theorem mjl_72 : mq_lall 72 7 = true := by decide +kernel
set_option maxRecDepth 100000 in
theorem mjl_79 : mq_lall 79 4 = true := by decide +kernel
set_option maxRecDepth 100000 in
theorem mjl_83 : mq_lall 83 10 = true := by decide +kernel
set_option maxRecDepth 100000 in
theorem mjl_93 : mq_lall 93 5 = true := by decide +kernel
set_option maxRecDepth 100000 in
theorem mjl_98 : mq_lall 98 5 = true := by decide +kernel
set_option maxRecDepth 100000 in
theorem mjl_103 : mq_lall 103 7 = true := by decide +kernel
set_option maxRecDepth 100000 in
theorem mjl_110 : mq_lall 110 7 = true := by decide +kernel
set_option maxRecDepth 100000 in
theorem mjl_117 : mq_lall 117 6 = true := by decide +kernel
set_option maxRecDepth 100000 in
theorem mjl_123 : mq_lall 123 8 = true := by decide +kernel
set_option maxRecDepth 100000 in
theorem mjl_131 : mq_lall 131 4 = true := by decide +kernel
set_option maxRecDepth 100000 in
theorem mjl_135 : mq_lall 135 5 = true := by decide +kernel
set_option maxRecDepth 100000 in
theorem mjl_140 : mq_lall 140 7 = true := by decide +kernel
set_option maxRecDepth 100000 in
theorem mjl_147 : mq_lall 147 3 = true := by decide +kernel
set_option maxRecDepth 100000 in
theorem mjl_150 : mq_lall 150 5 = true := by decide +kernel
set_option maxRecDepth 100000 in
theorem mjl_155 : mq_lall 155 6 = true := by decide +kernel
set_option maxRecDepth 100000 in
theorem mjl_161 : mq_lall 161 5 = true := by decide +kernel
set_option maxRecDepth 100000 in
theorem mjl_166 : mq_lall 166 2 = true := by decide +kernel
set_option maxRecDepth 100000 in
theorem mjl_168 : mq_lall 168 6 = true := by decide +kernel
set_option maxRecDepth 100000 in
theorem mjl_174 : mq_lall 174 7 = true := by decide +kernel
set_option maxRecDepth 100000 in
theorem mjl_181 : mq_lall 181 4 = true := by decide +kernel
set_option maxRecDepth 100000 in
theorem mjl_185 : mq_lall 185 5 = true := by decide +kernel
set_option maxRecDepth 100000 in
theorem mjl_190 : mq_lall 190 2 = true := by decide +kernel
set_option maxRecDepth 100000 in
theorem mjl_192 : mq_lall 192 6 = true := by decide +kernel
set_option maxRecDepth 100000 in
theorem mjl_198 : mq_lall 198 3 = true := by decide +kernel
set_option maxRecDepth 100000 in
theorem mjl_201 : mq_lall 201 8 = true := by decide +kernel
