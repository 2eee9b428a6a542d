set_option maxRecDepth 100000 in
theorem ai_k158 : ai_chk cX10_plain ai_t158 = true := by decide +kernel
set_option maxRecDepth 100000 in
theorem ai_k159 : ai_chk cX10_most ai_t159 = true := by decide +kernel
set_option maxRecDepth 100000 in
theorem ai_k160 : ai_chk cX10_count ai_t160 = true := by decide +kernel
set_option maxRecDepth 100000 in
theorem ai_k161 : ai_chk cJ6_bitCount_0f7a4 ai_t161 = true := by decide +kernel
set_option maxRecDepth 100000 in
theorem ai_k162 : ai_chk cJ9_floorMod_7cf53 ai_t162 = true := by decide +kernel
set_option maxRecDepth 100000 in
theorem ai_k163 : ai_chk cJ9_max_7cf53 ai_t163 = true := by decide +kernel
set_option maxRecDepth 100000 in
theorem ai_k164 : ai_chk cJ9_min_7cf53 ai_t164 = true := by decide +kernel
