set_option maxRecDepth 100000 in
theorem ai_k126 : ai_chk cX10_stream ai_t126 = true := by decide +kernel
set_option maxRecDepth 100000 in
theorem ai_k127 : ai_chk cX10_strike ai_t127 = true := by decide +kernel
set_option maxRecDepth 100000 in
theorem ai_k128 : ai_chk cX10_start ai_t128 = true := by decide +kernel
set_option maxRecDepth 100000 in
theorem ai_k129 : ai_chk cX10_meets ai_t129 = true := by decide +kernel
set_option maxRecDepth 100000 in
theorem ai_k130 : ai_chk cX10_put ai_t130 = true := by decide +kernel
set_option maxRecDepth 100000 in
theorem ai_k131 : ai_chk cX10_lay ai_t131 = true := by decide +kernel
set_option maxRecDepth 100000 in
theorem ai_k132 : ai_chk cX10_seek ai_t132 = true := by decide +kernel
