set_option maxRecDepth 100000 in
theorem ai_k150 : ai_chk cX10_send ai_t150 = true := by decide +kernel
set_option maxRecDepth 100000 in
theorem ai_k151 : ai_chk cX10_leave ai_t151 = true := by decide +kernel
set_option maxRecDepth 100000 in
theorem ai_k152 : ai_chk cX10_leaves ai_t152 = true := by decide +kernel
set_option maxRecDepth 100000 in
theorem ai_k153 : ai_chk cX10_room ai_t153 = true := by decide +kernel
set_option maxRecDepth 100000 in
theorem ai_k154 : ai_chk cX10_follow ai_t154 = true := by decide +kernel
set_option maxRecDepth 100000 in
theorem ai_k155 : ai_chk cX10_look ai_t155 = true := by decide +kernel
set_option maxRecDepth 100000 in
theorem ai_k156 : ai_chk cX10_go ai_t156 = true := by decide +kernel
set_option maxRecDepth 100000 in
theorem ai_k157 : ai_chk cX10_ahead ai_t157 = true := by decide +kernel
