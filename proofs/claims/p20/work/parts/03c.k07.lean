set_option maxRecDepth 100000 in
theorem ai_k133 : ai_chk cX10_seekWith ai_t133 = true := by decide +kernel
set_option maxRecDepth 100000 in
theorem ai_k134 : ai_chk cX10_plan ai_t134 = true := by decide +kernel
set_option maxRecDepth 100000 in
theorem ai_k135 : ai_chk cX10_add ai_t135 = true := by decide +kernel
set_option maxRecDepth 100000 in
theorem ai_k136 : ai_chk cX10_placed ai_t136 = true := by decide +kernel
set_option maxRecDepth 100000 in
theorem ai_k137 : ai_chk cX10_bits ai_t137 = true := by decide +kernel
set_option maxRecDepth 100000 in
theorem ai_k138 : ai_chk cX10_isAhead ai_t138 = true := by decide +kernel
set_option maxRecDepth 100000 in
theorem ai_k139 : ai_chk cX10_nextSet ai_t139 = true := by decide +kernel
set_option maxRecDepth 100000 in
theorem ai_k140 : ai_chk cX10_stir ai_t140 = true := by decide +kernel
set_option maxRecDepth 100000 in
theorem ai_k141 : ai_chk cX10_isPlace ai_t141 = true := by decide +kernel
set_option maxRecDepth 100000 in
theorem ai_k142 : ai_chk cX10_place ai_t142 = true := by decide +kernel
set_option maxRecDepth 100000 in
theorem ai_k143 : ai_chk cX10_tries ai_t143 = true := by decide +kernel
set_option maxRecDepth 100000 in
theorem ai_k144 : ai_chk cX10_door ai_t144 = true := by decide +kernel
set_option maxRecDepth 100000 in
theorem ai_k145 : ai_chk cX10_rest ai_t145 = true := by decide +kernel
set_option maxRecDepth 100000 in
theorem ai_k146 : ai_chk cX10_isOpen ai_t146 = true := by decide +kernel
set_option maxRecDepth 100000 in
theorem ai_k147 : ai_chk cX10_waits ai_t147 = true := by decide +kernel
set_option maxRecDepth 100000 in
theorem ai_k148 : ai_chk cX10_worst ai_t148 = true := by decide +kernel
set_option maxRecDepth 100000 in
theorem ai_k149 : ai_chk cX10_clock ai_t149 = true := by decide +kernel
