set_option maxRecDepth 100000 in
theorem ai_k116 : ai_chk cX10_wire ai_t116 = true := by decide +kernel
set_option maxRecDepth 100000 in
theorem ai_k117 : ai_chk cX10_cycle ai_t117 = true := by decide +kernel
set_option maxRecDepth 100000 in
theorem ai_k118 : ai_chk cX10_drift ai_t118 = true := by decide +kernel
set_option maxRecDepth 100000 in
theorem ai_k119 : ai_chk cX10_late ai_t119 = true := by decide +kernel
set_option maxRecDepth 100000 in
theorem ai_k120 : ai_chk cX10_isSeen ai_t120 = true := by decide +kernel
set_option maxRecDepth 100000 in
theorem ai_k121 : ai_chk cX10_findWays ai_t121 = true := by decide +kernel
set_option maxRecDepth 100000 in
theorem ai_k122 : ai_chk cX10_keep ai_t122 = true := by decide +kernel
set_option maxRecDepth 100000 in
theorem ai_k123 : ai_chk cX10_isBehind ai_t123 = true := by decide +kernel
set_option maxRecDepth 100000 in
theorem ai_k124 : ai_chk cX10_isSize ai_t124 = true := by decide +kernel
set_option maxRecDepth 100000 in
theorem ai_k125 : ai_chk cX10_way ai_t125 = true := by decide +kernel
