set_option maxRecDepth 100000 in
theorem ai_k97 : ai_chk cX9_worst ai_t97 = true := by decide +kernel
set_option maxRecDepth 100000 in
theorem ai_k98 : ai_chk cX9_clock ai_t98 = true := by decide +kernel
set_option maxRecDepth 100000 in
theorem ai_k99 : ai_chk cX9_send ai_t99 = true := by decide +kernel
set_option maxRecDepth 100000 in
theorem ai_k100 : ai_chk cX9_leaves ai_t100 = true := by decide +kernel
set_option maxRecDepth 100000 in
theorem ai_k101 : ai_chk cX9_room ai_t101 = true := by decide +kernel
set_option maxRecDepth 100000 in
theorem ai_k102 : ai_chk cX9_plain ai_t102 = true := by decide +kernel
set_option maxRecDepth 100000 in
theorem ai_k103 : ai_chk cX9_most ai_t103 = true := by decide +kernel
set_option maxRecDepth 100000 in
theorem ai_k104 : ai_chk cX9_count ai_t104 = true := by decide +kernel
set_option maxRecDepth 100000 in
theorem ai_k105 : ai_chk cX9_findChoices ai_t105 = true := by decide +kernel
set_option maxRecDepth 100000 in
theorem ai_k106 : ai_chk cX9_isPeriod ai_t106 = true := by decide +kernel
set_option maxRecDepth 100000 in
theorem ai_k107 : ai_chk cX9_isInTime ai_t107 = true := by decide +kernel
set_option maxRecDepth 100000 in
theorem ai_k108 : ai_chk cX9_isCycle ai_t108 = true := by decide +kernel
set_option maxRecDepth 100000 in
theorem ai_k109 : ai_chk cX9_isSize ai_t109 = true := by decide +kernel
set_option maxRecDepth 100000 in
theorem ai_k110 : ai_chk cX9_within ai_t110 = true := by decide +kernel
set_option maxRecDepth 100000 in
theorem ai_k111 : ai_chk cX9_aheadOfEnd ai_t111 = true := by decide +kernel
set_option maxRecDepth 100000 in
theorem ai_k112 : ai_chk cX10_init ai_t112 = true := by decide +kernel
set_option maxRecDepth 100000 in
theorem ai_k113 : ai_chk cX10_isBox ai_t113 = true := by decide +kernel
set_option maxRecDepth 100000 in
theorem ai_k114 : ai_chk cX10_isWire ai_t114 = true := by decide +kernel
set_option maxRecDepth 100000 in
theorem ai_k115 : ai_chk cX10_box ai_t115 = true := by decide +kernel
