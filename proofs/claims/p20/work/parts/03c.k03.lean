set_option maxRecDepth 100000 in
theorem ai_k72 : ai_chk cX8_latenessOf ai_t72 = true := by decide +kernel
set_option maxRecDepth 100000 in
theorem ai_k73 : ai_chk cX8_wireAt ai_t73 = true := by decide +kernel
set_option maxRecDepth 100000 in
theorem ai_k74 : ai_chk cX8_wiresIn ai_t74 = true := by decide +kernel
set_option maxRecDepth 100000 in
theorem ai_k75 : ai_chk cX8_hasHop ai_t75 = true := by decide +kernel
set_option maxRecDepth 100000 in
theorem ai_k76 : ai_chk cX8_hopOn ai_t76 = true := by decide +kernel
set_option maxRecDepth 100000 in
theorem ai_k77 : ai_chk cX8_shiftOf ai_t77 = true := by decide +kernel
set_option maxRecDepth 100000 in
theorem ai_k78 : ai_chk cX8_atRank ai_t78 = true := by decide +kernel
set_option maxRecDepth 100000 in
theorem ai_k79 : ai_chk cX8_nextBehind ai_t79 = true := by decide +kernel
set_option maxRecDepth 100000 in
theorem ai_k80 : ai_chk cX8_walk ai_t80 = true := by decide +kernel
set_option maxRecDepth 100000 in
theorem ai_k81 : ai_chk cX8_offer ai_t81 = true := by decide +kernel
set_option maxRecDepth 100000 in
theorem ai_k82 : ai_chk cX9_init ai_t82 = true := by decide +kernel
set_option maxRecDepth 100000 in
theorem ai_k83 : ai_chk cX9_box ai_t83 = true := by decide +kernel
set_option maxRecDepth 100000 in
theorem ai_k84 : ai_chk cX9_wire ai_t84 = true := by decide +kernel
set_option maxRecDepth 100000 in
theorem ai_k85 : ai_chk cX9_cycle ai_t85 = true := by decide +kernel
set_option maxRecDepth 100000 in
theorem ai_k86 : ai_chk cX9_drift ai_t86 = true := by decide +kernel
set_option maxRecDepth 100000 in
theorem ai_k87 : ai_chk cX9_way ai_t87 = true := by decide +kernel
set_option maxRecDepth 100000 in
theorem ai_k88 : ai_chk cX9_stream ai_t88 = true := by decide +kernel
set_option maxRecDepth 100000 in
theorem ai_k89 : ai_chk cX9_strike ai_t89 = true := by decide +kernel
set_option maxRecDepth 100000 in
theorem ai_k90 : ai_chk cX9_plan ai_t90 = true := by decide +kernel
set_option maxRecDepth 100000 in
theorem ai_k91 : ai_chk cX9_add ai_t91 = true := by decide +kernel
set_option maxRecDepth 100000 in
theorem ai_k92 : ai_chk cX9_stir ai_t92 = true := by decide +kernel
set_option maxRecDepth 100000 in
theorem ai_k93 : ai_chk cX9_place ai_t93 = true := by decide +kernel
set_option maxRecDepth 100000 in
theorem ai_k94 : ai_chk cX9_tries ai_t94 = true := by decide +kernel
set_option maxRecDepth 100000 in
theorem ai_k95 : ai_chk cX9_door ai_t95 = true := by decide +kernel
set_option maxRecDepth 100000 in
theorem ai_k96 : ai_chk cX9_waits ai_t96 = true := by decide +kernel
