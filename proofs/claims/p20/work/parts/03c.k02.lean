set_option maxRecDepth 100000 in
theorem ai_k44 : ai_chk cX4_beginOf ai_t44 = true := by decide +kernel
set_option maxRecDepth 100000 in
theorem ai_k45 : ai_chk cX4_earliestWire ai_t45 = true := by decide +kernel
set_option maxRecDepth 100000 in
theorem ai_k46 : ai_chk cX4_beginOn ai_t46 = true := by decide +kernel
set_option maxRecDepth 100000 in
theorem ai_k47 : ai_chk cX4_longestRow ai_t47 = true := by decide +kernel
set_option maxRecDepth 100000 in
theorem ai_k48 : ai_chk cX4_waitingAt ai_t48 = true := by decide +kernel
set_option maxRecDepth 100000 in
theorem ai_k49 : ai_chk cX4_ended ai_t49 = true := by decide +kernel
set_option maxRecDepth 100000 in
theorem ai_k50 : ai_chk cX5_init ai_t50 = true := by decide +kernel
set_option maxRecDepth 100000 in
theorem ai_k51 : ai_chk cX5_clear ai_t51 = true := by decide +kernel
set_option maxRecDepth 100000 in
theorem ai_k52 : ai_chk cX5_fill ai_t52 = true := by decide +kernel
set_option maxRecDepth 100000 in
theorem ai_k53 : ai_chk cX5_has ai_t53 = true := by decide +kernel
set_option maxRecDepth 100000 in
theorem ai_k54 : ai_chk cX5_include ai_t54 = true := by decide +kernel
set_option maxRecDepth 100000 in
theorem ai_k55 : ai_chk cX5_exclude ai_t55 = true := by decide +kernel
set_option maxRecDepth 100000 in
theorem ai_k56 : ai_chk cX5_includePutOff ai_t56 = true := by decide +kernel
set_option maxRecDepth 100000 in
theorem ai_k57 : ai_chk cX5_becomeLetters ai_t57 = true := by decide +kernel
set_option maxRecDepth 100000 in
theorem ai_k58 : ai_chk cX5_lettersOf ai_t58 = true := by decide +kernel
set_option maxRecDepth 100000 in
theorem ai_k59 : ai_chk cX5_includeTurned ai_t59 = true := by decide +kernel
set_option maxRecDepth 100000 in
theorem ai_k60 : ai_chk cX6_init ai_t60 = true := by decide +kernel
set_option maxRecDepth 100000 in
theorem ai_k61 : ai_chk cX6_offer ai_t61 = true := by decide +kernel
set_option maxRecDepth 100000 in
theorem ai_k62 : ai_chk cX6_wayOf ai_t62 = true := by decide +kernel
set_option maxRecDepth 100000 in
theorem ai_k63 : ai_chk cX6_wayNow ai_t63 = true := by decide +kernel
set_option maxRecDepth 100000 in
theorem ai_k64 : ai_chk cX7_init ai_t64 = true := by decide +kernel
set_option maxRecDepth 100000 in
theorem ai_k65 : ai_chk cX7_tell ai_t65 = true := by decide +kernel
set_option maxRecDepth 100000 in
theorem ai_k66 : ai_chk cX7_one ai_t66 = true := by decide +kernel
set_option maxRecDepth 100000 in
theorem ai_k67 : ai_chk cX7_placedOne ai_t67 = true := by decide +kernel
set_option maxRecDepth 100000 in
theorem ai_k68 : ai_chk cX7_allOfThem ai_t68 = true := by decide +kernel
set_option maxRecDepth 100000 in
theorem ai_k69 : ai_chk cX7_withPlace ai_t69 = true := by decide +kernel
set_option maxRecDepth 100000 in
theorem ai_k70 : ai_chk cX7_withoutPlace ai_t70 = true := by decide +kernel
set_option maxRecDepth 100000 in
theorem ai_k71 : ai_chk cX8_init ai_t71 = true := by decide +kernel
