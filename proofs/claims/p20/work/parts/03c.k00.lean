set_option maxRecDepth 100000 in
theorem ai_k0 : ai_chk cX0_init ai_t0 = true := by decide +kernel
set_option maxRecDepth 100000 in
theorem ai_k1 : ai_chk cX0_clear ai_t1 = true := by decide +kernel
set_option maxRecDepth 100000 in
theorem ai_k2 : ai_chk cX0_hand ai_t2 = true := by decide +kernel
set_option maxRecDepth 100000 in
theorem ai_k3 : ai_chk cX0_findMeetings ai_t3 = true := by decide +kernel
set_option maxRecDepth 100000 in
theorem ai_k4 : ai_chk cX0_waitFrom ai_t4 = true := by decide +kernel
set_option maxRecDepth 100000 in
theorem ai_k5 : ai_chk cX1_init ai_t5 = true := by decide +kernel
set_option maxRecDepth 100000 in
theorem ai_k6 : ai_chk cX1_setOut ai_t6 = true := by decide +kernel
set_option maxRecDepth 100000 in
theorem ai_k7 : ai_chk cX1_nextWire ai_t7 = true := by decide +kernel
set_option maxRecDepth 100000 in
theorem ai_k8 : ai_chk cX1_readyAt ai_t8 = true := by decide +kernel
set_option maxRecDepth 100000 in
theorem ai_k9 : ai_chk cX1_goesAheadOf ai_t9 = true := by decide +kernel
set_option maxRecDepth 100000 in
theorem ai_k10 : ai_chk cX1_readyFor ai_t10 = true := by decide +kernel
set_option maxRecDepth 100000 in
theorem ai_k11 : ai_chk cX1_waitsFor ai_t11 = true := by decide +kernel
set_option maxRecDepth 100000 in
theorem ai_k12 : ai_chk cX2_init ai_t12 = true := by decide +kernel
set_option maxRecDepth 100000 in
theorem ai_k13 : ai_chk cX2_hasBox ai_t13 = true := by decide +kernel
set_option maxRecDepth 100000 in
theorem ai_k14 : ai_chk cX2_hasPair ai_t14 = true := by decide +kernel
set_option maxRecDepth 100000 in
theorem ai_k15 : ai_chk cX2_hasWire ai_t15 = true := by decide +kernel
set_option maxRecDepth 100000 in
theorem ai_k16 : ai_chk cX2_hasTick ai_t16 = true := by decide +kernel
set_option maxRecDepth 100000 in
theorem ai_k17 : ai_chk cX2_makeBox ai_t17 = true := by decide +kernel
set_option maxRecDepth 100000 in
theorem ai_k18 : ai_chk cX2_makeWire ai_t18 = true := by decide +kernel
set_option maxRecDepth 100000 in
theorem ai_k19 : ai_chk cX2_rightClocks ai_t19 = true := by decide +kernel
set_option maxRecDepth 100000 in
theorem ai_k20 : ai_chk cX2_timeOn ai_t20 = true := by decide +kernel
set_option maxRecDepth 100000 in
theorem ai_k21 : ai_chk cX2_crossing ai_t21 = true := by decide +kernel
set_option maxRecDepth 100000 in
theorem ai_k22 : ai_chk cX2_holdBehind ai_t22 = true := by decide +kernel
set_option maxRecDepth 100000 in
theorem ai_k23 : ai_chk cX2_stayBehind ai_t23 = true := by decide +kernel
set_option maxRecDepth 100000 in
theorem ai_k24 : ai_chk cX2_offAt ai_t24 = true := by decide +kernel
