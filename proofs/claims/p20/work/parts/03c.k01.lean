set_option maxRecDepth 100000 in
theorem ai_k25 : ai_chk cX2_startOf ai_t25 = true := by decide +kernel
set_option maxRecDepth 100000 in
theorem ai_k26 : ai_chk cX2_beginOf ai_t26 = true := by decide +kernel
set_option maxRecDepth 100000 in
theorem ai_k27 : ai_chk cX2_hasDoor ai_t27 = true := by decide +kernel
set_option maxRecDepth 100000 in
theorem ai_k28 : ai_chk cX3_init ai_t28 = true := by decide +kernel
set_option maxRecDepth 100000 in
theorem ai_k29 : ai_chk cX3_begin ai_t29 = true := by decide +kernel
set_option maxRecDepth 100000 in
theorem ai_k30 : ai_chk cX3_fitFewest ai_t30 = true := by decide +kernel
set_option maxRecDepth 100000 in
theorem ai_k31 : ai_chk cX3_mirrored ai_t31 = true := by decide +kernel
set_option maxRecDepth 100000 in
theorem ai_k32 : ai_chk cX3_fit ai_t32 = true := by decide +kernel
set_option maxRecDepth 100000 in
theorem ai_k33 : ai_chk cX3_showDoors ai_t33 = true := by decide +kernel
set_option maxRecDepth 100000 in
theorem ai_k34 : ai_chk cX3_giveDoors ai_t34 = true := by decide +kernel
set_option maxRecDepth 100000 in
theorem ai_k35 : ai_chk cX3_keepPlaces ai_t35 = true := by decide +kernel
set_option maxRecDepth 100000 in
theorem ai_k36 : ai_chk cX3_search ai_t36 = true := by decide +kernel
set_option maxRecDepth 100000 in
theorem ai_k37 : ai_chk cX3_searchTicks ai_t37 = true := by decide +kernel
set_option maxRecDepth 100000 in
theorem ai_k38 : ai_chk cX4_init ai_t38 = true := by decide +kernel
set_option maxRecDepth 100000 in
theorem ai_k39 : ai_chk cX4_tell ai_t39 = true := by decide +kernel
set_option maxRecDepth 100000 in
theorem ai_k40 : ai_chk cX4_letter ai_t40 = true := by decide +kernel
set_option maxRecDepth 100000 in
theorem ai_k41 : ai_chk cX4_settle ai_t41 = true := by decide +kernel
set_option maxRecDepth 100000 in
theorem ai_k42 : ai_chk cX4_setOutAll ai_t42 = true := by decide +kernel
set_option maxRecDepth 100000 in
theorem ai_k43 : ai_chk cX4_findHead ai_t43 = true := by decide +kernel
