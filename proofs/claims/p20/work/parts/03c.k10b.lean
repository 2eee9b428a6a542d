set_option maxRecDepth 100000 in
theorem ai_kl3 : ai_chr cL_law ai_t165 216 72 = true := by decide +kernel
set_option maxRecDepth 100000 in
theorem ai_kl4 : ai_chr cL_law ai_t165 288 72 = true := by decide +kernel
set_option maxRecDepth 100000 in
theorem ai_kl5 : ai_chr cL_law ai_t165 360 72 = true := by decide +kernel
