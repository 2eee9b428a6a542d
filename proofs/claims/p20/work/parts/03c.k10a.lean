set_option maxRecDepth 100000 in
theorem ai_kl0 : ai_chr cL_law ai_t165 0 72 = true := by decide +kernel
set_option maxRecDepth 100000 in
theorem ai_kl1 : ai_chr cL_law ai_t165 72 72 = true := by decide +kernel
set_option maxRecDepth 100000 in
theorem ai_kl2 : ai_chr cL_law ai_t165 144 72 = true := by decide +kernel
