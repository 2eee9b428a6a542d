set_option maxRecDepth 100000 in
theorem ai_kl6 : ai_chr cL_law ai_t165 432 72 = true := by decide +kernel
set_option maxRecDepth 100000 in
theorem ai_kl7 : ai_chr cL_law ai_t165 504 72 = true := by decide +kernel
set_option maxRecDepth 100000 in
theorem ai_kl8 : ai_chr cL_law ai_t165 576 72 = true := by decide +kernel
