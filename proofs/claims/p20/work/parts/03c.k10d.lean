set_option maxRecDepth 100000 in
theorem ai_kl9 : ai_chr cL_law ai_t165 648 72 = true := by decide +kernel
set_option maxRecDepth 100000 in
theorem ai_kl10 : ai_chr cL_law ai_t165 720 72 = true := by decide +kernel
set_option maxRecDepth 100000 in
theorem ai_kl11 : ai_chr cL_law ai_t165 792 68 = true := by decide +kernel
