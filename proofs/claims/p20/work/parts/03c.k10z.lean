theorem ai_k165 : ai_chk cL_law ai_t165 = true := by
  refine List.all_eq_true.mpr fun pc h => ?_
  have h1 := List.mem_range.mp h
  have h2 : ai_t165.length = 860 := by decide +kernel
  rw [h2] at h1
  by_cases g0 : pc < 72
  · exact ai_chr_s ai_kl0 (by omega) (by omega)
  by_cases g1 : pc < 144
  · exact ai_chr_s ai_kl1 (by omega) (by omega)
  by_cases g2 : pc < 216
  · exact ai_chr_s ai_kl2 (by omega) (by omega)
  by_cases g3 : pc < 288
  · exact ai_chr_s ai_kl3 (by omega) (by omega)
  by_cases g4 : pc < 360
  · exact ai_chr_s ai_kl4 (by omega) (by omega)
  by_cases g5 : pc < 432
  · exact ai_chr_s ai_kl5 (by omega) (by omega)
  by_cases g6 : pc < 504
  · exact ai_chr_s ai_kl6 (by omega) (by omega)
  by_cases g7 : pc < 576
  · exact ai_chr_s ai_kl7 (by omega) (by omega)
  by_cases g8 : pc < 648
  · exact ai_chr_s ai_kl8 (by omega) (by omega)
  by_cases g9 : pc < 720
  · exact ai_chr_s ai_kl9 (by omega) (by omega)
  by_cases g10 : pc < 792
  · exact ai_chr_s ai_kl10 (by omega) (by omega)
  by_cases g11 : pc < 860
  · exact ai_chr_s ai_kl11 (by omega) (by omega)
  omega
