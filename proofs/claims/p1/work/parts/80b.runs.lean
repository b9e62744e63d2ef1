theorem aG_tl4 : ai_go (ai_run 1000000) [(18, az_tl5, az_to5)] 1000 99 6 ai_M142 18 az_tl4 az_to4 = true := by decide +kernel
theorem aF_tl4 : ak_F 99 6 142 18 az_tl4 az_to4 := ak_cut (ak_all _) ak_t142 (ak_ts1 aF_tl5 ak_ts0) aG_tl4
theorem aG_tl3 : ai_go (ai_run 1000000) [(18, az_tl4, az_to4)] 1000 99 6 ai_M142 18 az_tl3 az_to3 = true := by decide +kernel
theorem aF_tl3 : ak_F 99 6 142 18 az_tl3 az_to3 := ak_cut (ak_all _) ak_t142 (ak_ts1 aF_tl4 ak_ts0) aG_tl3
theorem aG_tl2 : ai_go (ai_run 1000000) [(18, az_tl3, az_to3)] 1000 99 6 ai_M142 18 az_tl2 az_to2 = true := by decide +kernel
theorem aF_tl2 : ak_F 99 6 142 18 az_tl2 az_to2 := ak_cut (ak_all _) ak_t142 (ak_ts1 aF_tl3 ak_ts0) aG_tl2
