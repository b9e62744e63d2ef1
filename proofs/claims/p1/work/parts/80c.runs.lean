theorem aG_tl1 : ai_go (ai_run 1000000) [(18, az_tl2, az_to2)] 1000 99 6 ai_M142 18 az_tl1 az_to1 = true := by decide +kernel
theorem aF_tl1 : ak_F 99 6 142 18 az_tl1 az_to1 := ak_cut (ak_all _) ak_t142 (ak_ts1 aF_tl2 ak_ts0) aG_tl1
theorem aG_tl0 : ai_go (ai_run 1000000) [(18, az_tl1, az_to1)] 1000 99 6 ai_M142 18 az_tl0 az_to0 = true := by decide +kernel
theorem aF_tl0 : ak_F 99 6 142 18 az_tl0 az_to0 := ak_cut (ak_all _) ak_t142 (ak_ts1 aF_tl1 ak_ts0) aG_tl0
theorem aG_tp : ai_go (ai_run 1000000) [(18, az_tl0, az_to0)] 1000 99 6 ai_M142 0 (az_tp_l, [], az_tp_w) az_to0 = true := by decide +kernel
theorem aF_tp : ak_F 99 6 142 0 (az_tp_l, [], az_tp_w) az_to0 := ak_cut (ak_all _) ak_t142 (ak_ts1 aF_tl0 ak_ts0) aG_tp
