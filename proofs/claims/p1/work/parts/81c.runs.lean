theorem aG_dl1 : ai_go (ai_run 1000000) [(24, az_dl2, az_do2)] 1000 99 6 ai_M111 24 az_dl1 az_do1 = true := by decide +kernel
theorem aF_dl1 : ak_F 99 6 111 24 az_dl1 az_do1 := ak_cut (ak_all _) ak_t111 (ak_ts1 aF_dl2 ak_ts0) aG_dl1
theorem aG_dl0 : ai_go (ai_run 1000000) [(24, az_dl1, az_do1)] 1000 99 6 ai_M111 24 az_dl0 az_do0 = true := by decide +kernel
theorem aF_dl0 : ak_F 99 6 111 24 az_dl0 az_do0 := ak_cut (ak_all _) ak_t111 (ak_ts1 aF_dl1 ak_ts0) aG_dl0
theorem aG_dp : ai_go (ai_run 1000000) [(24, az_dl0, az_do0)] 1000 99 6 ai_M111 0 (az_dp_l, [], az_dp_w) az_do0 = true := by decide +kernel
theorem aF_dp : ak_F 99 6 111 0 (az_dp_l, [], az_dp_w) az_do0 := ak_cut (ak_all _) ak_t111 (ak_ts1 aF_dl0 ak_ts0) aG_dp
