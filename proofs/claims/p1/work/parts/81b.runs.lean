theorem aG_dl4 : ai_go (ai_run 1000000) [(24, az_dl5, az_do5)] 1000 99 6 ai_M111 24 az_dl4 az_do4 = true := by decide +kernel
theorem aF_dl4 : ak_F 99 6 111 24 az_dl4 az_do4 := ak_cut (ak_all _) ak_t111 (ak_ts1 aF_dl5 ak_ts0) aG_dl4
theorem aG_dl3 : ai_go (ai_run 1000000) [(24, az_dl4, az_do4)] 1000 99 6 ai_M111 24 az_dl3 az_do3 = true := by decide +kernel
theorem aF_dl3 : ak_F 99 6 111 24 az_dl3 az_do3 := ak_cut (ak_all _) ak_t111 (ak_ts1 aF_dl4 ak_ts0) aG_dl3
theorem aG_dl2 : ai_go (ai_run 1000000) [(24, az_dl3, az_do3)] 1000 99 6 ai_M111 24 az_dl2 az_do2 = true := by decide +kernel
theorem aF_dl2 : ak_F 99 6 111 24 az_dl2 az_do2 := ak_cut (ak_all _) ak_t111 (ak_ts1 aF_dl3 ak_ts0) aG_dl2
