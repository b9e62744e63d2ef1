theorem aG_c5_1 : ai_go (ai_run 1000000) [] 1000 0 8 ai_M179 339 az_c5_1 az_o = true := by decide +kernel
theorem aF_c5_1 : ak_F 0 8 179 339 az_c5_1 az_o := ak_cut (ak_all _) ak_t179 ak_ts0 aG_c5_1
theorem aG_c5_x : ai_go (ai_orc [((2, 0, 0, 33377), 7, az_te_l, az_te_w, az_to0)] (ai_run 1000000)) [] 1000 0 8 ai_M179 339 az_c5_x az_o = true := by decide +kernel
theorem aF_c5_x : ak_F 0 8 179 339 az_c5_x az_o := ak_cut (ai_orc_ok (ak_all _) (ak_us1 (ak_U_of ak_k170_aF_te aF_te) ak_us0)) ak_t179 ak_ts0 aG_c5_x
theorem aG_c5 : ai_go (ai_run 1000000) [(339, az_c5_0, az_o), (339, az_c5_1, az_o), (339, az_c5_x, az_o)] 1000 0 8 ai_M179 329 az_c5 az_o = true := by decide +kernel
theorem aF_c5 : ak_F 0 8 179 329 az_c5 az_o := ak_cut (ak_all _) ak_t179 (ak_ts1 aF_c5_0 (ak_ts1 aF_c5_1 (ak_ts1 aF_c5_x ak_ts0))) aG_c5
