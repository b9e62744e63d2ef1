theorem aG_c25_1 : ai_go (ai_run 1000000) [] 1000 0 8 ai_M179 907 az_c25_1 az_o = true := by decide +kernel
theorem aF_c25_1 : ak_F 0 8 179 907 az_c25_1 az_o := ak_cut (ak_all _) ak_t179 ak_ts0 aG_c25_1
theorem aG_c25_x : ai_go (ai_orc [((3, 0, 0, 34391), 7, az_de_l, az_de_w, az_do0)] (ai_run 1000000)) [] 1000 0 8 ai_M179 907 az_c25_x az_o = true := by decide +kernel
theorem aF_c25_x : ak_F 0 8 179 907 az_c25_x az_o := ak_cut (ai_orc_ok (ak_all _) (ak_us1 (ak_U_of ak_k112_aF_de aF_de) ak_us0)) ak_t179 ak_ts0 aG_c25_x
theorem aG_c25 : ai_go (ai_run 1000000) [(907, az_c25_0, az_o), (907, az_c25_1, az_o), (907, az_c25_x, az_o)] 1000 0 8 ai_M179 891 az_c25 az_o = true := by decide +kernel
theorem aF_c25 : ak_F 0 8 179 891 az_c25 az_o := ak_cut (ak_all _) ak_t179 (ak_ts1 aF_c25_0 (ak_ts1 aF_c25_1 (ak_ts1 aF_c25_x ak_ts0))) aG_c25
