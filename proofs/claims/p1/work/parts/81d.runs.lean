theorem ak_k111_aF_dp : ∀ i, i < 182 → ak_kone (5, 0, 0, 34526) 111 i = true := by decide +kernel
theorem aG_dm : ai_go (ai_orc [((5, 0, 0, 34526), 6, az_dp_l, az_dp_w, az_do0)] (ai_run 1000000)) [] 1000 99 7 ai_M112 36 az_dm az_do0 = true := by decide +kernel
theorem aF_dm : ak_F 99 7 112 36 az_dm az_do0 := ak_cut (ai_orc_ok (ak_all _) (ak_us1 (ak_U_of ak_k111_aF_dp aF_dp) ak_us0)) ak_t112 ak_ts0 aG_dm
theorem aG_de : ai_go (ai_run 1000000) [(36, az_dm, az_do0)] 1000 99 7 ai_M112 0 (az_de_l, [], az_de_w) az_do0 = true := by decide +kernel
theorem aF_de : ak_F 99 7 112 0 (az_de_l, [], az_de_w) az_do0 := ak_cut (ak_all _) ak_t112 (ak_ts1 aF_dm ak_ts0) aG_de
theorem ak_k112_aF_de : ∀ i, i < 182 → ak_kone (3, 0, 0, 34391) 112 i = true := by decide +kernel
theorem aG_c25_0 : ai_go (ai_run 1000000) [] 1000 0 8 ai_M179 907 az_c25_0 az_o = true := by decide +kernel
theorem aF_c25_0 : ak_F 0 8 179 907 az_c25_0 az_o := ak_cut (ak_all _) ak_t179 ak_ts0 aG_c25_0
