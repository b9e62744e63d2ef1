theorem ak_k142_aF_tp : ∀ i, i < 182 → ak_kone (4, 0, 0, 20305) 142 i = true := by decide +kernel
theorem aG_tm : ai_go (ai_orc [((4, 0, 0, 20305), 6, az_tp_l, az_tp_w, az_to0)] (ai_run 1000000)) [] 1000 99 7 ai_M170 36 az_tm az_to0 = true := by decide +kernel
theorem aF_tm : ak_F 99 7 170 36 az_tm az_to0 := ak_cut (ai_orc_ok (ak_all _) (ak_us1 (ak_U_of ak_k142_aF_tp aF_tp) ak_us0)) ak_t170 ak_ts0 aG_tm
theorem aG_te : ai_go (ai_run 1000000) [(36, az_tm, az_to0)] 1000 99 7 ai_M170 0 (az_te_l, [], az_te_w) az_to0 = true := by decide +kernel
theorem aF_te : ak_F 99 7 170 0 (az_te_l, [], az_te_w) az_to0 := ak_cut (ak_all _) ak_t170 (ak_ts1 aF_tm ak_ts0) aG_te
theorem ak_k170_aF_te : ∀ i, i < 182 → ak_kone (2, 0, 0, 33377) 170 i = true := by decide +kernel
theorem aG_c5_0 : ai_go (ai_run 1000000) [] 1000 0 8 ai_M179 339 az_c5_0 az_o = true := by decide +kernel
theorem aF_c5_0 : ak_F 0 8 179 339 az_c5_0 az_o := ak_cut (ak_all _) ak_t179 ak_ts0 aG_c5_0
