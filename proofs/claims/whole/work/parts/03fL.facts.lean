theorem ck_227_0 : ckM ((tb_227.drop 0).take 160) cL_law = true := by decide +kernel
theorem ck_227_1 : ckM ((tb_227.drop 160).take 160) cL_law = true := by decide +kernel
theorem ck_227_2 : ckM ((tb_227.drop 320).take 160) cL_law = true := by decide +kernel
theorem ck_227_3 : ckM ((tb_227.drop 480).take 160) cL_law = true := by decide +kernel
theorem ck_227_4 : ckM ((tb_227.drop 640).take 160) cL_law = true := by decide +kernel
theorem ck_227_5 : ckM ((tb_227.drop 800).take 160) cL_law = true := by decide +kernel
theorem ck_227_6 : ckM ((tb_227.drop 960).take 160) cL_law = true := by decide +kernel
theorem ck_227_7 : ckM ((tb_227.drop 1120).take 160) cL_law = true := by decide +kernel
