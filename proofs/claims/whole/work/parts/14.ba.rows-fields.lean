theorem ai_fl0_ok : ai_fl0.all (ai_ckF 0) = true := by decide +kernel
theorem ai_fl1_ok : ai_fl1.all (ai_ckF 1) = true := by decide +kernel
theorem ai_fl2_ok : ai_fl2.all (ai_ckF 2) = true := by decide +kernel
theorem ai_fl3_ok : ai_fl3.all (ai_ckF 3) = true := by decide +kernel
theorem ai_fl4_ok : ai_fl4.all (ai_ckF 4) = true := by decide +kernel
theorem ai_fl5_ok : ai_fl5.all (ai_ckF 5) = true := by decide +kernel
theorem ai_fl6_ok : ai_fl6.all (ai_ckF 6) = true := by decide +kernel
theorem ai_fl7_ok : ai_fl7.all (ai_ckF 7) = true := by decide +kernel
theorem ai_fl8_ok : ai_fl8.all (ai_ckF 8) = true := by decide +kernel
theorem ai_fl9_ok : ai_fl9.all (ai_ckF 9) = true := by decide +kernel
theorem ai_fl10_ok : ai_fl10.all (ai_ckF 10) = true := by decide +kernel
theorem ai_fl11_ok : ai_fl11.all (ai_ckF 11) = true := by decide +kernel
theorem ai_fl12_ok : ai_fl12.all (ai_ckF 12) = true := by decide +kernel
theorem ai_fl13_ok : ai_fl13.all (ai_ckF 13) = true := by decide +kernel
theorem ai_fl14_ok : ai_fl14.all (ai_ckF 14) = true := by decide +kernel
theorem ai_fl15_ok : ai_fl15.all (ai_ckF 15) = true := by decide +kernel
theorem ai_fl16_ok : ai_fl16.all (ai_ckF 16) = true := by decide +kernel
theorem ai_fl17_ok : ai_fl17.all (ai_ckF 17) = true := by decide +kernel
theorem ai_nw8_57_ok : ai_ckN 8 (57, 6, 36) ai_ty6 37 3 = true := by decide +kernel
theorem ai_nw8_64_ok : ai_ckN 8 (64, 4, 135) ai_ty4 136 4 = true := by decide +kernel
theorem ai_nw8_71_ok : ai_ckN 8 (71, 1, 205) ai_ty1 206 5 = true := by decide +kernel
theorem ai_nw8_78_ok : ai_ckN 8 (78, 0, 266) ai_ty0 267 6 = true := by decide +kernel
theorem ai_nw11_13_ok : ai_ckN 11 (13, 8, 30) ai_ty8 31 2 = true := by decide +kernel
theorem ai_nw11_23_ok : ai_ckN 11 (23, 5, 502) ai_ty5 503 7 = true := by decide +kernel
theorem ai_nw11_32_ok : ai_ckN 11 (32, 2, 550) ai_ty2 617 9 = true := by decide +kernel
theorem ai_nw11_38_ok : ai_ckN 11 (38, 9, 552) ai_ty9 553 8 = true := by decide +kernel
theorem ai_nw11_54_ok : ai_ckN 11 (54, 10, 913) ai_ty10 914 11 = true := by decide +kernel
theorem ai_nw11_59_ok : ai_ckN 11 (59, 3, 964) ai_ty3 965 12 = true := by decide +kernel
theorem ai_nw11_92_ok : ai_ckN 11 (92, 7, 1368) ai_ty7 1369 19 = true := by decide +kernel
theorem ai_nw15_8_ok : ai_ckN 15 (8, 11, 22) ai_ty11 23 1 = true := by decide +kernel
theorem ai_nw15_25_ok : ai_ckN 15 (25, 12, 1498) ai_ty12 1499 10 = true := by decide +kernel
