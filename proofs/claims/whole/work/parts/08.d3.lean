theorem d_L_branch_0 : decode b_L_branch 0 = .ok (.aload_n 0, 1) := by decide +kernel
theorem d_L_branch_1 : decode b_L_branch 1 = .ok (.iload_n 1, 1) := by decide +kernel
theorem d_L_branch_2 : decode b_L_branch 2 = .ok (.iload_n 2, 1) := by decide +kernel
theorem d_L_branch_3 : decode b_L_branch 3 = .ok (.invokevirtual 7, 3) := by decide +kernel
theorem d_L_branch_6 : decode b_L_branch 6 = .ok (.goto 9, 3) := by decide +kernel
theorem d_L_branch_9 : decode b_L_branch 9 = .ok (.astore_n 3, 1) := by decide +kernel
theorem d_L_branch_10 : decode b_L_branch 10 = .ok (.iconst 1, 1) := by decide +kernel
theorem d_L_branch_11 : decode b_L_branch 11 = .ok (.ireturn, 1) := by decide +kernel
theorem d_L_branch_12 : decode b_L_branch 12 = .ok (.astore_n 3, 1) := by decide +kernel
theorem d_L_branch_13 : decode b_L_branch 13 = .ok (.iconst 2, 1) := by decide +kernel
theorem d_L_branch_14 : decode b_L_branch 14 = .ok (.ireturn, 1) := by decide +kernel
theorem d_L_branch_15 : decode b_L_branch 15 = .ok (.iconst 0, 1) := by decide +kernel
theorem d_L_branch_16 : decode b_L_branch 16 = .ok (.ireturn, 1) := by decide +kernel
theorem d_L_paint_0 : decode b_L_paint 0 = .ok (.aload_n 0, 1) := by decide +kernel
theorem d_L_paint_1 : decode b_L_paint 1 = .ok (.iload_n 1, 1) := by decide +kernel
theorem d_L_paint_2 : decode b_L_paint 2 = .ok (.iload_n 2, 1) := by decide +kernel
theorem d_L_paint_3 : decode b_L_paint 3 = .ok (.iload_n 3, 1) := by decide +kernel
theorem d_L_paint_4 : decode b_L_paint 4 = .ok (.invokevirtual 17, 3) := by decide +kernel
theorem d_L_paint_7 : decode b_L_paint 7 = .ok (.goto 7, 3) := by decide +kernel
theorem d_L_paint_10 : decode b_L_paint 10 = .ok (.astore 4, 2) := by decide +kernel
theorem d_L_paint_12 : decode b_L_paint 12 = .ok (.iconst 1, 1) := by decide +kernel
theorem d_L_paint_13 : decode b_L_paint 13 = .ok (.ireturn, 1) := by decide +kernel
theorem d_L_paint_14 : decode b_L_paint 14 = .ok (.iconst 0, 1) := by decide +kernel
theorem d_L_paint_15 : decode b_L_paint 15 = .ok (.ireturn, 1) := by decide +kernel
theorem d_L_polygon_0 : decode b_L_polygon 0 = .ok (.aload_n 0, 1) := by decide +kernel
theorem d_L_polygon_1 : decode b_L_polygon 1 = .ok (.iload_n 1, 1) := by decide +kernel
theorem d_L_polygon_2 : decode b_L_polygon 2 = .ok (.iload_n 2, 1) := by decide +kernel
theorem d_L_polygon_3 : decode b_L_polygon 3 = .ok (.iload_n 3, 1) := by decide +kernel
theorem d_L_polygon_4 : decode b_L_polygon 4 = .ok (.iload 4, 2) := by decide +kernel
theorem d_L_polygon_6 : decode b_L_polygon 6 = .ok (.invokevirtual 21, 3) := by decide +kernel
theorem d_L_polygon_9 : decode b_L_polygon 9 = .ok (.goto 7, 3) := by decide +kernel
theorem d_L_polygon_12 : decode b_L_polygon 12 = .ok (.astore 5, 2) := by decide +kernel
theorem d_L_polygon_14 : decode b_L_polygon 14 = .ok (.iconst 1, 1) := by decide +kernel
theorem d_L_polygon_15 : decode b_L_polygon 15 = .ok (.ireturn, 1) := by decide +kernel
theorem d_L_polygon_16 : decode b_L_polygon 16 = .ok (.iconst 0, 1) := by decide +kernel
theorem d_L_polygon_17 : decode b_L_polygon 17 = .ok (.ireturn, 1) := by decide +kernel
theorem d_L_copy_0 : decode b_L_copy 0 = .ok (.aload_n 0, 1) := by decide +kernel
theorem d_L_copy_1 : decode b_L_copy 1 = .ok (.iload_n 1, 1) := by decide +kernel
theorem d_L_copy_2 : decode b_L_copy 2 = .ok (.iload_n 2, 1) := by decide +kernel
theorem d_L_copy_3 : decode b_L_copy 3 = .ok (.iload_n 3, 1) := by decide +kernel
theorem d_L_copy_4 : decode b_L_copy 4 = .ok (.iload 4, 2) := by decide +kernel
theorem d_L_copy_6 : decode b_L_copy 6 = .ok (.iload 5, 2) := by decide +kernel
theorem d_L_copy_8 : decode b_L_copy 8 = .ok (.iload 6, 2) := by decide +kernel
theorem d_L_copy_10 : decode b_L_copy 10 = .ok (.invokevirtual 25, 3) := by decide +kernel
theorem d_L_copy_13 : decode b_L_copy 13 = .ok (.goto 7, 3) := by decide +kernel
theorem d_L_copy_16 : decode b_L_copy 16 = .ok (.astore 7, 2) := by decide +kernel
theorem d_L_copy_18 : decode b_L_copy 18 = .ok (.iconst 1, 1) := by decide +kernel
theorem d_L_copy_19 : decode b_L_copy 19 = .ok (.ireturn, 1) := by decide +kernel
theorem d_L_copy_20 : decode b_L_copy 20 = .ok (.iconst 0, 1) := by decide +kernel
theorem d_L_copy_21 : decode b_L_copy 21 = .ok (.ireturn, 1) := by decide +kernel
theorem d_L_map_0 : decode b_L_map 0 = .ok (.aload_n 0, 1) := by decide +kernel
theorem d_L_map_1 : decode b_L_map 1 = .ok (.iload_n 1, 1) := by decide +kernel
theorem d_L_map_2 : decode b_L_map 2 = .ok (.iload_n 2, 1) := by decide +kernel
theorem d_L_map_3 : decode b_L_map 3 = .ok (.invokevirtual 29, 3) := by decide +kernel
theorem d_L_map_6 : decode b_L_map 6 = .ok (.goto 6, 3) := by decide +kernel
theorem d_L_map_9 : decode b_L_map 9 = .ok (.astore_n 3, 1) := by decide +kernel
theorem d_L_map_10 : decode b_L_map 10 = .ok (.iconst 1, 1) := by decide +kernel
theorem d_L_map_11 : decode b_L_map 11 = .ok (.ireturn, 1) := by decide +kernel
theorem d_L_map_12 : decode b_L_map 12 = .ok (.iconst 0, 1) := by decide +kernel
theorem d_L_map_13 : decode b_L_map 13 = .ok (.ireturn, 1) := by decide +kernel
theorem d_L_combine_0 : decode b_L_combine 0 = .ok (.aload_n 0, 1) := by decide +kernel
theorem d_L_combine_1 : decode b_L_combine 1 = .ok (.iload_n 1, 1) := by decide +kernel
theorem d_L_combine_2 : decode b_L_combine 2 = .ok (.iload_n 2, 1) := by decide +kernel
theorem d_L_combine_3 : decode b_L_combine 3 = .ok (.iload_n 3, 1) := by decide +kernel
theorem d_L_combine_4 : decode b_L_combine 4 = .ok (.iload 4, 2) := by decide +kernel
theorem d_L_combine_6 : decode b_L_combine 6 = .ok (.invokevirtual 32, 3) := by decide +kernel
theorem d_L_combine_9 : decode b_L_combine 9 = .ok (.goto 7, 3) := by decide +kernel
theorem d_L_combine_12 : decode b_L_combine 12 = .ok (.astore 5, 2) := by decide +kernel
theorem d_L_combine_14 : decode b_L_combine 14 = .ok (.iconst 1, 1) := by decide +kernel
theorem d_L_combine_15 : decode b_L_combine 15 = .ok (.ireturn, 1) := by decide +kernel
theorem d_L_combine_16 : decode b_L_combine 16 = .ok (.iconst 0, 1) := by decide +kernel
theorem d_L_combine_17 : decode b_L_combine 17 = .ok (.ireturn, 1) := by decide +kernel
theorem d_L_commit_0 : decode b_L_commit 0 = .ok (.aload_n 2, 1) := by decide +kernel
theorem d_L_commit_1 : decode b_L_commit 1 = .ok (.iconst 0, 1) := by decide +kernel
theorem d_L_commit_2 : decode b_L_commit 2 = .ok (.aload_n 0, 1) := by decide +kernel
theorem d_L_commit_3 : decode b_L_commit 3 = .ok (.iload_n 1, 1) := by decide +kernel
theorem d_L_commit_4 : decode b_L_commit 4 = .ok (.invokevirtual 35, 3) := by decide +kernel
theorem d_L_commit_7 : decode b_L_commit 7 = .ok (.i2l, 1) := by decide +kernel
theorem d_L_commit_8 : decode b_L_commit 8 = .ok (.lastore, 1) := by decide +kernel
theorem d_L_commit_9 : decode b_L_commit 9 = .ok (.goto 9, 3) := by decide +kernel
theorem d_L_commit_12 : decode b_L_commit 12 = .ok (.astore_n 3, 1) := by decide +kernel
theorem d_L_commit_13 : decode b_L_commit 13 = .ok (.iconst 1, 1) := by decide +kernel
theorem d_L_commit_14 : decode b_L_commit 14 = .ok (.ireturn, 1) := by decide +kernel
theorem d_L_commit_15 : decode b_L_commit 15 = .ok (.astore_n 3, 1) := by decide +kernel
theorem d_L_commit_16 : decode b_L_commit 16 = .ok (.iconst 2, 1) := by decide +kernel
theorem d_L_commit_17 : decode b_L_commit 17 = .ok (.ireturn, 1) := by decide +kernel
theorem d_L_commit_18 : decode b_L_commit 18 = .ok (.iconst 0, 1) := by decide +kernel
theorem d_L_commit_19 : decode b_L_commit 19 = .ok (.ireturn, 1) := by decide +kernel
theorem d_L_merge_0 : decode b_L_merge 0 = .ok (.aload_n 3, 1) := by decide +kernel
theorem d_L_merge_1 : decode b_L_merge 1 = .ok (.iconst 0, 1) := by decide +kernel
theorem d_L_merge_2 : decode b_L_merge 2 = .ok (.aload_n 0, 1) := by decide +kernel
theorem d_L_merge_3 : decode b_L_merge 3 = .ok (.iload_n 1, 1) := by decide +kernel
theorem d_L_merge_4 : decode b_L_merge 4 = .ok (.iload_n 2, 1) := by decide +kernel
theorem d_L_merge_5 : decode b_L_merge 5 = .ok (.invokevirtual 39, 3) := by decide +kernel
theorem d_L_merge_8 : decode b_L_merge 8 = .ok (.i2l, 1) := by decide +kernel
theorem d_L_merge_9 : decode b_L_merge 9 = .ok (.lastore, 1) := by decide +kernel
theorem d_L_merge_10 : decode b_L_merge 10 = .ok (.goto 11, 3) := by decide +kernel
theorem d_L_merge_13 : decode b_L_merge 13 = .ok (.astore 4, 2) := by decide +kernel
theorem d_L_merge_15 : decode b_L_merge 15 = .ok (.iconst 1, 1) := by decide +kernel
theorem d_L_merge_16 : decode b_L_merge 16 = .ok (.ireturn, 1) := by decide +kernel
theorem d_L_merge_17 : decode b_L_merge 17 = .ok (.astore 4, 2) := by decide +kernel
theorem d_L_merge_19 : decode b_L_merge 19 = .ok (.iconst 2, 1) := by decide +kernel
theorem d_L_merge_20 : decode b_L_merge 20 = .ok (.ireturn, 1) := by decide +kernel
theorem d_L_merge_21 : decode b_L_merge 21 = .ok (.iconst 0, 1) := by decide +kernel
theorem d_L_merge_22 : decode b_L_merge 22 = .ok (.ireturn, 1) := by decide +kernel
theorem d_L_settle_0 : decode b_L_settle 0 = .ok (.aload 4, 2) := by decide +kernel
theorem d_L_settle_2 : decode b_L_settle 2 = .ok (.iconst 0, 1) := by decide +kernel
theorem d_L_settle_3 : decode b_L_settle 3 = .ok (.aload_n 0, 1) := by decide +kernel
theorem d_L_settle_4 : decode b_L_settle 4 = .ok (.iload_n 1, 1) := by decide +kernel
theorem d_L_settle_5 : decode b_L_settle 5 = .ok (.iload_n 2, 1) := by decide +kernel
theorem d_L_settle_6 : decode b_L_settle 6 = .ok (.iload_n 3, 1) := by decide +kernel
theorem d_L_settle_7 : decode b_L_settle 7 = .ok (.invokevirtual 43, 3) := by decide +kernel
theorem d_L_settle_10 : decode b_L_settle 10 = .ok (.i2l, 1) := by decide +kernel
theorem d_L_settle_11 : decode b_L_settle 11 = .ok (.lastore, 1) := by decide +kernel
theorem d_L_settle_12 : decode b_L_settle 12 = .ok (.goto 7, 3) := by decide +kernel
theorem d_L_settle_15 : decode b_L_settle 15 = .ok (.astore 5, 2) := by decide +kernel
theorem d_L_settle_17 : decode b_L_settle 17 = .ok (.iconst 1, 1) := by decide +kernel
theorem d_L_settle_18 : decode b_L_settle 18 = .ok (.ireturn, 1) := by decide +kernel
theorem d_L_settle_19 : decode b_L_settle 19 = .ok (.iconst 0, 1) := by decide +kernel
theorem d_L_settle_20 : decode b_L_settle 20 = .ok (.ireturn, 1) := by decide +kernel
theorem d_L_total_0 : decode b_L_total 0 = .ok (.aload 4, 2) := by decide +kernel
theorem d_L_total_2 : decode b_L_total 2 = .ok (.iconst 0, 1) := by decide +kernel
theorem d_L_total_3 : decode b_L_total 3 = .ok (.aload_n 0, 1) := by decide +kernel
theorem d_L_total_4 : decode b_L_total 4 = .ok (.iload_n 1, 1) := by decide +kernel
theorem d_L_total_5 : decode b_L_total 5 = .ok (.iload_n 2, 1) := by decide +kernel
theorem d_L_total_6 : decode b_L_total 6 = .ok (.iload_n 3, 1) := by decide +kernel
theorem d_L_total_7 : decode b_L_total 7 = .ok (.invokevirtual 47, 3) := by decide +kernel
theorem d_L_total_10 : decode b_L_total 10 = .ok (.i2l, 1) := by decide +kernel
theorem d_L_total_11 : decode b_L_total 11 = .ok (.lastore, 1) := by decide +kernel
theorem d_L_total_12 : decode b_L_total 12 = .ok (.goto 7, 3) := by decide +kernel
theorem d_L_total_15 : decode b_L_total 15 = .ok (.astore 5, 2) := by decide +kernel
theorem d_L_total_17 : decode b_L_total 17 = .ok (.iconst 1, 1) := by decide +kernel
theorem d_L_total_18 : decode b_L_total 18 = .ok (.ireturn, 1) := by decide +kernel
theorem d_L_total_19 : decode b_L_total 19 = .ok (.iconst 0, 1) := by decide +kernel
theorem d_L_total_20 : decode b_L_total 20 = .ok (.ireturn, 1) := by decide +kernel
theorem d_L_law_0 : decode b_L_law 0 = .ok (.new 8, 3) := by decide +kernel
theorem d_L_law_3 : decode b_L_law 3 = .ok (.dup, 1) := by decide +kernel
theorem d_L_law_4 : decode b_L_law 4 = .ok (.invokespecial 50, 3) := by decide +kernel
theorem d_L_law_7 : decode b_L_law 7 = .ok (.astore_n 1, 1) := by decide +kernel
theorem d_L_law_8 : decode b_L_law 8 = .ok (.new 51, 3) := by decide +kernel
theorem d_L_law_11 : decode b_L_law 11 = .ok (.dup, 1) := by decide +kernel
theorem d_L_law_12 : decode b_L_law 12 = .ok (.invokespecial 53, 3) := by decide +kernel
theorem d_L_law_15 : decode b_L_law 15 = .ok (.astore_n 2, 1) := by decide +kernel
theorem d_L_law_16 : decode b_L_law 16 = .ok (.iconst 1, 1) := by decide +kernel
theorem d_L_law_17 : decode b_L_law 17 = .ok (.newarray .long, 2) := by decide +kernel
theorem d_L_law_19 : decode b_L_law 19 = .ok (.astore_n 3, 1) := by decide +kernel
theorem d_L_law_20 : decode b_L_law 20 = .ok (.iconst 0, 1) := by decide +kernel
theorem d_L_law_21 : decode b_L_law 21 = .ok (.istore 4, 2) := by decide +kernel
theorem d_L_law_23 : decode b_L_law 23 = .ok (.iload 4, 2) := by decide +kernel
theorem d_L_law_25 : decode b_L_law 25 = .ok (.aload_n 0, 1) := by decide +kernel
theorem d_L_law_26 : decode b_L_law 26 = .ok (.arraylength, 1) := by decide +kernel
theorem d_L_law_27 : decode b_L_law 27 = .ok (.bipush 7, 2) := by decide +kernel
theorem d_L_law_29 : decode b_L_law 29 = .ok (.isub, 1) := by decide +kernel
theorem d_L_law_30 : decode b_L_law 30 = .ok (.if_icmp .gt 1431, 3) := by decide +kernel
theorem d_L_law_33 : decode b_L_law 33 = .ok (.aload_n 0, 1) := by decide +kernel
theorem d_L_law_34 : decode b_L_law 34 = .ok (.iload 4, 2) := by decide +kernel
theorem d_L_law_36 : decode b_L_law 36 = .ok (.iaload, 1) := by decide +kernel
theorem d_L_law_37 : decode b_L_law 37 = .ok (.bipush 31, 2) := by decide +kernel
theorem d_L_law_39 : decode b_L_law 39 = .ok (.iand, 1) := by decide +kernel
theorem d_L_law_40 : decode b_L_law 40 = .ok (.tableswitch 1415 0 22 #[108, 145, 193, 218, 279, 339, 388, 460, 558, 607, 655, 727, 783, 851, 900, 980, 1041, 1114, 1194, 1243, 1304, 1353, 1390], 108) := by decide +kernel
theorem d_L_law_148 : decode b_L_law 148 = .ok (.aload_n 1, 1) := by decide +kernel
theorem d_L_law_149 : decode b_L_law 149 = .ok (.aload_n 0, 1) := by decide +kernel
theorem d_L_law_150 : decode b_L_law 150 = .ok (.iload 4, 2) := by decide +kernel
theorem d_L_law_152 : decode b_L_law 152 = .ok (.iconst 1, 1) := by decide +kernel
theorem d_L_law_153 : decode b_L_law 153 = .ok (.iadd, 1) := by decide +kernel
theorem d_L_law_154 : decode b_L_law 154 = .ok (.iaload, 1) := by decide +kernel
theorem d_L_law_155 : decode b_L_law 155 = .ok (.aload_n 0, 1) := by decide +kernel
theorem d_L_law_156 : decode b_L_law 156 = .ok (.iload 4, 2) := by decide +kernel
theorem d_L_law_158 : decode b_L_law 158 = .ok (.iconst 2, 1) := by decide +kernel
theorem d_L_law_159 : decode b_L_law 159 = .ok (.iadd, 1) := by decide +kernel
theorem d_L_law_160 : decode b_L_law 160 = .ok (.iaload, 1) := by decide +kernel
theorem d_L_law_161 : decode b_L_law 161 = .ok (.invokevirtual 54, 3) := by decide +kernel
theorem d_L_law_164 : decode b_L_law 164 = .ok (.aload_n 2, 1) := by decide +kernel
theorem d_L_law_165 : decode b_L_law 165 = .ok (.aload_n 0, 1) := by decide +kernel
theorem d_L_law_166 : decode b_L_law 166 = .ok (.iload 4, 2) := by decide +kernel
theorem d_L_law_168 : decode b_L_law 168 = .ok (.iconst 1, 1) := by decide +kernel
theorem d_L_law_169 : decode b_L_law 169 = .ok (.iadd, 1) := by decide +kernel
theorem d_L_law_170 : decode b_L_law 170 = .ok (.iaload, 1) := by decide +kernel
theorem d_L_law_171 : decode b_L_law 171 = .ok (.aload_n 0, 1) := by decide +kernel
theorem d_L_law_172 : decode b_L_law 172 = .ok (.iload 4, 2) := by decide +kernel
theorem d_L_law_174 : decode b_L_law 174 = .ok (.iconst 2, 1) := by decide +kernel
theorem d_L_law_175 : decode b_L_law 175 = .ok (.iadd, 1) := by decide +kernel
theorem d_L_law_176 : decode b_L_law 176 = .ok (.iaload, 1) := by decide +kernel
theorem d_L_law_177 : decode b_L_law 177 = .ok (.invokevirtual 58, 3) := by decide +kernel
theorem d_L_law_180 : decode b_L_law 180 = .ok (.if_icmp .eq 1275, 3) := by decide +kernel
theorem d_L_law_183 : decode b_L_law 183 = .ok (.iconst 0, 1) := by decide +kernel
theorem d_L_law_184 : decode b_L_law 184 = .ok (.ireturn, 1) := by decide +kernel
theorem d_L_law_185 : decode b_L_law 185 = .ok (.aload_n 1, 1) := by decide +kernel
theorem d_L_law_186 : decode b_L_law 186 = .ok (.aload_n 0, 1) := by decide +kernel
theorem d_L_law_187 : decode b_L_law 187 = .ok (.iload 4, 2) := by decide +kernel
theorem d_L_law_189 : decode b_L_law 189 = .ok (.iconst 1, 1) := by decide +kernel
theorem d_L_law_190 : decode b_L_law 190 = .ok (.iadd, 1) := by decide +kernel
theorem d_L_law_191 : decode b_L_law 191 = .ok (.iaload, 1) := by decide +kernel
theorem d_L_law_192 : decode b_L_law 192 = .ok (.aload_n 0, 1) := by decide +kernel
theorem d_L_law_193 : decode b_L_law 193 = .ok (.iload 4, 2) := by decide +kernel
theorem d_L_law_195 : decode b_L_law 195 = .ok (.iconst 2, 1) := by decide +kernel
theorem d_L_law_196 : decode b_L_law 196 = .ok (.iadd, 1) := by decide +kernel
theorem d_L_law_197 : decode b_L_law 197 = .ok (.iaload, 1) := by decide +kernel
theorem d_L_law_198 : decode b_L_law 198 = .ok (.invokestatic 59, 3) := by decide +kernel
theorem d_L_law_201 : decode b_L_law 201 = .ok (.istore 5, 2) := by decide +kernel
theorem d_L_law_203 : decode b_L_law 203 = .ok (.aload_n 2, 1) := by decide +kernel
theorem d_L_law_204 : decode b_L_law 204 = .ok (.aload_n 0, 1) := by decide +kernel
theorem d_L_law_205 : decode b_L_law 205 = .ok (.iload 4, 2) := by decide +kernel
theorem d_L_law_207 : decode b_L_law 207 = .ok (.iconst 1, 1) := by decide +kernel
theorem d_L_law_208 : decode b_L_law 208 = .ok (.iadd, 1) := by decide +kernel
theorem d_L_law_209 : decode b_L_law 209 = .ok (.iaload, 1) := by decide +kernel
theorem d_L_law_210 : decode b_L_law 210 = .ok (.aload_n 0, 1) := by decide +kernel
theorem d_L_law_211 : decode b_L_law 211 = .ok (.iload 4, 2) := by decide +kernel
theorem d_L_law_213 : decode b_L_law 213 = .ok (.iconst 2, 1) := by decide +kernel
theorem d_L_law_214 : decode b_L_law 214 = .ok (.iadd, 1) := by decide +kernel
theorem d_L_law_215 : decode b_L_law 215 = .ok (.iaload, 1) := by decide +kernel
theorem d_L_law_216 : decode b_L_law 216 = .ok (.invokevirtual 64, 3) := by decide +kernel
theorem d_L_law_219 : decode b_L_law 219 = .ok (.aload_n 2, 1) := by decide +kernel
theorem d_L_law_220 : decode b_L_law 220 = .ok (.invokevirtual 65, 3) := by decide +kernel
theorem d_L_law_223 : decode b_L_law 223 = .ok (.iload 5, 2) := by decide +kernel
theorem d_L_law_225 : decode b_L_law 225 = .ok (.if_icmp .eq 5, 3) := by decide +kernel
theorem d_L_law_228 : decode b_L_law 228 = .ok (.iconst 0, 1) := by decide +kernel
theorem d_L_law_229 : decode b_L_law 229 = .ok (.ireturn, 1) := by decide +kernel
theorem d_L_law_230 : decode b_L_law 230 = .ok (.goto 1225, 3) := by decide +kernel
theorem d_L_law_233 : decode b_L_law 233 = .ok (.aload_n 1, 1) := by decide +kernel
theorem d_L_law_234 : decode b_L_law 234 = .ok (.aload_n 0, 1) := by decide +kernel
theorem d_L_law_235 : decode b_L_law 235 = .ok (.iload 4, 2) := by decide +kernel
theorem d_L_law_237 : decode b_L_law 237 = .ok (.iconst 1, 1) := by decide +kernel
theorem d_L_law_238 : decode b_L_law 238 = .ok (.iadd, 1) := by decide +kernel
theorem d_L_law_239 : decode b_L_law 239 = .ok (.iaload, 1) := by decide +kernel
theorem d_L_law_240 : decode b_L_law 240 = .ok (.invokevirtual 69, 3) := by decide +kernel
theorem d_L_law_243 : decode b_L_law 243 = .ok (.aload_n 2, 1) := by decide +kernel
theorem d_L_law_244 : decode b_L_law 244 = .ok (.aload_n 0, 1) := by decide +kernel
theorem d_L_law_245 : decode b_L_law 245 = .ok (.iload 4, 2) := by decide +kernel
theorem d_L_law_247 : decode b_L_law 247 = .ok (.iconst 1, 1) := by decide +kernel
theorem d_L_law_248 : decode b_L_law 248 = .ok (.iadd, 1) := by decide +kernel
theorem d_L_law_249 : decode b_L_law 249 = .ok (.iaload, 1) := by decide +kernel
theorem d_L_law_250 : decode b_L_law 250 = .ok (.invokevirtual 73, 3) := by decide +kernel
theorem d_L_law_253 : decode b_L_law 253 = .ok (.if_icmp .eq 1202, 3) := by decide +kernel
theorem d_L_law_256 : decode b_L_law 256 = .ok (.iconst 0, 1) := by decide +kernel
theorem d_L_law_257 : decode b_L_law 257 = .ok (.ireturn, 1) := by decide +kernel
theorem d_L_law_258 : decode b_L_law 258 = .ok (.aload_n 1, 1) := by decide +kernel
theorem d_L_law_259 : decode b_L_law 259 = .ok (.aload_n 0, 1) := by decide +kernel
theorem d_L_law_260 : decode b_L_law 260 = .ok (.iload 4, 2) := by decide +kernel
theorem d_L_law_262 : decode b_L_law 262 = .ok (.iconst 1, 1) := by decide +kernel
theorem d_L_law_263 : decode b_L_law 263 = .ok (.iadd, 1) := by decide +kernel
theorem d_L_law_264 : decode b_L_law 264 = .ok (.iaload, 1) := by decide +kernel
theorem d_L_law_265 : decode b_L_law 265 = .ok (.aload_n 0, 1) := by decide +kernel
theorem d_L_law_266 : decode b_L_law 266 = .ok (.iload 4, 2) := by decide +kernel
theorem d_L_law_268 : decode b_L_law 268 = .ok (.iconst 2, 1) := by decide +kernel
theorem d_L_law_269 : decode b_L_law 269 = .ok (.iadd, 1) := by decide +kernel
theorem d_L_law_270 : decode b_L_law 270 = .ok (.iaload, 1) := by decide +kernel
theorem d_L_law_271 : decode b_L_law 271 = .ok (.aload_n 0, 1) := by decide +kernel
theorem d_L_law_272 : decode b_L_law 272 = .ok (.iload 4, 2) := by decide +kernel
theorem d_L_law_274 : decode b_L_law 274 = .ok (.iconst 3, 1) := by decide +kernel
theorem d_L_law_275 : decode b_L_law 275 = .ok (.iadd, 1) := by decide +kernel
theorem d_L_law_276 : decode b_L_law 276 = .ok (.iaload, 1) := by decide +kernel
theorem d_L_law_277 : decode b_L_law 277 = .ok (.aload_n 0, 1) := by decide +kernel
theorem d_L_law_278 : decode b_L_law 278 = .ok (.iload 4, 2) := by decide +kernel
theorem d_L_law_280 : decode b_L_law 280 = .ok (.iconst 4, 1) := by decide +kernel
theorem d_L_law_281 : decode b_L_law 281 = .ok (.iadd, 1) := by decide +kernel
theorem d_L_law_282 : decode b_L_law 282 = .ok (.iaload, 1) := by decide +kernel
theorem d_L_law_283 : decode b_L_law 283 = .ok (.invokevirtual 74, 3) := by decide +kernel
theorem d_L_law_286 : decode b_L_law 286 = .ok (.aload_n 2, 1) := by decide +kernel
theorem d_L_law_287 : decode b_L_law 287 = .ok (.aload_n 0, 1) := by decide +kernel
theorem d_L_law_288 : decode b_L_law 288 = .ok (.iload 4, 2) := by decide +kernel
theorem d_L_law_290 : decode b_L_law 290 = .ok (.iconst 1, 1) := by decide +kernel
theorem d_L_law_291 : decode b_L_law 291 = .ok (.iadd, 1) := by decide +kernel
theorem d_L_law_292 : decode b_L_law 292 = .ok (.iaload, 1) := by decide +kernel
theorem d_L_law_293 : decode b_L_law 293 = .ok (.aload_n 0, 1) := by decide +kernel
theorem d_L_law_294 : decode b_L_law 294 = .ok (.iload 4, 2) := by decide +kernel
theorem d_L_law_296 : decode b_L_law 296 = .ok (.iconst 2, 1) := by decide +kernel
theorem d_L_law_297 : decode b_L_law 297 = .ok (.iadd, 1) := by decide +kernel
theorem d_L_law_298 : decode b_L_law 298 = .ok (.iaload, 1) := by decide +kernel
theorem d_L_law_299 : decode b_L_law 299 = .ok (.aload_n 0, 1) := by decide +kernel
theorem d_L_law_300 : decode b_L_law 300 = .ok (.iload 4, 2) := by decide +kernel
theorem d_L_law_302 : decode b_L_law 302 = .ok (.iconst 3, 1) := by decide +kernel
theorem d_L_law_303 : decode b_L_law 303 = .ok (.iadd, 1) := by decide +kernel
theorem d_L_law_304 : decode b_L_law 304 = .ok (.iaload, 1) := by decide +kernel
theorem d_L_law_305 : decode b_L_law 305 = .ok (.aload_n 0, 1) := by decide +kernel
theorem d_L_law_306 : decode b_L_law 306 = .ok (.iload 4, 2) := by decide +kernel
theorem d_L_law_308 : decode b_L_law 308 = .ok (.iconst 4, 1) := by decide +kernel
theorem d_L_law_309 : decode b_L_law 309 = .ok (.iadd, 1) := by decide +kernel
theorem d_L_law_310 : decode b_L_law 310 = .ok (.iaload, 1) := by decide +kernel
theorem d_L_law_311 : decode b_L_law 311 = .ok (.invokevirtual 78, 3) := by decide +kernel
theorem d_L_law_314 : decode b_L_law 314 = .ok (.if_icmp .eq 1141, 3) := by decide +kernel
theorem d_L_law_317 : decode b_L_law 317 = .ok (.iconst 0, 1) := by decide +kernel
theorem d_L_law_318 : decode b_L_law 318 = .ok (.ireturn, 1) := by decide +kernel
theorem d_L_law_319 : decode b_L_law 319 = .ok (.aload_n 1, 1) := by decide +kernel
theorem d_L_law_320 : decode b_L_law 320 = .ok (.aload_n 0, 1) := by decide +kernel
theorem d_L_law_321 : decode b_L_law 321 = .ok (.iload 4, 2) := by decide +kernel
theorem d_L_law_323 : decode b_L_law 323 = .ok (.iconst 1, 1) := by decide +kernel
theorem d_L_law_324 : decode b_L_law 324 = .ok (.iadd, 1) := by decide +kernel
theorem d_L_law_325 : decode b_L_law 325 = .ok (.iaload, 1) := by decide +kernel
theorem d_L_law_326 : decode b_L_law 326 = .ok (.aload_n 0, 1) := by decide +kernel
theorem d_L_law_327 : decode b_L_law 327 = .ok (.iload 4, 2) := by decide +kernel
theorem d_L_law_329 : decode b_L_law 329 = .ok (.iconst 2, 1) := by decide +kernel
theorem d_L_law_330 : decode b_L_law 330 = .ok (.iadd, 1) := by decide +kernel
theorem d_L_law_331 : decode b_L_law 331 = .ok (.iaload, 1) := by decide +kernel
theorem d_L_law_332 : decode b_L_law 332 = .ok (.aload_n 0, 1) := by decide +kernel
theorem d_L_law_333 : decode b_L_law 333 = .ok (.iload 4, 2) := by decide +kernel
theorem d_L_law_335 : decode b_L_law 335 = .ok (.iconst 3, 1) := by decide +kernel
theorem d_L_law_336 : decode b_L_law 336 = .ok (.iadd, 1) := by decide +kernel
theorem d_L_law_337 : decode b_L_law 337 = .ok (.iaload, 1) := by decide +kernel
theorem d_L_law_338 : decode b_L_law 338 = .ok (.invokestatic 79, 3) := by decide +kernel
theorem d_L_law_341 : decode b_L_law 341 = .ok (.istore 5, 2) := by decide +kernel
theorem d_L_law_343 : decode b_L_law 343 = .ok (.aload_n 2, 1) := by decide +kernel
theorem d_L_law_344 : decode b_L_law 344 = .ok (.aload_n 0, 1) := by decide +kernel
theorem d_L_law_345 : decode b_L_law 345 = .ok (.iload 4, 2) := by decide +kernel
theorem d_L_law_347 : decode b_L_law 347 = .ok (.iconst 1, 1) := by decide +kernel
theorem d_L_law_348 : decode b_L_law 348 = .ok (.iadd, 1) := by decide +kernel
theorem d_L_law_349 : decode b_L_law 349 = .ok (.iaload, 1) := by decide +kernel
theorem d_L_law_350 : decode b_L_law 350 = .ok (.aload_n 0, 1) := by decide +kernel
theorem d_L_law_351 : decode b_L_law 351 = .ok (.iload 4, 2) := by decide +kernel
theorem d_L_law_353 : decode b_L_law 353 = .ok (.iconst 2, 1) := by decide +kernel
theorem d_L_law_354 : decode b_L_law 354 = .ok (.iadd, 1) := by decide +kernel
theorem d_L_law_355 : decode b_L_law 355 = .ok (.iaload, 1) := by decide +kernel
theorem d_L_law_356 : decode b_L_law 356 = .ok (.aload_n 0, 1) := by decide +kernel
theorem d_L_law_357 : decode b_L_law 357 = .ok (.iload 4, 2) := by decide +kernel
theorem d_L_law_359 : decode b_L_law 359 = .ok (.iconst 3, 1) := by decide +kernel
theorem d_L_law_360 : decode b_L_law 360 = .ok (.iadd, 1) := by decide +kernel
theorem d_L_law_361 : decode b_L_law 361 = .ok (.iaload, 1) := by decide +kernel
theorem d_L_law_362 : decode b_L_law 362 = .ok (.invokevirtual 82, 3) := by decide +kernel
theorem d_L_law_365 : decode b_L_law 365 = .ok (.aload_n 2, 1) := by decide +kernel
theorem d_L_law_366 : decode b_L_law 366 = .ok (.invokevirtual 65, 3) := by decide +kernel
theorem d_L_law_369 : decode b_L_law 369 = .ok (.iload 5, 2) := by decide +kernel
theorem d_L_law_371 : decode b_L_law 371 = .ok (.if_icmp .eq 5, 3) := by decide +kernel
theorem d_L_law_374 : decode b_L_law 374 = .ok (.iconst 0, 1) := by decide +kernel
theorem d_L_law_375 : decode b_L_law 375 = .ok (.ireturn, 1) := by decide +kernel
theorem d_L_law_376 : decode b_L_law 376 = .ok (.goto 1079, 3) := by decide +kernel
theorem d_L_law_379 : decode b_L_law 379 = .ok (.aload_n 1, 1) := by decide +kernel
theorem d_L_law_380 : decode b_L_law 380 = .ok (.aload_n 0, 1) := by decide +kernel
theorem d_L_law_381 : decode b_L_law 381 = .ok (.iload 4, 2) := by decide +kernel
theorem d_L_law_383 : decode b_L_law 383 = .ok (.iconst 1, 1) := by decide +kernel
theorem d_L_law_384 : decode b_L_law 384 = .ok (.iadd, 1) := by decide +kernel
theorem d_L_law_385 : decode b_L_law 385 = .ok (.iaload, 1) := by decide +kernel
theorem d_L_law_386 : decode b_L_law 386 = .ok (.aload_n 0, 1) := by decide +kernel
theorem d_L_law_387 : decode b_L_law 387 = .ok (.iload 4, 2) := by decide +kernel
theorem d_L_law_389 : decode b_L_law 389 = .ok (.iconst 2, 1) := by decide +kernel
theorem d_L_law_390 : decode b_L_law 390 = .ok (.iadd, 1) := by decide +kernel
theorem d_L_law_391 : decode b_L_law 391 = .ok (.iaload, 1) := by decide +kernel
theorem d_L_law_392 : decode b_L_law 392 = .ok (.aload_n 0, 1) := by decide +kernel
theorem d_L_law_393 : decode b_L_law 393 = .ok (.iload 4, 2) := by decide +kernel
theorem d_L_law_395 : decode b_L_law 395 = .ok (.iconst 3, 1) := by decide +kernel
theorem d_L_law_396 : decode b_L_law 396 = .ok (.iadd, 1) := by decide +kernel
theorem d_L_law_397 : decode b_L_law 397 = .ok (.iaload, 1) := by decide +kernel
theorem d_L_law_398 : decode b_L_law 398 = .ok (.invokevirtual 83, 3) := by decide +kernel
theorem d_L_law_401 : decode b_L_law 401 = .ok (.aload_n 2, 1) := by decide +kernel
theorem d_L_law_402 : decode b_L_law 402 = .ok (.aload_n 0, 1) := by decide +kernel
theorem d_L_law_403 : decode b_L_law 403 = .ok (.iload 4, 2) := by decide +kernel
theorem d_L_law_405 : decode b_L_law 405 = .ok (.iconst 1, 1) := by decide +kernel
theorem d_L_law_406 : decode b_L_law 406 = .ok (.iadd, 1) := by decide +kernel
theorem d_L_law_407 : decode b_L_law 407 = .ok (.iaload, 1) := by decide +kernel
theorem d_L_law_408 : decode b_L_law 408 = .ok (.aload_n 0, 1) := by decide +kernel
theorem d_L_law_409 : decode b_L_law 409 = .ok (.iload 4, 2) := by decide +kernel
theorem d_L_law_411 : decode b_L_law 411 = .ok (.iconst 2, 1) := by decide +kernel
theorem d_L_law_412 : decode b_L_law 412 = .ok (.iadd, 1) := by decide +kernel
theorem d_L_law_413 : decode b_L_law 413 = .ok (.iaload, 1) := by decide +kernel
theorem d_L_law_414 : decode b_L_law 414 = .ok (.aload_n 0, 1) := by decide +kernel
theorem d_L_law_415 : decode b_L_law 415 = .ok (.iload 4, 2) := by decide +kernel
theorem d_L_law_417 : decode b_L_law 417 = .ok (.iconst 3, 1) := by decide +kernel
theorem d_L_law_418 : decode b_L_law 418 = .ok (.iadd, 1) := by decide +kernel
theorem d_L_law_419 : decode b_L_law 419 = .ok (.iaload, 1) := by decide +kernel
theorem d_L_law_420 : decode b_L_law 420 = .ok (.invokevirtual 87, 3) := by decide +kernel
theorem d_L_law_423 : decode b_L_law 423 = .ok (.if_icmp .eq 1032, 3) := by decide +kernel
theorem d_L_law_426 : decode b_L_law 426 = .ok (.iconst 0, 1) := by decide +kernel
theorem d_L_law_427 : decode b_L_law 427 = .ok (.ireturn, 1) := by decide +kernel
theorem d_L_law_428 : decode b_L_law 428 = .ok (.aload_n 1, 1) := by decide +kernel
theorem d_L_law_429 : decode b_L_law 429 = .ok (.aload_n 0, 1) := by decide +kernel
theorem d_L_law_430 : decode b_L_law 430 = .ok (.iload 4, 2) := by decide +kernel
theorem d_L_law_432 : decode b_L_law 432 = .ok (.iconst 1, 1) := by decide +kernel
theorem d_L_law_433 : decode b_L_law 433 = .ok (.iadd, 1) := by decide +kernel
theorem d_L_law_434 : decode b_L_law 434 = .ok (.iaload, 1) := by decide +kernel
theorem d_L_law_435 : decode b_L_law 435 = .ok (.aload_n 0, 1) := by decide +kernel
theorem d_L_law_436 : decode b_L_law 436 = .ok (.iload 4, 2) := by decide +kernel
theorem d_L_law_438 : decode b_L_law 438 = .ok (.iconst 2, 1) := by decide +kernel
theorem d_L_law_439 : decode b_L_law 439 = .ok (.iadd, 1) := by decide +kernel
theorem d_L_law_440 : decode b_L_law 440 = .ok (.iaload, 1) := by decide +kernel
theorem d_L_law_441 : decode b_L_law 441 = .ok (.aload_n 0, 1) := by decide +kernel
theorem d_L_law_442 : decode b_L_law 442 = .ok (.iload 4, 2) := by decide +kernel
theorem d_L_law_444 : decode b_L_law 444 = .ok (.iconst 3, 1) := by decide +kernel
theorem d_L_law_445 : decode b_L_law 445 = .ok (.iadd, 1) := by decide +kernel
theorem d_L_law_446 : decode b_L_law 446 = .ok (.iaload, 1) := by decide +kernel
theorem d_L_law_447 : decode b_L_law 447 = .ok (.aload_n 0, 1) := by decide +kernel
theorem d_L_law_448 : decode b_L_law 448 = .ok (.iload 4, 2) := by decide +kernel
theorem d_L_law_450 : decode b_L_law 450 = .ok (.iconst 4, 1) := by decide +kernel
theorem d_L_law_451 : decode b_L_law 451 = .ok (.iadd, 1) := by decide +kernel
theorem d_L_law_452 : decode b_L_law 452 = .ok (.iaload, 1) := by decide +kernel
theorem d_L_law_453 : decode b_L_law 453 = .ok (.invokestatic 88, 3) := by decide +kernel
theorem d_L_law_456 : decode b_L_law 456 = .ok (.istore 5, 2) := by decide +kernel
theorem d_L_law_458 : decode b_L_law 458 = .ok (.aload_n 2, 1) := by decide +kernel
theorem d_L_law_459 : decode b_L_law 459 = .ok (.aload_n 0, 1) := by decide +kernel
theorem d_L_law_460 : decode b_L_law 460 = .ok (.iload 4, 2) := by decide +kernel
theorem d_L_law_462 : decode b_L_law 462 = .ok (.iconst 1, 1) := by decide +kernel
theorem d_L_law_463 : decode b_L_law 463 = .ok (.iadd, 1) := by decide +kernel
theorem d_L_law_464 : decode b_L_law 464 = .ok (.iaload, 1) := by decide +kernel
theorem d_L_law_465 : decode b_L_law 465 = .ok (.aload_n 0, 1) := by decide +kernel
theorem d_L_law_466 : decode b_L_law 466 = .ok (.iload 4, 2) := by decide +kernel
theorem d_L_law_468 : decode b_L_law 468 = .ok (.iconst 2, 1) := by decide +kernel
theorem d_L_law_469 : decode b_L_law 469 = .ok (.iadd, 1) := by decide +kernel
theorem d_L_law_470 : decode b_L_law 470 = .ok (.iaload, 1) := by decide +kernel
theorem d_L_law_471 : decode b_L_law 471 = .ok (.aload_n 0, 1) := by decide +kernel
theorem d_L_law_472 : decode b_L_law 472 = .ok (.iload 4, 2) := by decide +kernel
theorem d_L_law_474 : decode b_L_law 474 = .ok (.iconst 3, 1) := by decide +kernel
theorem d_L_law_475 : decode b_L_law 475 = .ok (.iadd, 1) := by decide +kernel
theorem d_L_law_476 : decode b_L_law 476 = .ok (.iaload, 1) := by decide +kernel
theorem d_L_law_477 : decode b_L_law 477 = .ok (.aload_n 0, 1) := by decide +kernel
theorem d_L_law_478 : decode b_L_law 478 = .ok (.iload 4, 2) := by decide +kernel
theorem d_L_law_480 : decode b_L_law 480 = .ok (.iconst 4, 1) := by decide +kernel
theorem d_L_law_481 : decode b_L_law 481 = .ok (.iadd, 1) := by decide +kernel
theorem d_L_law_482 : decode b_L_law 482 = .ok (.iaload, 1) := by decide +kernel
theorem d_L_law_483 : decode b_L_law 483 = .ok (.invokevirtual 91, 3) := by decide +kernel
theorem d_L_law_486 : decode b_L_law 486 = .ok (.aload_n 2, 1) := by decide +kernel
theorem d_L_law_487 : decode b_L_law 487 = .ok (.invokevirtual 65, 3) := by decide +kernel
theorem d_L_law_490 : decode b_L_law 490 = .ok (.iload 5, 2) := by decide +kernel
theorem d_L_law_492 : decode b_L_law 492 = .ok (.if_icmp .eq 5, 3) := by decide +kernel
theorem d_L_law_495 : decode b_L_law 495 = .ok (.iconst 0, 1) := by decide +kernel
theorem d_L_law_496 : decode b_L_law 496 = .ok (.ireturn, 1) := by decide +kernel
theorem d_L_law_497 : decode b_L_law 497 = .ok (.goto 958, 3) := by decide +kernel
theorem d_L_law_500 : decode b_L_law 500 = .ok (.aload_n 1, 1) := by decide +kernel
theorem d_L_law_501 : decode b_L_law 501 = .ok (.aload_n 0, 1) := by decide +kernel
theorem d_L_law_502 : decode b_L_law 502 = .ok (.iload 4, 2) := by decide +kernel
theorem d_L_law_504 : decode b_L_law 504 = .ok (.iconst 1, 1) := by decide +kernel
theorem d_L_law_505 : decode b_L_law 505 = .ok (.iadd, 1) := by decide +kernel
theorem d_L_law_506 : decode b_L_law 506 = .ok (.iaload, 1) := by decide +kernel
theorem d_L_law_507 : decode b_L_law 507 = .ok (.aload_n 0, 1) := by decide +kernel
theorem d_L_law_508 : decode b_L_law 508 = .ok (.iload 4, 2) := by decide +kernel
theorem d_L_law_510 : decode b_L_law 510 = .ok (.iconst 2, 1) := by decide +kernel
theorem d_L_law_511 : decode b_L_law 511 = .ok (.iadd, 1) := by decide +kernel
theorem d_L_law_512 : decode b_L_law 512 = .ok (.iaload, 1) := by decide +kernel
theorem d_L_law_513 : decode b_L_law 513 = .ok (.aload_n 0, 1) := by decide +kernel
theorem d_L_law_514 : decode b_L_law 514 = .ok (.iload 4, 2) := by decide +kernel
theorem d_L_law_516 : decode b_L_law 516 = .ok (.iconst 3, 1) := by decide +kernel
theorem d_L_law_517 : decode b_L_law 517 = .ok (.iadd, 1) := by decide +kernel
theorem d_L_law_518 : decode b_L_law 518 = .ok (.iaload, 1) := by decide +kernel
theorem d_L_law_519 : decode b_L_law 519 = .ok (.aload_n 0, 1) := by decide +kernel
theorem d_L_law_520 : decode b_L_law 520 = .ok (.iload 4, 2) := by decide +kernel
theorem d_L_law_522 : decode b_L_law 522 = .ok (.iconst 4, 1) := by decide +kernel
theorem d_L_law_523 : decode b_L_law 523 = .ok (.iadd, 1) := by decide +kernel
theorem d_L_law_524 : decode b_L_law 524 = .ok (.iaload, 1) := by decide +kernel
theorem d_L_law_525 : decode b_L_law 525 = .ok (.aload_n 0, 1) := by decide +kernel
theorem d_L_law_526 : decode b_L_law 526 = .ok (.iload 4, 2) := by decide +kernel
theorem d_L_law_528 : decode b_L_law 528 = .ok (.iconst 5, 1) := by decide +kernel
theorem d_L_law_529 : decode b_L_law 529 = .ok (.iadd, 1) := by decide +kernel
theorem d_L_law_530 : decode b_L_law 530 = .ok (.iaload, 1) := by decide +kernel
theorem d_L_law_531 : decode b_L_law 531 = .ok (.aload_n 0, 1) := by decide +kernel
theorem d_L_law_532 : decode b_L_law 532 = .ok (.iload 4, 2) := by decide +kernel
theorem d_L_law_534 : decode b_L_law 534 = .ok (.bipush 6, 2) := by decide +kernel
theorem d_L_law_536 : decode b_L_law 536 = .ok (.iadd, 1) := by decide +kernel
theorem d_L_law_537 : decode b_L_law 537 = .ok (.iaload, 1) := by decide +kernel
theorem d_L_law_538 : decode b_L_law 538 = .ok (.invokestatic 92, 3) := by decide +kernel
theorem d_L_law_541 : decode b_L_law 541 = .ok (.istore 5, 2) := by decide +kernel
theorem d_L_law_543 : decode b_L_law 543 = .ok (.aload_n 2, 1) := by decide +kernel
theorem d_L_law_544 : decode b_L_law 544 = .ok (.aload_n 0, 1) := by decide +kernel
theorem d_L_law_545 : decode b_L_law 545 = .ok (.iload 4, 2) := by decide +kernel
theorem d_L_law_547 : decode b_L_law 547 = .ok (.iconst 1, 1) := by decide +kernel
theorem d_L_law_548 : decode b_L_law 548 = .ok (.iadd, 1) := by decide +kernel
theorem d_L_law_549 : decode b_L_law 549 = .ok (.iaload, 1) := by decide +kernel
theorem d_L_law_550 : decode b_L_law 550 = .ok (.aload_n 0, 1) := by decide +kernel
theorem d_L_law_551 : decode b_L_law 551 = .ok (.iload 4, 2) := by decide +kernel
theorem d_L_law_553 : decode b_L_law 553 = .ok (.iconst 2, 1) := by decide +kernel
theorem d_L_law_554 : decode b_L_law 554 = .ok (.iadd, 1) := by decide +kernel
theorem d_L_law_555 : decode b_L_law 555 = .ok (.iaload, 1) := by decide +kernel
theorem d_L_law_556 : decode b_L_law 556 = .ok (.aload_n 0, 1) := by decide +kernel
theorem d_L_law_557 : decode b_L_law 557 = .ok (.iload 4, 2) := by decide +kernel
theorem d_L_law_559 : decode b_L_law 559 = .ok (.iconst 3, 1) := by decide +kernel
theorem d_L_law_560 : decode b_L_law 560 = .ok (.iadd, 1) := by decide +kernel
theorem d_L_law_561 : decode b_L_law 561 = .ok (.iaload, 1) := by decide +kernel
theorem d_L_law_562 : decode b_L_law 562 = .ok (.aload_n 0, 1) := by decide +kernel
theorem d_L_law_563 : decode b_L_law 563 = .ok (.iload 4, 2) := by decide +kernel
theorem d_L_law_565 : decode b_L_law 565 = .ok (.iconst 4, 1) := by decide +kernel
theorem d_L_law_566 : decode b_L_law 566 = .ok (.iadd, 1) := by decide +kernel
theorem d_L_law_567 : decode b_L_law 567 = .ok (.iaload, 1) := by decide +kernel
theorem d_L_law_568 : decode b_L_law 568 = .ok (.aload_n 0, 1) := by decide +kernel
theorem d_L_law_569 : decode b_L_law 569 = .ok (.iload 4, 2) := by decide +kernel
theorem d_L_law_571 : decode b_L_law 571 = .ok (.iconst 5, 1) := by decide +kernel
theorem d_L_law_572 : decode b_L_law 572 = .ok (.iadd, 1) := by decide +kernel
theorem d_L_law_573 : decode b_L_law 573 = .ok (.iaload, 1) := by decide +kernel
theorem d_L_law_574 : decode b_L_law 574 = .ok (.aload_n 0, 1) := by decide +kernel
theorem d_L_law_575 : decode b_L_law 575 = .ok (.iload 4, 2) := by decide +kernel
theorem d_L_law_577 : decode b_L_law 577 = .ok (.bipush 6, 2) := by decide +kernel
theorem d_L_law_579 : decode b_L_law 579 = .ok (.iadd, 1) := by decide +kernel
theorem d_L_law_580 : decode b_L_law 580 = .ok (.iaload, 1) := by decide +kernel
theorem d_L_law_581 : decode b_L_law 581 = .ok (.invokevirtual 95, 3) := by decide +kernel
theorem d_L_law_584 : decode b_L_law 584 = .ok (.aload_n 2, 1) := by decide +kernel
theorem d_L_law_585 : decode b_L_law 585 = .ok (.invokevirtual 65, 3) := by decide +kernel
theorem d_L_law_588 : decode b_L_law 588 = .ok (.iload 5, 2) := by decide +kernel
theorem d_L_law_590 : decode b_L_law 590 = .ok (.if_icmp .eq 5, 3) := by decide +kernel
theorem d_L_law_593 : decode b_L_law 593 = .ok (.iconst 0, 1) := by decide +kernel
theorem d_L_law_594 : decode b_L_law 594 = .ok (.ireturn, 1) := by decide +kernel
theorem d_L_law_595 : decode b_L_law 595 = .ok (.goto 860, 3) := by decide +kernel
theorem d_L_law_598 : decode b_L_law 598 = .ok (.aload_n 1, 1) := by decide +kernel
theorem d_L_law_599 : decode b_L_law 599 = .ok (.aload_n 0, 1) := by decide +kernel
theorem d_L_law_600 : decode b_L_law 600 = .ok (.iload 4, 2) := by decide +kernel
theorem d_L_law_602 : decode b_L_law 602 = .ok (.iconst 1, 1) := by decide +kernel
theorem d_L_law_603 : decode b_L_law 603 = .ok (.iadd, 1) := by decide +kernel
theorem d_L_law_604 : decode b_L_law 604 = .ok (.iaload, 1) := by decide +kernel
theorem d_L_law_605 : decode b_L_law 605 = .ok (.aload_n 0, 1) := by decide +kernel
theorem d_L_law_606 : decode b_L_law 606 = .ok (.iload 4, 2) := by decide +kernel
theorem d_L_law_608 : decode b_L_law 608 = .ok (.iconst 2, 1) := by decide +kernel
theorem d_L_law_609 : decode b_L_law 609 = .ok (.iadd, 1) := by decide +kernel
theorem d_L_law_610 : decode b_L_law 610 = .ok (.iaload, 1) := by decide +kernel
theorem d_L_law_611 : decode b_L_law 611 = .ok (.aload_n 0, 1) := by decide +kernel
theorem d_L_law_612 : decode b_L_law 612 = .ok (.iload 4, 2) := by decide +kernel
theorem d_L_law_614 : decode b_L_law 614 = .ok (.iconst 3, 1) := by decide +kernel
theorem d_L_law_615 : decode b_L_law 615 = .ok (.iadd, 1) := by decide +kernel
theorem d_L_law_616 : decode b_L_law 616 = .ok (.iaload, 1) := by decide +kernel
theorem d_L_law_617 : decode b_L_law 617 = .ok (.invokevirtual 96, 3) := by decide +kernel
theorem d_L_law_620 : decode b_L_law 620 = .ok (.aload_n 2, 1) := by decide +kernel
theorem d_L_law_621 : decode b_L_law 621 = .ok (.aload_n 0, 1) := by decide +kernel
theorem d_L_law_622 : decode b_L_law 622 = .ok (.iload 4, 2) := by decide +kernel
theorem d_L_law_624 : decode b_L_law 624 = .ok (.iconst 1, 1) := by decide +kernel
theorem d_L_law_625 : decode b_L_law 625 = .ok (.iadd, 1) := by decide +kernel
theorem d_L_law_626 : decode b_L_law 626 = .ok (.iaload, 1) := by decide +kernel
theorem d_L_law_627 : decode b_L_law 627 = .ok (.aload_n 0, 1) := by decide +kernel
theorem d_L_law_628 : decode b_L_law 628 = .ok (.iload 4, 2) := by decide +kernel
theorem d_L_law_630 : decode b_L_law 630 = .ok (.iconst 2, 1) := by decide +kernel
theorem d_L_law_631 : decode b_L_law 631 = .ok (.iadd, 1) := by decide +kernel
theorem d_L_law_632 : decode b_L_law 632 = .ok (.iaload, 1) := by decide +kernel
theorem d_L_law_633 : decode b_L_law 633 = .ok (.aload_n 0, 1) := by decide +kernel
theorem d_L_law_634 : decode b_L_law 634 = .ok (.iload 4, 2) := by decide +kernel
theorem d_L_law_636 : decode b_L_law 636 = .ok (.iconst 3, 1) := by decide +kernel
theorem d_L_law_637 : decode b_L_law 637 = .ok (.iadd, 1) := by decide +kernel
theorem d_L_law_638 : decode b_L_law 638 = .ok (.iaload, 1) := by decide +kernel
theorem d_L_law_639 : decode b_L_law 639 = .ok (.invokevirtual 99, 3) := by decide +kernel
theorem d_L_law_642 : decode b_L_law 642 = .ok (.if_icmp .eq 813, 3) := by decide +kernel
theorem d_L_law_645 : decode b_L_law 645 = .ok (.iconst 0, 1) := by decide +kernel
theorem d_L_law_646 : decode b_L_law 646 = .ok (.ireturn, 1) := by decide +kernel
theorem d_L_law_647 : decode b_L_law 647 = .ok (.aload_n 1, 1) := by decide +kernel
theorem d_L_law_648 : decode b_L_law 648 = .ok (.aload_n 0, 1) := by decide +kernel
theorem d_L_law_649 : decode b_L_law 649 = .ok (.iload 4, 2) := by decide +kernel
theorem d_L_law_651 : decode b_L_law 651 = .ok (.iconst 1, 1) := by decide +kernel
theorem d_L_law_652 : decode b_L_law 652 = .ok (.iadd, 1) := by decide +kernel
theorem d_L_law_653 : decode b_L_law 653 = .ok (.iaload, 1) := by decide +kernel
theorem d_L_law_654 : decode b_L_law 654 = .ok (.aload_n 0, 1) := by decide +kernel
theorem d_L_law_655 : decode b_L_law 655 = .ok (.iload 4, 2) := by decide +kernel
theorem d_L_law_657 : decode b_L_law 657 = .ok (.iconst 2, 1) := by decide +kernel
theorem d_L_law_658 : decode b_L_law 658 = .ok (.iadd, 1) := by decide +kernel
theorem d_L_law_659 : decode b_L_law 659 = .ok (.iaload, 1) := by decide +kernel
theorem d_L_law_660 : decode b_L_law 660 = .ok (.invokestatic 100, 3) := by decide +kernel
theorem d_L_law_663 : decode b_L_law 663 = .ok (.istore 5, 2) := by decide +kernel
theorem d_L_law_665 : decode b_L_law 665 = .ok (.aload_n 2, 1) := by decide +kernel
theorem d_L_law_666 : decode b_L_law 666 = .ok (.aload_n 0, 1) := by decide +kernel
theorem d_L_law_667 : decode b_L_law 667 = .ok (.iload 4, 2) := by decide +kernel
theorem d_L_law_669 : decode b_L_law 669 = .ok (.iconst 1, 1) := by decide +kernel
theorem d_L_law_670 : decode b_L_law 670 = .ok (.iadd, 1) := by decide +kernel
theorem d_L_law_671 : decode b_L_law 671 = .ok (.iaload, 1) := by decide +kernel
theorem d_L_law_672 : decode b_L_law 672 = .ok (.aload_n 0, 1) := by decide +kernel
theorem d_L_law_673 : decode b_L_law 673 = .ok (.iload 4, 2) := by decide +kernel
theorem d_L_law_675 : decode b_L_law 675 = .ok (.iconst 2, 1) := by decide +kernel
theorem d_L_law_676 : decode b_L_law 676 = .ok (.iadd, 1) := by decide +kernel
theorem d_L_law_677 : decode b_L_law 677 = .ok (.iaload, 1) := by decide +kernel
theorem d_L_law_678 : decode b_L_law 678 = .ok (.invokevirtual 102, 3) := by decide +kernel
theorem d_L_law_681 : decode b_L_law 681 = .ok (.aload_n 2, 1) := by decide +kernel
theorem d_L_law_682 : decode b_L_law 682 = .ok (.invokevirtual 65, 3) := by decide +kernel
theorem d_L_law_685 : decode b_L_law 685 = .ok (.iload 5, 2) := by decide +kernel
theorem d_L_law_687 : decode b_L_law 687 = .ok (.if_icmp .eq 5, 3) := by decide +kernel
theorem d_L_law_690 : decode b_L_law 690 = .ok (.iconst 0, 1) := by decide +kernel
theorem d_L_law_691 : decode b_L_law 691 = .ok (.ireturn, 1) := by decide +kernel
theorem d_L_law_692 : decode b_L_law 692 = .ok (.goto 763, 3) := by decide +kernel
theorem d_L_law_695 : decode b_L_law 695 = .ok (.aload_n 1, 1) := by decide +kernel
theorem d_L_law_696 : decode b_L_law 696 = .ok (.aload_n 0, 1) := by decide +kernel
theorem d_L_law_697 : decode b_L_law 697 = .ok (.iload 4, 2) := by decide +kernel
theorem d_L_law_699 : decode b_L_law 699 = .ok (.iconst 1, 1) := by decide +kernel
theorem d_L_law_700 : decode b_L_law 700 = .ok (.iadd, 1) := by decide +kernel
theorem d_L_law_701 : decode b_L_law 701 = .ok (.iaload, 1) := by decide +kernel
theorem d_L_law_702 : decode b_L_law 702 = .ok (.aload_n 0, 1) := by decide +kernel
theorem d_L_law_703 : decode b_L_law 703 = .ok (.iload 4, 2) := by decide +kernel
theorem d_L_law_705 : decode b_L_law 705 = .ok (.iconst 2, 1) := by decide +kernel
theorem d_L_law_706 : decode b_L_law 706 = .ok (.iadd, 1) := by decide +kernel
theorem d_L_law_707 : decode b_L_law 707 = .ok (.iaload, 1) := by decide +kernel
theorem d_L_law_708 : decode b_L_law 708 = .ok (.aload_n 0, 1) := by decide +kernel
theorem d_L_law_709 : decode b_L_law 709 = .ok (.iload 4, 2) := by decide +kernel
theorem d_L_law_711 : decode b_L_law 711 = .ok (.iconst 3, 1) := by decide +kernel
theorem d_L_law_712 : decode b_L_law 712 = .ok (.iadd, 1) := by decide +kernel
theorem d_L_law_713 : decode b_L_law 713 = .ok (.iaload, 1) := by decide +kernel
theorem d_L_law_714 : decode b_L_law 714 = .ok (.aload_n 0, 1) := by decide +kernel
theorem d_L_law_715 : decode b_L_law 715 = .ok (.iload 4, 2) := by decide +kernel
theorem d_L_law_717 : decode b_L_law 717 = .ok (.iconst 4, 1) := by decide +kernel
theorem d_L_law_718 : decode b_L_law 718 = .ok (.iadd, 1) := by decide +kernel
theorem d_L_law_719 : decode b_L_law 719 = .ok (.iaload, 1) := by decide +kernel
theorem d_L_law_720 : decode b_L_law 720 = .ok (.invokestatic 103, 3) := by decide +kernel
theorem d_L_law_723 : decode b_L_law 723 = .ok (.istore 5, 2) := by decide +kernel
theorem d_L_law_725 : decode b_L_law 725 = .ok (.aload_n 2, 1) := by decide +kernel
theorem d_L_law_726 : decode b_L_law 726 = .ok (.aload_n 0, 1) := by decide +kernel
theorem d_L_law_727 : decode b_L_law 727 = .ok (.iload 4, 2) := by decide +kernel
theorem d_L_law_729 : decode b_L_law 729 = .ok (.iconst 1, 1) := by decide +kernel
theorem d_L_law_730 : decode b_L_law 730 = .ok (.iadd, 1) := by decide +kernel
theorem d_L_law_731 : decode b_L_law 731 = .ok (.iaload, 1) := by decide +kernel
theorem d_L_law_732 : decode b_L_law 732 = .ok (.aload_n 0, 1) := by decide +kernel
theorem d_L_law_733 : decode b_L_law 733 = .ok (.iload 4, 2) := by decide +kernel
theorem d_L_law_735 : decode b_L_law 735 = .ok (.iconst 2, 1) := by decide +kernel
theorem d_L_law_736 : decode b_L_law 736 = .ok (.iadd, 1) := by decide +kernel
theorem d_L_law_737 : decode b_L_law 737 = .ok (.iaload, 1) := by decide +kernel
theorem d_L_law_738 : decode b_L_law 738 = .ok (.aload_n 0, 1) := by decide +kernel
theorem d_L_law_739 : decode b_L_law 739 = .ok (.iload 4, 2) := by decide +kernel
theorem d_L_law_741 : decode b_L_law 741 = .ok (.iconst 3, 1) := by decide +kernel
theorem d_L_law_742 : decode b_L_law 742 = .ok (.iadd, 1) := by decide +kernel
theorem d_L_law_743 : decode b_L_law 743 = .ok (.iaload, 1) := by decide +kernel
theorem d_L_law_744 : decode b_L_law 744 = .ok (.aload_n 0, 1) := by decide +kernel
theorem d_L_law_745 : decode b_L_law 745 = .ok (.iload 4, 2) := by decide +kernel
theorem d_L_law_747 : decode b_L_law 747 = .ok (.iconst 4, 1) := by decide +kernel
theorem d_L_law_748 : decode b_L_law 748 = .ok (.iadd, 1) := by decide +kernel
theorem d_L_law_749 : decode b_L_law 749 = .ok (.iaload, 1) := by decide +kernel
theorem d_L_law_750 : decode b_L_law 750 = .ok (.invokevirtual 105, 3) := by decide +kernel
theorem d_L_law_753 : decode b_L_law 753 = .ok (.aload_n 2, 1) := by decide +kernel
theorem d_L_law_754 : decode b_L_law 754 = .ok (.invokevirtual 65, 3) := by decide +kernel
theorem d_L_law_757 : decode b_L_law 757 = .ok (.iload 5, 2) := by decide +kernel
theorem d_L_law_759 : decode b_L_law 759 = .ok (.if_icmp .eq 5, 3) := by decide +kernel
theorem d_L_law_762 : decode b_L_law 762 = .ok (.iconst 0, 1) := by decide +kernel
theorem d_L_law_763 : decode b_L_law 763 = .ok (.ireturn, 1) := by decide +kernel
theorem d_L_law_764 : decode b_L_law 764 = .ok (.goto 691, 3) := by decide +kernel
theorem d_L_law_767 : decode b_L_law 767 = .ok (.aload_n 1, 1) := by decide +kernel
theorem d_L_law_768 : decode b_L_law 768 = .ok (.aload_n 0, 1) := by decide +kernel
theorem d_L_law_769 : decode b_L_law 769 = .ok (.iload 4, 2) := by decide +kernel
theorem d_L_law_771 : decode b_L_law 771 = .ok (.iconst 1, 1) := by decide +kernel
theorem d_L_law_772 : decode b_L_law 772 = .ok (.iadd, 1) := by decide +kernel
theorem d_L_law_773 : decode b_L_law 773 = .ok (.iaload, 1) := by decide +kernel
theorem d_L_law_774 : decode b_L_law 774 = .ok (.aload_n 3, 1) := by decide +kernel
theorem d_L_law_775 : decode b_L_law 775 = .ok (.invokestatic 106, 3) := by decide +kernel
theorem d_L_law_778 : decode b_L_law 778 = .ok (.istore 5, 2) := by decide +kernel
theorem d_L_law_780 : decode b_L_law 780 = .ok (.aload_n 2, 1) := by decide +kernel
theorem d_L_law_781 : decode b_L_law 781 = .ok (.aload_n 0, 1) := by decide +kernel
theorem d_L_law_782 : decode b_L_law 782 = .ok (.iload 4, 2) := by decide +kernel
theorem d_L_law_784 : decode b_L_law 784 = .ok (.iconst 1, 1) := by decide +kernel
theorem d_L_law_785 : decode b_L_law 785 = .ok (.iadd, 1) := by decide +kernel
theorem d_L_law_786 : decode b_L_law 786 = .ok (.iaload, 1) := by decide +kernel
theorem d_L_law_787 : decode b_L_law 787 = .ok (.invokevirtual 109, 3) := by decide +kernel
theorem d_L_law_790 : decode b_L_law 790 = .ok (.istore 6, 2) := by decide +kernel
theorem d_L_law_792 : decode b_L_law 792 = .ok (.aload_n 2, 1) := by decide +kernel
theorem d_L_law_793 : decode b_L_law 793 = .ok (.invokevirtual 65, 3) := by decide +kernel
theorem d_L_law_796 : decode b_L_law 796 = .ok (.iload 5, 2) := by decide +kernel
theorem d_L_law_798 : decode b_L_law 798 = .ok (.if_icmp .eq 5, 3) := by decide +kernel
theorem d_L_law_801 : decode b_L_law 801 = .ok (.iconst 0, 1) := by decide +kernel
theorem d_L_law_802 : decode b_L_law 802 = .ok (.ireturn, 1) := by decide +kernel
theorem d_L_law_803 : decode b_L_law 803 = .ok (.iload 5, 2) := by decide +kernel
theorem d_L_law_805 : decode b_L_law 805 = .ok (.ifCond .ne 15, 3) := by decide +kernel
theorem d_L_law_808 : decode b_L_law 808 = .ok (.aload_n 3, 1) := by decide +kernel
theorem d_L_law_809 : decode b_L_law 809 = .ok (.iconst 0, 1) := by decide +kernel
theorem d_L_law_810 : decode b_L_law 810 = .ok (.laload, 1) := by decide +kernel
theorem d_L_law_811 : decode b_L_law 811 = .ok (.iload 6, 2) := by decide +kernel
theorem d_L_law_813 : decode b_L_law 813 = .ok (.i2l, 1) := by decide +kernel
theorem d_L_law_814 : decode b_L_law 814 = .ok (.lcmp, 1) := by decide +kernel
theorem d_L_law_815 : decode b_L_law 815 = .ok (.ifCond .eq 5, 3) := by decide +kernel
theorem d_L_law_818 : decode b_L_law 818 = .ok (.iconst 0, 1) := by decide +kernel
theorem d_L_law_819 : decode b_L_law 819 = .ok (.ireturn, 1) := by decide +kernel
theorem d_L_law_820 : decode b_L_law 820 = .ok (.goto 635, 3) := by decide +kernel
theorem d_L_law_823 : decode b_L_law 823 = .ok (.aload_n 1, 1) := by decide +kernel
theorem d_L_law_824 : decode b_L_law 824 = .ok (.aload_n 0, 1) := by decide +kernel
theorem d_L_law_825 : decode b_L_law 825 = .ok (.iload 4, 2) := by decide +kernel
theorem d_L_law_827 : decode b_L_law 827 = .ok (.iconst 1, 1) := by decide +kernel
theorem d_L_law_828 : decode b_L_law 828 = .ok (.iadd, 1) := by decide +kernel
theorem d_L_law_829 : decode b_L_law 829 = .ok (.iaload, 1) := by decide +kernel
theorem d_L_law_830 : decode b_L_law 830 = .ok (.aload_n 0, 1) := by decide +kernel
theorem d_L_law_831 : decode b_L_law 831 = .ok (.iload 4, 2) := by decide +kernel
theorem d_L_law_833 : decode b_L_law 833 = .ok (.iconst 2, 1) := by decide +kernel
theorem d_L_law_834 : decode b_L_law 834 = .ok (.iadd, 1) := by decide +kernel
theorem d_L_law_835 : decode b_L_law 835 = .ok (.iaload, 1) := by decide +kernel
theorem d_L_law_836 : decode b_L_law 836 = .ok (.aload_n 3, 1) := by decide +kernel
theorem d_L_law_837 : decode b_L_law 837 = .ok (.invokestatic 110, 3) := by decide +kernel
theorem d_L_law_840 : decode b_L_law 840 = .ok (.istore 5, 2) := by decide +kernel
theorem d_L_law_842 : decode b_L_law 842 = .ok (.aload_n 2, 1) := by decide +kernel
theorem d_L_law_843 : decode b_L_law 843 = .ok (.aload_n 0, 1) := by decide +kernel
theorem d_L_law_844 : decode b_L_law 844 = .ok (.iload 4, 2) := by decide +kernel
theorem d_L_law_846 : decode b_L_law 846 = .ok (.iconst 1, 1) := by decide +kernel
theorem d_L_law_847 : decode b_L_law 847 = .ok (.iadd, 1) := by decide +kernel
theorem d_L_law_848 : decode b_L_law 848 = .ok (.iaload, 1) := by decide +kernel
theorem d_L_law_849 : decode b_L_law 849 = .ok (.aload_n 0, 1) := by decide +kernel
theorem d_L_law_850 : decode b_L_law 850 = .ok (.iload 4, 2) := by decide +kernel
theorem d_L_law_852 : decode b_L_law 852 = .ok (.iconst 2, 1) := by decide +kernel
theorem d_L_law_853 : decode b_L_law 853 = .ok (.iadd, 1) := by decide +kernel
theorem d_L_law_854 : decode b_L_law 854 = .ok (.iaload, 1) := by decide +kernel
theorem d_L_law_855 : decode b_L_law 855 = .ok (.invokevirtual 113, 3) := by decide +kernel
theorem d_L_law_858 : decode b_L_law 858 = .ok (.istore 6, 2) := by decide +kernel
theorem d_L_law_860 : decode b_L_law 860 = .ok (.aload_n 2, 1) := by decide +kernel
theorem d_L_law_861 : decode b_L_law 861 = .ok (.invokevirtual 65, 3) := by decide +kernel
theorem d_L_law_864 : decode b_L_law 864 = .ok (.iload 5, 2) := by decide +kernel
theorem d_L_law_866 : decode b_L_law 866 = .ok (.if_icmp .eq 5, 3) := by decide +kernel
theorem d_L_law_869 : decode b_L_law 869 = .ok (.iconst 0, 1) := by decide +kernel
theorem d_L_law_870 : decode b_L_law 870 = .ok (.ireturn, 1) := by decide +kernel
theorem d_L_law_871 : decode b_L_law 871 = .ok (.iload 5, 2) := by decide +kernel
theorem d_L_law_873 : decode b_L_law 873 = .ok (.ifCond .ne 15, 3) := by decide +kernel
theorem d_L_law_876 : decode b_L_law 876 = .ok (.aload_n 3, 1) := by decide +kernel
theorem d_L_law_877 : decode b_L_law 877 = .ok (.iconst 0, 1) := by decide +kernel
theorem d_L_law_878 : decode b_L_law 878 = .ok (.laload, 1) := by decide +kernel
theorem d_L_law_879 : decode b_L_law 879 = .ok (.iload 6, 2) := by decide +kernel
theorem d_L_law_881 : decode b_L_law 881 = .ok (.i2l, 1) := by decide +kernel
theorem d_L_law_882 : decode b_L_law 882 = .ok (.lcmp, 1) := by decide +kernel
theorem d_L_law_883 : decode b_L_law 883 = .ok (.ifCond .eq 5, 3) := by decide +kernel
theorem d_L_law_886 : decode b_L_law 886 = .ok (.iconst 0, 1) := by decide +kernel
theorem d_L_law_887 : decode b_L_law 887 = .ok (.ireturn, 1) := by decide +kernel
theorem d_L_law_888 : decode b_L_law 888 = .ok (.goto 567, 3) := by decide +kernel
theorem d_L_law_891 : decode b_L_law 891 = .ok (.aload_n 1, 1) := by decide +kernel
theorem d_L_law_892 : decode b_L_law 892 = .ok (.aload_n 0, 1) := by decide +kernel
theorem d_L_law_893 : decode b_L_law 893 = .ok (.iload 4, 2) := by decide +kernel
theorem d_L_law_895 : decode b_L_law 895 = .ok (.iconst 1, 1) := by decide +kernel
theorem d_L_law_896 : decode b_L_law 896 = .ok (.iadd, 1) := by decide +kernel
theorem d_L_law_897 : decode b_L_law 897 = .ok (.iaload, 1) := by decide +kernel
theorem d_L_law_898 : decode b_L_law 898 = .ok (.aload_n 0, 1) := by decide +kernel
theorem d_L_law_899 : decode b_L_law 899 = .ok (.iload 4, 2) := by decide +kernel
theorem d_L_law_901 : decode b_L_law 901 = .ok (.iconst 2, 1) := by decide +kernel
theorem d_L_law_902 : decode b_L_law 902 = .ok (.iadd, 1) := by decide +kernel
theorem d_L_law_903 : decode b_L_law 903 = .ok (.iaload, 1) := by decide +kernel
theorem d_L_law_904 : decode b_L_law 904 = .ok (.aload_n 0, 1) := by decide +kernel
theorem d_L_law_905 : decode b_L_law 905 = .ok (.iload 4, 2) := by decide +kernel
theorem d_L_law_907 : decode b_L_law 907 = .ok (.iconst 3, 1) := by decide +kernel
theorem d_L_law_908 : decode b_L_law 908 = .ok (.iadd, 1) := by decide +kernel
theorem d_L_law_909 : decode b_L_law 909 = .ok (.iaload, 1) := by decide +kernel
theorem d_L_law_910 : decode b_L_law 910 = .ok (.invokevirtual 114, 3) := by decide +kernel
theorem d_L_law_913 : decode b_L_law 913 = .ok (.aload_n 2, 1) := by decide +kernel
theorem d_L_law_914 : decode b_L_law 914 = .ok (.aload_n 0, 1) := by decide +kernel
theorem d_L_law_915 : decode b_L_law 915 = .ok (.iload 4, 2) := by decide +kernel
theorem d_L_law_917 : decode b_L_law 917 = .ok (.iconst 1, 1) := by decide +kernel
theorem d_L_law_918 : decode b_L_law 918 = .ok (.iadd, 1) := by decide +kernel
theorem d_L_law_919 : decode b_L_law 919 = .ok (.iaload, 1) := by decide +kernel
theorem d_L_law_920 : decode b_L_law 920 = .ok (.aload_n 0, 1) := by decide +kernel
theorem d_L_law_921 : decode b_L_law 921 = .ok (.iload 4, 2) := by decide +kernel
theorem d_L_law_923 : decode b_L_law 923 = .ok (.iconst 2, 1) := by decide +kernel
theorem d_L_law_924 : decode b_L_law 924 = .ok (.iadd, 1) := by decide +kernel
theorem d_L_law_925 : decode b_L_law 925 = .ok (.iaload, 1) := by decide +kernel
theorem d_L_law_926 : decode b_L_law 926 = .ok (.aload_n 0, 1) := by decide +kernel
theorem d_L_law_927 : decode b_L_law 927 = .ok (.iload 4, 2) := by decide +kernel
theorem d_L_law_929 : decode b_L_law 929 = .ok (.iconst 3, 1) := by decide +kernel
theorem d_L_law_930 : decode b_L_law 930 = .ok (.iadd, 1) := by decide +kernel
theorem d_L_law_931 : decode b_L_law 931 = .ok (.iaload, 1) := by decide +kernel
theorem d_L_law_932 : decode b_L_law 932 = .ok (.invokevirtual 117, 3) := by decide +kernel
theorem d_L_law_935 : decode b_L_law 935 = .ok (.if_icmp .eq 520, 3) := by decide +kernel
theorem d_L_law_938 : decode b_L_law 938 = .ok (.iconst 0, 1) := by decide +kernel
theorem d_L_law_939 : decode b_L_law 939 = .ok (.ireturn, 1) := by decide +kernel
theorem d_L_law_940 : decode b_L_law 940 = .ok (.aload_n 1, 1) := by decide +kernel
theorem d_L_law_941 : decode b_L_law 941 = .ok (.aload_n 0, 1) := by decide +kernel
theorem d_L_law_942 : decode b_L_law 942 = .ok (.iload 4, 2) := by decide +kernel
theorem d_L_law_944 : decode b_L_law 944 = .ok (.iconst 1, 1) := by decide +kernel
theorem d_L_law_945 : decode b_L_law 945 = .ok (.iadd, 1) := by decide +kernel
theorem d_L_law_946 : decode b_L_law 946 = .ok (.iaload, 1) := by decide +kernel
theorem d_L_law_947 : decode b_L_law 947 = .ok (.aload_n 0, 1) := by decide +kernel
theorem d_L_law_948 : decode b_L_law 948 = .ok (.iload 4, 2) := by decide +kernel
theorem d_L_law_950 : decode b_L_law 950 = .ok (.iconst 2, 1) := by decide +kernel
theorem d_L_law_951 : decode b_L_law 951 = .ok (.iadd, 1) := by decide +kernel
theorem d_L_law_952 : decode b_L_law 952 = .ok (.iaload, 1) := by decide +kernel
theorem d_L_law_953 : decode b_L_law 953 = .ok (.aload_n 0, 1) := by decide +kernel
theorem d_L_law_954 : decode b_L_law 954 = .ok (.iload 4, 2) := by decide +kernel
theorem d_L_law_956 : decode b_L_law 956 = .ok (.iconst 3, 1) := by decide +kernel
theorem d_L_law_957 : decode b_L_law 957 = .ok (.iadd, 1) := by decide +kernel
theorem d_L_law_958 : decode b_L_law 958 = .ok (.iaload, 1) := by decide +kernel
theorem d_L_law_959 : decode b_L_law 959 = .ok (.aload_n 3, 1) := by decide +kernel
theorem d_L_law_960 : decode b_L_law 960 = .ok (.invokestatic 118, 3) := by decide +kernel
theorem d_L_law_963 : decode b_L_law 963 = .ok (.istore 5, 2) := by decide +kernel
theorem d_L_law_965 : decode b_L_law 965 = .ok (.aload_n 2, 1) := by decide +kernel
theorem d_L_law_966 : decode b_L_law 966 = .ok (.aload_n 0, 1) := by decide +kernel
theorem d_L_law_967 : decode b_L_law 967 = .ok (.iload 4, 2) := by decide +kernel
theorem d_L_law_969 : decode b_L_law 969 = .ok (.iconst 1, 1) := by decide +kernel
theorem d_L_law_970 : decode b_L_law 970 = .ok (.iadd, 1) := by decide +kernel
theorem d_L_law_971 : decode b_L_law 971 = .ok (.iaload, 1) := by decide +kernel
theorem d_L_law_972 : decode b_L_law 972 = .ok (.aload_n 0, 1) := by decide +kernel
theorem d_L_law_973 : decode b_L_law 973 = .ok (.iload 4, 2) := by decide +kernel
theorem d_L_law_975 : decode b_L_law 975 = .ok (.iconst 2, 1) := by decide +kernel
theorem d_L_law_976 : decode b_L_law 976 = .ok (.iadd, 1) := by decide +kernel
theorem d_L_law_977 : decode b_L_law 977 = .ok (.iaload, 1) := by decide +kernel
theorem d_L_law_978 : decode b_L_law 978 = .ok (.aload_n 0, 1) := by decide +kernel
theorem d_L_law_979 : decode b_L_law 979 = .ok (.iload 4, 2) := by decide +kernel
theorem d_L_law_981 : decode b_L_law 981 = .ok (.iconst 3, 1) := by decide +kernel
theorem d_L_law_982 : decode b_L_law 982 = .ok (.iadd, 1) := by decide +kernel
theorem d_L_law_983 : decode b_L_law 983 = .ok (.iaload, 1) := by decide +kernel
theorem d_L_law_984 : decode b_L_law 984 = .ok (.invokevirtual 121, 3) := by decide +kernel
theorem d_L_law_987 : decode b_L_law 987 = .ok (.istore 6, 2) := by decide +kernel
theorem d_L_law_989 : decode b_L_law 989 = .ok (.aload_n 2, 1) := by decide +kernel
theorem d_L_law_990 : decode b_L_law 990 = .ok (.invokevirtual 65, 3) := by decide +kernel
theorem d_L_law_993 : decode b_L_law 993 = .ok (.iload 5, 2) := by decide +kernel
theorem d_L_law_995 : decode b_L_law 995 = .ok (.if_icmp .eq 5, 3) := by decide +kernel
theorem d_L_law_998 : decode b_L_law 998 = .ok (.iconst 0, 1) := by decide +kernel
theorem d_L_law_999 : decode b_L_law 999 = .ok (.ireturn, 1) := by decide +kernel
theorem d_L_law_1000 : decode b_L_law 1000 = .ok (.iload 5, 2) := by decide +kernel
theorem d_L_law_1002 : decode b_L_law 1002 = .ok (.ifCond .ne 15, 3) := by decide +kernel
theorem d_L_law_1005 : decode b_L_law 1005 = .ok (.aload_n 3, 1) := by decide +kernel
theorem d_L_law_1006 : decode b_L_law 1006 = .ok (.iconst 0, 1) := by decide +kernel
theorem d_L_law_1007 : decode b_L_law 1007 = .ok (.laload, 1) := by decide +kernel
theorem d_L_law_1008 : decode b_L_law 1008 = .ok (.iload 6, 2) := by decide +kernel
theorem d_L_law_1010 : decode b_L_law 1010 = .ok (.i2l, 1) := by decide +kernel
theorem d_L_law_1011 : decode b_L_law 1011 = .ok (.lcmp, 1) := by decide +kernel
theorem d_L_law_1012 : decode b_L_law 1012 = .ok (.ifCond .eq 5, 3) := by decide +kernel
theorem d_L_law_1015 : decode b_L_law 1015 = .ok (.iconst 0, 1) := by decide +kernel
theorem d_L_law_1016 : decode b_L_law 1016 = .ok (.ireturn, 1) := by decide +kernel
theorem d_L_law_1017 : decode b_L_law 1017 = .ok (.goto 438, 3) := by decide +kernel
theorem d_L_law_1020 : decode b_L_law 1020 = .ok (.aload_n 1, 1) := by decide +kernel
theorem d_L_law_1021 : decode b_L_law 1021 = .ok (.aload_n 0, 1) := by decide +kernel
theorem d_L_law_1022 : decode b_L_law 1022 = .ok (.iload 4, 2) := by decide +kernel
theorem d_L_law_1024 : decode b_L_law 1024 = .ok (.iconst 1, 1) := by decide +kernel
theorem d_L_law_1025 : decode b_L_law 1025 = .ok (.iadd, 1) := by decide +kernel
theorem d_L_law_1026 : decode b_L_law 1026 = .ok (.iaload, 1) := by decide +kernel
theorem d_L_law_1027 : decode b_L_law 1027 = .ok (.aload_n 0, 1) := by decide +kernel
theorem d_L_law_1028 : decode b_L_law 1028 = .ok (.iload 4, 2) := by decide +kernel
theorem d_L_law_1030 : decode b_L_law 1030 = .ok (.iconst 2, 1) := by decide +kernel
theorem d_L_law_1031 : decode b_L_law 1031 = .ok (.iadd, 1) := by decide +kernel
theorem d_L_law_1032 : decode b_L_law 1032 = .ok (.iaload, 1) := by decide +kernel
theorem d_L_law_1033 : decode b_L_law 1033 = .ok (.aload_n 0, 1) := by decide +kernel
theorem d_L_law_1034 : decode b_L_law 1034 = .ok (.iload 4, 2) := by decide +kernel
theorem d_L_law_1036 : decode b_L_law 1036 = .ok (.iconst 3, 1) := by decide +kernel
theorem d_L_law_1037 : decode b_L_law 1037 = .ok (.iadd, 1) := by decide +kernel
theorem d_L_law_1038 : decode b_L_law 1038 = .ok (.iaload, 1) := by decide +kernel
theorem d_L_law_1039 : decode b_L_law 1039 = .ok (.aload_n 0, 1) := by decide +kernel
theorem d_L_law_1040 : decode b_L_law 1040 = .ok (.iload 4, 2) := by decide +kernel
theorem d_L_law_1042 : decode b_L_law 1042 = .ok (.iconst 4, 1) := by decide +kernel
theorem d_L_law_1043 : decode b_L_law 1043 = .ok (.iadd, 1) := by decide +kernel
theorem d_L_law_1044 : decode b_L_law 1044 = .ok (.iaload, 1) := by decide +kernel
theorem d_L_law_1045 : decode b_L_law 1045 = .ok (.invokevirtual 122, 3) := by decide +kernel
theorem d_L_law_1048 : decode b_L_law 1048 = .ok (.aload_n 2, 1) := by decide +kernel
theorem d_L_law_1049 : decode b_L_law 1049 = .ok (.aload_n 0, 1) := by decide +kernel
theorem d_L_law_1050 : decode b_L_law 1050 = .ok (.iload 4, 2) := by decide +kernel
theorem d_L_law_1052 : decode b_L_law 1052 = .ok (.iconst 1, 1) := by decide +kernel
theorem d_L_law_1053 : decode b_L_law 1053 = .ok (.iadd, 1) := by decide +kernel
theorem d_L_law_1054 : decode b_L_law 1054 = .ok (.iaload, 1) := by decide +kernel
theorem d_L_law_1055 : decode b_L_law 1055 = .ok (.aload_n 0, 1) := by decide +kernel
theorem d_L_law_1056 : decode b_L_law 1056 = .ok (.iload 4, 2) := by decide +kernel
theorem d_L_law_1058 : decode b_L_law 1058 = .ok (.iconst 2, 1) := by decide +kernel
theorem d_L_law_1059 : decode b_L_law 1059 = .ok (.iadd, 1) := by decide +kernel
theorem d_L_law_1060 : decode b_L_law 1060 = .ok (.iaload, 1) := by decide +kernel
theorem d_L_law_1061 : decode b_L_law 1061 = .ok (.aload_n 0, 1) := by decide +kernel
theorem d_L_law_1062 : decode b_L_law 1062 = .ok (.iload 4, 2) := by decide +kernel
theorem d_L_law_1064 : decode b_L_law 1064 = .ok (.iconst 3, 1) := by decide +kernel
theorem d_L_law_1065 : decode b_L_law 1065 = .ok (.iadd, 1) := by decide +kernel
theorem d_L_law_1066 : decode b_L_law 1066 = .ok (.iaload, 1) := by decide +kernel
theorem d_L_law_1067 : decode b_L_law 1067 = .ok (.aload_n 0, 1) := by decide +kernel
theorem d_L_law_1068 : decode b_L_law 1068 = .ok (.iload 4, 2) := by decide +kernel
theorem d_L_law_1070 : decode b_L_law 1070 = .ok (.iconst 4, 1) := by decide +kernel
theorem d_L_law_1071 : decode b_L_law 1071 = .ok (.iadd, 1) := by decide +kernel
theorem d_L_law_1072 : decode b_L_law 1072 = .ok (.iaload, 1) := by decide +kernel
theorem d_L_law_1073 : decode b_L_law 1073 = .ok (.invokevirtual 126, 3) := by decide +kernel
theorem d_L_law_1076 : decode b_L_law 1076 = .ok (.if_icmp .eq 379, 3) := by decide +kernel
theorem d_L_law_1079 : decode b_L_law 1079 = .ok (.iconst 0, 1) := by decide +kernel
theorem d_L_law_1080 : decode b_L_law 1080 = .ok (.ireturn, 1) := by decide +kernel
theorem d_L_law_1081 : decode b_L_law 1081 = .ok (.aload_n 1, 1) := by decide +kernel
theorem d_L_law_1082 : decode b_L_law 1082 = .ok (.aload_n 0, 1) := by decide +kernel
theorem d_L_law_1083 : decode b_L_law 1083 = .ok (.iload 4, 2) := by decide +kernel
theorem d_L_law_1085 : decode b_L_law 1085 = .ok (.iconst 1, 1) := by decide +kernel
theorem d_L_law_1086 : decode b_L_law 1086 = .ok (.iadd, 1) := by decide +kernel
theorem d_L_law_1087 : decode b_L_law 1087 = .ok (.iaload, 1) := by decide +kernel
theorem d_L_law_1088 : decode b_L_law 1088 = .ok (.aload_n 0, 1) := by decide +kernel
theorem d_L_law_1089 : decode b_L_law 1089 = .ok (.iload 4, 2) := by decide +kernel
theorem d_L_law_1091 : decode b_L_law 1091 = .ok (.iconst 2, 1) := by decide +kernel
theorem d_L_law_1092 : decode b_L_law 1092 = .ok (.iadd, 1) := by decide +kernel
theorem d_L_law_1093 : decode b_L_law 1093 = .ok (.iaload, 1) := by decide +kernel
theorem d_L_law_1094 : decode b_L_law 1094 = .ok (.aload_n 0, 1) := by decide +kernel
theorem d_L_law_1095 : decode b_L_law 1095 = .ok (.iload 4, 2) := by decide +kernel
theorem d_L_law_1097 : decode b_L_law 1097 = .ok (.iconst 3, 1) := by decide +kernel
theorem d_L_law_1098 : decode b_L_law 1098 = .ok (.iadd, 1) := by decide +kernel
theorem d_L_law_1099 : decode b_L_law 1099 = .ok (.iaload, 1) := by decide +kernel
theorem d_L_law_1100 : decode b_L_law 1100 = .ok (.aload_n 0, 1) := by decide +kernel
theorem d_L_law_1101 : decode b_L_law 1101 = .ok (.iload 4, 2) := by decide +kernel
theorem d_L_law_1103 : decode b_L_law 1103 = .ok (.iconst 4, 1) := by decide +kernel
theorem d_L_law_1104 : decode b_L_law 1104 = .ok (.iadd, 1) := by decide +kernel
theorem d_L_law_1105 : decode b_L_law 1105 = .ok (.iaload, 1) := by decide +kernel
theorem d_L_law_1106 : decode b_L_law 1106 = .ok (.aload_n 0, 1) := by decide +kernel
theorem d_L_law_1107 : decode b_L_law 1107 = .ok (.iload 4, 2) := by decide +kernel
theorem d_L_law_1109 : decode b_L_law 1109 = .ok (.iconst 5, 1) := by decide +kernel
theorem d_L_law_1110 : decode b_L_law 1110 = .ok (.iadd, 1) := by decide +kernel
theorem d_L_law_1111 : decode b_L_law 1111 = .ok (.iaload, 1) := by decide +kernel
theorem d_L_law_1112 : decode b_L_law 1112 = .ok (.invokevirtual 127, 3) := by decide +kernel
theorem d_L_law_1115 : decode b_L_law 1115 = .ok (.aload_n 2, 1) := by decide +kernel
theorem d_L_law_1116 : decode b_L_law 1116 = .ok (.aload_n 0, 1) := by decide +kernel
theorem d_L_law_1117 : decode b_L_law 1117 = .ok (.iload 4, 2) := by decide +kernel
theorem d_L_law_1119 : decode b_L_law 1119 = .ok (.iconst 1, 1) := by decide +kernel
theorem d_L_law_1120 : decode b_L_law 1120 = .ok (.iadd, 1) := by decide +kernel
theorem d_L_law_1121 : decode b_L_law 1121 = .ok (.iaload, 1) := by decide +kernel
theorem d_L_law_1122 : decode b_L_law 1122 = .ok (.aload_n 0, 1) := by decide +kernel
theorem d_L_law_1123 : decode b_L_law 1123 = .ok (.iload 4, 2) := by decide +kernel
theorem d_L_law_1125 : decode b_L_law 1125 = .ok (.iconst 2, 1) := by decide +kernel
theorem d_L_law_1126 : decode b_L_law 1126 = .ok (.iadd, 1) := by decide +kernel
theorem d_L_law_1127 : decode b_L_law 1127 = .ok (.iaload, 1) := by decide +kernel
theorem d_L_law_1128 : decode b_L_law 1128 = .ok (.aload_n 0, 1) := by decide +kernel
theorem d_L_law_1129 : decode b_L_law 1129 = .ok (.iload 4, 2) := by decide +kernel
theorem d_L_law_1131 : decode b_L_law 1131 = .ok (.iconst 3, 1) := by decide +kernel
theorem d_L_law_1132 : decode b_L_law 1132 = .ok (.iadd, 1) := by decide +kernel
theorem d_L_law_1133 : decode b_L_law 1133 = .ok (.iaload, 1) := by decide +kernel
theorem d_L_law_1134 : decode b_L_law 1134 = .ok (.aload_n 0, 1) := by decide +kernel
theorem d_L_law_1135 : decode b_L_law 1135 = .ok (.iload 4, 2) := by decide +kernel
theorem d_L_law_1137 : decode b_L_law 1137 = .ok (.iconst 4, 1) := by decide +kernel
theorem d_L_law_1138 : decode b_L_law 1138 = .ok (.iadd, 1) := by decide +kernel
theorem d_L_law_1139 : decode b_L_law 1139 = .ok (.iaload, 1) := by decide +kernel
theorem d_L_law_1140 : decode b_L_law 1140 = .ok (.aload_n 0, 1) := by decide +kernel
theorem d_L_law_1141 : decode b_L_law 1141 = .ok (.iload 4, 2) := by decide +kernel
theorem d_L_law_1143 : decode b_L_law 1143 = .ok (.iconst 5, 1) := by decide +kernel
theorem d_L_law_1144 : decode b_L_law 1144 = .ok (.iadd, 1) := by decide +kernel
theorem d_L_law_1145 : decode b_L_law 1145 = .ok (.iaload, 1) := by decide +kernel
theorem d_L_law_1146 : decode b_L_law 1146 = .ok (.invokevirtual 131, 3) := by decide +kernel
theorem d_L_law_1149 : decode b_L_law 1149 = .ok (.if_icmp .eq 306, 3) := by decide +kernel
theorem d_L_law_1152 : decode b_L_law 1152 = .ok (.iconst 0, 1) := by decide +kernel
theorem d_L_law_1153 : decode b_L_law 1153 = .ok (.ireturn, 1) := by decide +kernel
theorem d_L_law_1154 : decode b_L_law 1154 = .ok (.aload_n 1, 1) := by decide +kernel
theorem d_L_law_1155 : decode b_L_law 1155 = .ok (.aload_n 0, 1) := by decide +kernel
theorem d_L_law_1156 : decode b_L_law 1156 = .ok (.iload 4, 2) := by decide +kernel
theorem d_L_law_1158 : decode b_L_law 1158 = .ok (.iconst 1, 1) := by decide +kernel
theorem d_L_law_1159 : decode b_L_law 1159 = .ok (.iadd, 1) := by decide +kernel
theorem d_L_law_1160 : decode b_L_law 1160 = .ok (.iaload, 1) := by decide +kernel
theorem d_L_law_1161 : decode b_L_law 1161 = .ok (.aload_n 0, 1) := by decide +kernel
theorem d_L_law_1162 : decode b_L_law 1162 = .ok (.iload 4, 2) := by decide +kernel
theorem d_L_law_1164 : decode b_L_law 1164 = .ok (.iconst 2, 1) := by decide +kernel
theorem d_L_law_1165 : decode b_L_law 1165 = .ok (.iadd, 1) := by decide +kernel
theorem d_L_law_1166 : decode b_L_law 1166 = .ok (.iaload, 1) := by decide +kernel
theorem d_L_law_1167 : decode b_L_law 1167 = .ok (.aload_n 0, 1) := by decide +kernel
theorem d_L_law_1168 : decode b_L_law 1168 = .ok (.iload 4, 2) := by decide +kernel
theorem d_L_law_1170 : decode b_L_law 1170 = .ok (.iconst 3, 1) := by decide +kernel
theorem d_L_law_1171 : decode b_L_law 1171 = .ok (.iadd, 1) := by decide +kernel
theorem d_L_law_1172 : decode b_L_law 1172 = .ok (.iaload, 1) := by decide +kernel
theorem d_L_law_1173 : decode b_L_law 1173 = .ok (.aload_n 3, 1) := by decide +kernel
theorem d_L_law_1174 : decode b_L_law 1174 = .ok (.invokestatic 132, 3) := by decide +kernel
theorem d_L_law_1177 : decode b_L_law 1177 = .ok (.istore 5, 2) := by decide +kernel
theorem d_L_law_1179 : decode b_L_law 1179 = .ok (.aload_n 2, 1) := by decide +kernel
theorem d_L_law_1180 : decode b_L_law 1180 = .ok (.aload_n 0, 1) := by decide +kernel
theorem d_L_law_1181 : decode b_L_law 1181 = .ok (.iload 4, 2) := by decide +kernel
theorem d_L_law_1183 : decode b_L_law 1183 = .ok (.iconst 1, 1) := by decide +kernel
theorem d_L_law_1184 : decode b_L_law 1184 = .ok (.iadd, 1) := by decide +kernel
theorem d_L_law_1185 : decode b_L_law 1185 = .ok (.iaload, 1) := by decide +kernel
theorem d_L_law_1186 : decode b_L_law 1186 = .ok (.aload_n 0, 1) := by decide +kernel
theorem d_L_law_1187 : decode b_L_law 1187 = .ok (.iload 4, 2) := by decide +kernel
theorem d_L_law_1189 : decode b_L_law 1189 = .ok (.iconst 2, 1) := by decide +kernel
theorem d_L_law_1190 : decode b_L_law 1190 = .ok (.iadd, 1) := by decide +kernel
theorem d_L_law_1191 : decode b_L_law 1191 = .ok (.iaload, 1) := by decide +kernel
theorem d_L_law_1192 : decode b_L_law 1192 = .ok (.aload_n 0, 1) := by decide +kernel
theorem d_L_law_1193 : decode b_L_law 1193 = .ok (.iload 4, 2) := by decide +kernel
theorem d_L_law_1195 : decode b_L_law 1195 = .ok (.iconst 3, 1) := by decide +kernel
theorem d_L_law_1196 : decode b_L_law 1196 = .ok (.iadd, 1) := by decide +kernel
theorem d_L_law_1197 : decode b_L_law 1197 = .ok (.iaload, 1) := by decide +kernel
theorem d_L_law_1198 : decode b_L_law 1198 = .ok (.invokevirtual 134, 3) := by decide +kernel
theorem d_L_law_1201 : decode b_L_law 1201 = .ok (.istore 6, 2) := by decide +kernel
theorem d_L_law_1203 : decode b_L_law 1203 = .ok (.aload_n 2, 1) := by decide +kernel
theorem d_L_law_1204 : decode b_L_law 1204 = .ok (.invokevirtual 65, 3) := by decide +kernel
theorem d_L_law_1207 : decode b_L_law 1207 = .ok (.iload 5, 2) := by decide +kernel
theorem d_L_law_1209 : decode b_L_law 1209 = .ok (.if_icmp .eq 5, 3) := by decide +kernel
theorem d_L_law_1212 : decode b_L_law 1212 = .ok (.iconst 0, 1) := by decide +kernel
theorem d_L_law_1213 : decode b_L_law 1213 = .ok (.ireturn, 1) := by decide +kernel
theorem d_L_law_1214 : decode b_L_law 1214 = .ok (.iload 5, 2) := by decide +kernel
theorem d_L_law_1216 : decode b_L_law 1216 = .ok (.ifCond .ne 15, 3) := by decide +kernel
theorem d_L_law_1219 : decode b_L_law 1219 = .ok (.aload_n 3, 1) := by decide +kernel
theorem d_L_law_1220 : decode b_L_law 1220 = .ok (.iconst 0, 1) := by decide +kernel
theorem d_L_law_1221 : decode b_L_law 1221 = .ok (.laload, 1) := by decide +kernel
theorem d_L_law_1222 : decode b_L_law 1222 = .ok (.iload 6, 2) := by decide +kernel
theorem d_L_law_1224 : decode b_L_law 1224 = .ok (.i2l, 1) := by decide +kernel
theorem d_L_law_1225 : decode b_L_law 1225 = .ok (.lcmp, 1) := by decide +kernel
theorem d_L_law_1226 : decode b_L_law 1226 = .ok (.ifCond .eq 5, 3) := by decide +kernel
theorem d_L_law_1229 : decode b_L_law 1229 = .ok (.iconst 0, 1) := by decide +kernel
theorem d_L_law_1230 : decode b_L_law 1230 = .ok (.ireturn, 1) := by decide +kernel
theorem d_L_law_1231 : decode b_L_law 1231 = .ok (.goto 224, 3) := by decide +kernel
theorem d_L_law_1234 : decode b_L_law 1234 = .ok (.aload_n 1, 1) := by decide +kernel
theorem d_L_law_1235 : decode b_L_law 1235 = .ok (.aload_n 0, 1) := by decide +kernel
theorem d_L_law_1236 : decode b_L_law 1236 = .ok (.iload 4, 2) := by decide +kernel
theorem d_L_law_1238 : decode b_L_law 1238 = .ok (.iconst 1, 1) := by decide +kernel
theorem d_L_law_1239 : decode b_L_law 1239 = .ok (.iadd, 1) := by decide +kernel
theorem d_L_law_1240 : decode b_L_law 1240 = .ok (.iaload, 1) := by decide +kernel
theorem d_L_law_1241 : decode b_L_law 1241 = .ok (.aload_n 0, 1) := by decide +kernel
theorem d_L_law_1242 : decode b_L_law 1242 = .ok (.iload 4, 2) := by decide +kernel
theorem d_L_law_1244 : decode b_L_law 1244 = .ok (.iconst 2, 1) := by decide +kernel
theorem d_L_law_1245 : decode b_L_law 1245 = .ok (.iadd, 1) := by decide +kernel
theorem d_L_law_1246 : decode b_L_law 1246 = .ok (.iaload, 1) := by decide +kernel
theorem d_L_law_1247 : decode b_L_law 1247 = .ok (.aload_n 0, 1) := by decide +kernel
theorem d_L_law_1248 : decode b_L_law 1248 = .ok (.iload 4, 2) := by decide +kernel
theorem d_L_law_1250 : decode b_L_law 1250 = .ok (.iconst 3, 1) := by decide +kernel
theorem d_L_law_1251 : decode b_L_law 1251 = .ok (.iadd, 1) := by decide +kernel
theorem d_L_law_1252 : decode b_L_law 1252 = .ok (.iaload, 1) := by decide +kernel
theorem d_L_law_1253 : decode b_L_law 1253 = .ok (.invokevirtual 135, 3) := by decide +kernel
theorem d_L_law_1256 : decode b_L_law 1256 = .ok (.aload_n 2, 1) := by decide +kernel
theorem d_L_law_1257 : decode b_L_law 1257 = .ok (.aload_n 0, 1) := by decide +kernel
theorem d_L_law_1258 : decode b_L_law 1258 = .ok (.iload 4, 2) := by decide +kernel
theorem d_L_law_1260 : decode b_L_law 1260 = .ok (.iconst 1, 1) := by decide +kernel
theorem d_L_law_1261 : decode b_L_law 1261 = .ok (.iadd, 1) := by decide +kernel
theorem d_L_law_1262 : decode b_L_law 1262 = .ok (.iaload, 1) := by decide +kernel
theorem d_L_law_1263 : decode b_L_law 1263 = .ok (.aload_n 0, 1) := by decide +kernel
theorem d_L_law_1264 : decode b_L_law 1264 = .ok (.iload 4, 2) := by decide +kernel
theorem d_L_law_1266 : decode b_L_law 1266 = .ok (.iconst 2, 1) := by decide +kernel
theorem d_L_law_1267 : decode b_L_law 1267 = .ok (.iadd, 1) := by decide +kernel
theorem d_L_law_1268 : decode b_L_law 1268 = .ok (.iaload, 1) := by decide +kernel
theorem d_L_law_1269 : decode b_L_law 1269 = .ok (.aload_n 0, 1) := by decide +kernel
theorem d_L_law_1270 : decode b_L_law 1270 = .ok (.iload 4, 2) := by decide +kernel
theorem d_L_law_1272 : decode b_L_law 1272 = .ok (.iconst 3, 1) := by decide +kernel
theorem d_L_law_1273 : decode b_L_law 1273 = .ok (.iadd, 1) := by decide +kernel
theorem d_L_law_1274 : decode b_L_law 1274 = .ok (.iaload, 1) := by decide +kernel
theorem d_L_law_1275 : decode b_L_law 1275 = .ok (.invokevirtual 138, 3) := by decide +kernel
theorem d_L_law_1278 : decode b_L_law 1278 = .ok (.if_icmp .eq 177, 3) := by decide +kernel
theorem d_L_law_1281 : decode b_L_law 1281 = .ok (.iconst 0, 1) := by decide +kernel
theorem d_L_law_1282 : decode b_L_law 1282 = .ok (.ireturn, 1) := by decide +kernel
theorem d_L_law_1283 : decode b_L_law 1283 = .ok (.aload_n 1, 1) := by decide +kernel
theorem d_L_law_1284 : decode b_L_law 1284 = .ok (.aload_n 0, 1) := by decide +kernel
theorem d_L_law_1285 : decode b_L_law 1285 = .ok (.iload 4, 2) := by decide +kernel
theorem d_L_law_1287 : decode b_L_law 1287 = .ok (.iconst 1, 1) := by decide +kernel
theorem d_L_law_1288 : decode b_L_law 1288 = .ok (.iadd, 1) := by decide +kernel
theorem d_L_law_1289 : decode b_L_law 1289 = .ok (.iaload, 1) := by decide +kernel
theorem d_L_law_1290 : decode b_L_law 1290 = .ok (.aload_n 0, 1) := by decide +kernel
theorem d_L_law_1291 : decode b_L_law 1291 = .ok (.iload 4, 2) := by decide +kernel
theorem d_L_law_1293 : decode b_L_law 1293 = .ok (.iconst 2, 1) := by decide +kernel
theorem d_L_law_1294 : decode b_L_law 1294 = .ok (.iadd, 1) := by decide +kernel
theorem d_L_law_1295 : decode b_L_law 1295 = .ok (.iaload, 1) := by decide +kernel
theorem d_L_law_1296 : decode b_L_law 1296 = .ok (.aload_n 0, 1) := by decide +kernel
theorem d_L_law_1297 : decode b_L_law 1297 = .ok (.iload 4, 2) := by decide +kernel
theorem d_L_law_1299 : decode b_L_law 1299 = .ok (.iconst 3, 1) := by decide +kernel
theorem d_L_law_1300 : decode b_L_law 1300 = .ok (.iadd, 1) := by decide +kernel
theorem d_L_law_1301 : decode b_L_law 1301 = .ok (.iaload, 1) := by decide +kernel
theorem d_L_law_1302 : decode b_L_law 1302 = .ok (.aload_n 0, 1) := by decide +kernel
theorem d_L_law_1303 : decode b_L_law 1303 = .ok (.iload 4, 2) := by decide +kernel
theorem d_L_law_1305 : decode b_L_law 1305 = .ok (.iconst 4, 1) := by decide +kernel
theorem d_L_law_1306 : decode b_L_law 1306 = .ok (.iadd, 1) := by decide +kernel
theorem d_L_law_1307 : decode b_L_law 1307 = .ok (.iaload, 1) := by decide +kernel
theorem d_L_law_1308 : decode b_L_law 1308 = .ok (.invokevirtual 139, 3) := by decide +kernel
theorem d_L_law_1311 : decode b_L_law 1311 = .ok (.aload_n 2, 1) := by decide +kernel
theorem d_L_law_1312 : decode b_L_law 1312 = .ok (.aload_n 0, 1) := by decide +kernel
theorem d_L_law_1313 : decode b_L_law 1313 = .ok (.iload 4, 2) := by decide +kernel
theorem d_L_law_1315 : decode b_L_law 1315 = .ok (.iconst 1, 1) := by decide +kernel
theorem d_L_law_1316 : decode b_L_law 1316 = .ok (.iadd, 1) := by decide +kernel
theorem d_L_law_1317 : decode b_L_law 1317 = .ok (.iaload, 1) := by decide +kernel
theorem d_L_law_1318 : decode b_L_law 1318 = .ok (.aload_n 0, 1) := by decide +kernel
theorem d_L_law_1319 : decode b_L_law 1319 = .ok (.iload 4, 2) := by decide +kernel
theorem d_L_law_1321 : decode b_L_law 1321 = .ok (.iconst 2, 1) := by decide +kernel
theorem d_L_law_1322 : decode b_L_law 1322 = .ok (.iadd, 1) := by decide +kernel
theorem d_L_law_1323 : decode b_L_law 1323 = .ok (.iaload, 1) := by decide +kernel
theorem d_L_law_1324 : decode b_L_law 1324 = .ok (.aload_n 0, 1) := by decide +kernel
theorem d_L_law_1325 : decode b_L_law 1325 = .ok (.iload 4, 2) := by decide +kernel
theorem d_L_law_1327 : decode b_L_law 1327 = .ok (.iconst 3, 1) := by decide +kernel
theorem d_L_law_1328 : decode b_L_law 1328 = .ok (.iadd, 1) := by decide +kernel
theorem d_L_law_1329 : decode b_L_law 1329 = .ok (.iaload, 1) := by decide +kernel
theorem d_L_law_1330 : decode b_L_law 1330 = .ok (.aload_n 0, 1) := by decide +kernel
theorem d_L_law_1331 : decode b_L_law 1331 = .ok (.iload 4, 2) := by decide +kernel
theorem d_L_law_1333 : decode b_L_law 1333 = .ok (.iconst 4, 1) := by decide +kernel
theorem d_L_law_1334 : decode b_L_law 1334 = .ok (.iadd, 1) := by decide +kernel
theorem d_L_law_1335 : decode b_L_law 1335 = .ok (.iaload, 1) := by decide +kernel
theorem d_L_law_1336 : decode b_L_law 1336 = .ok (.invokevirtual 142, 3) := by decide +kernel
theorem d_L_law_1339 : decode b_L_law 1339 = .ok (.if_icmp .eq 116, 3) := by decide +kernel
theorem d_L_law_1342 : decode b_L_law 1342 = .ok (.iconst 0, 1) := by decide +kernel
theorem d_L_law_1343 : decode b_L_law 1343 = .ok (.ireturn, 1) := by decide +kernel
theorem d_L_law_1344 : decode b_L_law 1344 = .ok (.aload_n 1, 1) := by decide +kernel
theorem d_L_law_1345 : decode b_L_law 1345 = .ok (.aload_n 0, 1) := by decide +kernel
theorem d_L_law_1346 : decode b_L_law 1346 = .ok (.iload 4, 2) := by decide +kernel
theorem d_L_law_1348 : decode b_L_law 1348 = .ok (.iconst 1, 1) := by decide +kernel
theorem d_L_law_1349 : decode b_L_law 1349 = .ok (.iadd, 1) := by decide +kernel
theorem d_L_law_1350 : decode b_L_law 1350 = .ok (.iaload, 1) := by decide +kernel
theorem d_L_law_1351 : decode b_L_law 1351 = .ok (.aload_n 0, 1) := by decide +kernel
theorem d_L_law_1352 : decode b_L_law 1352 = .ok (.iload 4, 2) := by decide +kernel
theorem d_L_law_1354 : decode b_L_law 1354 = .ok (.iconst 2, 1) := by decide +kernel
theorem d_L_law_1355 : decode b_L_law 1355 = .ok (.iadd, 1) := by decide +kernel
theorem d_L_law_1356 : decode b_L_law 1356 = .ok (.iaload, 1) := by decide +kernel
theorem d_L_law_1357 : decode b_L_law 1357 = .ok (.aload_n 0, 1) := by decide +kernel
theorem d_L_law_1358 : decode b_L_law 1358 = .ok (.iload 4, 2) := by decide +kernel
theorem d_L_law_1360 : decode b_L_law 1360 = .ok (.iconst 3, 1) := by decide +kernel
theorem d_L_law_1361 : decode b_L_law 1361 = .ok (.iadd, 1) := by decide +kernel
theorem d_L_law_1362 : decode b_L_law 1362 = .ok (.iaload, 1) := by decide +kernel
theorem d_L_law_1363 : decode b_L_law 1363 = .ok (.invokevirtual 143, 3) := by decide +kernel
theorem d_L_law_1366 : decode b_L_law 1366 = .ok (.aload_n 2, 1) := by decide +kernel
theorem d_L_law_1367 : decode b_L_law 1367 = .ok (.aload_n 0, 1) := by decide +kernel
theorem d_L_law_1368 : decode b_L_law 1368 = .ok (.iload 4, 2) := by decide +kernel
theorem d_L_law_1370 : decode b_L_law 1370 = .ok (.iconst 1, 1) := by decide +kernel
theorem d_L_law_1371 : decode b_L_law 1371 = .ok (.iadd, 1) := by decide +kernel
theorem d_L_law_1372 : decode b_L_law 1372 = .ok (.iaload, 1) := by decide +kernel
theorem d_L_law_1373 : decode b_L_law 1373 = .ok (.aload_n 0, 1) := by decide +kernel
theorem d_L_law_1374 : decode b_L_law 1374 = .ok (.iload 4, 2) := by decide +kernel
theorem d_L_law_1376 : decode b_L_law 1376 = .ok (.iconst 2, 1) := by decide +kernel
theorem d_L_law_1377 : decode b_L_law 1377 = .ok (.iadd, 1) := by decide +kernel
theorem d_L_law_1378 : decode b_L_law 1378 = .ok (.iaload, 1) := by decide +kernel
theorem d_L_law_1379 : decode b_L_law 1379 = .ok (.aload_n 0, 1) := by decide +kernel
theorem d_L_law_1380 : decode b_L_law 1380 = .ok (.iload 4, 2) := by decide +kernel
theorem d_L_law_1382 : decode b_L_law 1382 = .ok (.iconst 3, 1) := by decide +kernel
theorem d_L_law_1383 : decode b_L_law 1383 = .ok (.iadd, 1) := by decide +kernel
theorem d_L_law_1384 : decode b_L_law 1384 = .ok (.iaload, 1) := by decide +kernel
theorem d_L_law_1385 : decode b_L_law 1385 = .ok (.invokevirtual 146, 3) := by decide +kernel
theorem d_L_law_1388 : decode b_L_law 1388 = .ok (.if_icmp .eq 67, 3) := by decide +kernel
theorem d_L_law_1391 : decode b_L_law 1391 = .ok (.iconst 0, 1) := by decide +kernel
theorem d_L_law_1392 : decode b_L_law 1392 = .ok (.ireturn, 1) := by decide +kernel
theorem d_L_law_1393 : decode b_L_law 1393 = .ok (.aload_n 1, 1) := by decide +kernel
theorem d_L_law_1394 : decode b_L_law 1394 = .ok (.aload_n 0, 1) := by decide +kernel
theorem d_L_law_1395 : decode b_L_law 1395 = .ok (.iload 4, 2) := by decide +kernel
theorem d_L_law_1397 : decode b_L_law 1397 = .ok (.iconst 1, 1) := by decide +kernel
theorem d_L_law_1398 : decode b_L_law 1398 = .ok (.iadd, 1) := by decide +kernel
theorem d_L_law_1399 : decode b_L_law 1399 = .ok (.iaload, 1) := by decide +kernel
theorem d_L_law_1400 : decode b_L_law 1400 = .ok (.aload_n 0, 1) := by decide +kernel
theorem d_L_law_1401 : decode b_L_law 1401 = .ok (.iload 4, 2) := by decide +kernel
theorem d_L_law_1403 : decode b_L_law 1403 = .ok (.iconst 2, 1) := by decide +kernel
theorem d_L_law_1404 : decode b_L_law 1404 = .ok (.iadd, 1) := by decide +kernel
theorem d_L_law_1405 : decode b_L_law 1405 = .ok (.iaload, 1) := by decide +kernel
theorem d_L_law_1406 : decode b_L_law 1406 = .ok (.invokevirtual 147, 3) := by decide +kernel
theorem d_L_law_1409 : decode b_L_law 1409 = .ok (.aload_n 2, 1) := by decide +kernel
theorem d_L_law_1410 : decode b_L_law 1410 = .ok (.aload_n 0, 1) := by decide +kernel
theorem d_L_law_1411 : decode b_L_law 1411 = .ok (.iload 4, 2) := by decide +kernel
theorem d_L_law_1413 : decode b_L_law 1413 = .ok (.iconst 1, 1) := by decide +kernel
theorem d_L_law_1414 : decode b_L_law 1414 = .ok (.iadd, 1) := by decide +kernel
theorem d_L_law_1415 : decode b_L_law 1415 = .ok (.iaload, 1) := by decide +kernel
theorem d_L_law_1416 : decode b_L_law 1416 = .ok (.aload_n 0, 1) := by decide +kernel
theorem d_L_law_1417 : decode b_L_law 1417 = .ok (.iload 4, 2) := by decide +kernel
theorem d_L_law_1419 : decode b_L_law 1419 = .ok (.iconst 2, 1) := by decide +kernel
theorem d_L_law_1420 : decode b_L_law 1420 = .ok (.iadd, 1) := by decide +kernel
theorem d_L_law_1421 : decode b_L_law 1421 = .ok (.iaload, 1) := by decide +kernel
theorem d_L_law_1422 : decode b_L_law 1422 = .ok (.invokevirtual 150, 3) := by decide +kernel
theorem d_L_law_1425 : decode b_L_law 1425 = .ok (.if_icmp .eq 30, 3) := by decide +kernel
theorem d_L_law_1428 : decode b_L_law 1428 = .ok (.iconst 0, 1) := by decide +kernel
theorem d_L_law_1429 : decode b_L_law 1429 = .ok (.ireturn, 1) := by decide +kernel
theorem d_L_law_1430 : decode b_L_law 1430 = .ok (.aload_n 1, 1) := by decide +kernel
theorem d_L_law_1431 : decode b_L_law 1431 = .ok (.aload_n 0, 1) := by decide +kernel
theorem d_L_law_1432 : decode b_L_law 1432 = .ok (.iload 4, 2) := by decide +kernel
theorem d_L_law_1434 : decode b_L_law 1434 = .ok (.iconst 1, 1) := by decide +kernel
theorem d_L_law_1435 : decode b_L_law 1435 = .ok (.iadd, 1) := by decide +kernel
theorem d_L_law_1436 : decode b_L_law 1436 = .ok (.iaload, 1) := by decide +kernel
theorem d_L_law_1437 : decode b_L_law 1437 = .ok (.invokevirtual 151, 3) := by decide +kernel
theorem d_L_law_1440 : decode b_L_law 1440 = .ok (.aload_n 2, 1) := by decide +kernel
theorem d_L_law_1441 : decode b_L_law 1441 = .ok (.aload_n 0, 1) := by decide +kernel
theorem d_L_law_1442 : decode b_L_law 1442 = .ok (.iload 4, 2) := by decide +kernel
theorem d_L_law_1444 : decode b_L_law 1444 = .ok (.iconst 1, 1) := by decide +kernel
theorem d_L_law_1445 : decode b_L_law 1445 = .ok (.iadd, 1) := by decide +kernel
theorem d_L_law_1446 : decode b_L_law 1446 = .ok (.iaload, 1) := by decide +kernel
theorem d_L_law_1447 : decode b_L_law 1447 = .ok (.invokevirtual 154, 3) := by decide +kernel
theorem d_L_law_1450 : decode b_L_law 1450 = .ok (.if_icmp .eq 5, 3) := by decide +kernel
theorem d_L_law_1453 : decode b_L_law 1453 = .ok (.iconst 0, 1) := by decide +kernel
theorem d_L_law_1454 : decode b_L_law 1454 = .ok (.ireturn, 1) := by decide +kernel
theorem d_L_law_1455 : decode b_L_law 1455 = .ok (.iinc 4 7, 3) := by decide +kernel
theorem d_L_law_1458 : decode b_L_law 1458 = .ok (.goto (-1435), 3) := by decide +kernel
theorem d_L_law_1461 : decode b_L_law 1461 = .ok (.iconst 1, 1) := by decide +kernel
theorem d_L_law_1462 : decode b_L_law 1462 = .ok (.ireturn, 1) := by decide +kernel
