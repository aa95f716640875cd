theorem cd_168 : mmCd 168 = mc_168 := rfl
theorem sg_168_0 : mmDr mc_168 0 = (.aload_n 0, [], 0) :: (.iconst 0, [], 0) :: (.putfield 139, [11, 2, 0, 1205], 0) :: (.iload_n 1, [], 0) :: (.ifCond .lt 11, [9], 0) :: (.iload_n 1, [], 0) :: (.aload_n 0, [], 0) :: (.getfield 142, [11, 1, 0, 1204], 0) :: (.if_icmp .le 6, [11], 0) :: mmCut mc_168 9 := rfl
theorem sg_168_9 : mmDr mc_168 9 = (.bipush (-2), [], 0) :: (.ireturn, [0], 0) :: mmCut mc_168 11 := rfl
theorem sg_168_11 : mmDr mc_168 11 = (.aload_n 0, [], 0) :: (.iload_n 1, [], 0) :: (.putfield 151, [11, 6, 0, 1209], 0) :: (.aload_n 0, [], 0) :: (.iconst 0, [], 0) :: (.putfield 142, [11, 1, 0, 1204], 0) :: (.aload_n 0, [], 0) :: (.iconst 0, [], 0) :: (.putfield 145, [11, 4, 0, 1207], 0) :: (.aload_n 0, [], 0) :: (.iconst (-1), [], 0) :: (.putfield 16, [11, 5, 0, 1208], 0) :: (.aload_n 0, [], 0) :: (.iconst 0, [], 0) :: (.putfield 154, [11, 7, 0, 1210], 0) :: (.aload_n 0, [], 0) :: (.invokevirtual 133, [0, 156, 1, 0, 0, 1192, 11], 0) :: (.aload_n 0, [], 0) :: (.invokevirtual 190, [0, 150, 1, 0, 0, 1483, 11], 0) :: (.iconst 0, [], 0) :: (.istore_n 2, [], 0) :: mmCut mc_168 32 := rfl
theorem sg_168_32 : mmDr mc_168 32 = (.aload_n 0, [], 0) :: (.getfield 157, [11, 8, 0, 1211], 0) :: (.ifCond .eq 18, [42], 0) :: (.aload_n 0, [], 0) :: (.invokevirtual 324, [0, 167, 1, 0, 0, 1507, 11], 0) :: (.ifCond .ne 5, [40], 0) :: (.iconst (-1), [], 0) :: (.ireturn, [0], 0) :: mmCut mc_168 40 := rfl
theorem sg_168_40 : mmDr mc_168 40 = (.iinc 2 1, [], 0) :: (.goto (-19), [32], 0) :: mmCut mc_168 42 := rfl
theorem sg_168_42 : mmDr mc_168 42 = (.aload_n 0, [], 0) :: (.invokevirtual 136, [0, 158, 1, 0, 0, 1196, 11], 0) :: (.iload_n 2, [], 0) :: (.ireturn, [0], 0) :: mmCut mc_168 46 := rfl
theorem cd_169 : mmCd 169 = mc_169 := rfl
theorem sg_169_0 : mmDr mc_169 0 = (.aload_n 0, [], 0) :: (.iconst 0, [], 0) :: (.putfield 139, [11, 2, 0, 1205], 0) :: (.iload_n 1, [], 0) :: (.ifCond .ne 10, [8], 0) :: (.aload_n 0, [], 0) :: (.getfield 145, [11, 4, 0, 1207], 0) :: (.goto 16, [15], 0) :: mmCut mc_169 8 := rfl
theorem sg_169_8 : mmDr mc_169 8 = (.iload_n 1, [], 0) :: (.iconst 1, [], 0) :: (.if_icmp .ne 10, [14], 0) :: (.aload_n 0, [], 0) :: (.getfield 16, [11, 5, 0, 1208], 0) :: (.goto 4, [15], 0) :: mmCut mc_169 14 := rfl
theorem sg_169_14 : mmDr mc_169 14 = (.iconst (-1), [], 0) :: mmCut mc_169 15 := rfl
theorem sg_169_15 : mmDr mc_169 15 = (.ireturn, [0], 0) :: mmCut mc_169 16 := rfl
theorem cd_170 : mmCd 170 = mc_170 := rfl
theorem sg_170_0 : mmDr mc_170 0 = (.aload_n 0, [], 0) :: (.iconst 0, [], 0) :: (.putfield 139, [11, 2, 0, 1205], 0) :: (.aload_n 0, [], 0) :: (.getfield 20, [11, 35, 3, 1238], 0) :: (.iconst 0, [], 0) :: (.aload_n 0, [], 0) :: (.getfield 249, [11, 14, 0, 1217], 0) :: (.iload_n 1, [], 0) :: (.invokestatic 295, [1, 159, 4, 0, 0, 1530], 0) :: (.ireturn, [0], 0) :: mmCut mc_170 11 := rfl
theorem cd_171 : mmCd 171 = mc_171 := rfl
theorem sg_171_0 : mmDr mc_171 0 = (.aload_n 0, [], 0) :: (.iload_n 1, [], 0) :: (.putfield 139, [11, 2, 0, 1205], 0) :: (.iconst 0, [], 0) :: (.ireturn, [0], 0) :: mmCut mc_171 5 := rfl
theorem cd_172 : mmCd 172 = mc_172 := rfl
theorem sg_172_0 : mmDr mc_172 0 = (.aload_n 0, [], 0) :: (.iconst 0, [], 0) :: (.putfield 139, [11, 2, 0, 1205], 0) :: (.iload_n 1, [], 0) :: (.ifCond .lt 11, [9], 0) :: (.iload_n 1, [], 0) :: (.aload_n 0, [], 0) :: (.getfield 249, [11, 14, 0, 1217], 0) :: (.if_icmp .lt 9, [13], 0) :: mmCut mc_172 9 := rfl
theorem sg_172_9 : mmDr mc_172 9 = (.aload_n 0, [], 0) :: (.iconst 1, [], 0) :: (.invokevirtual 327, [0, 171, 2, 0, 0, 1612, 11], 0) :: (.ireturn, [0], 0) :: mmCut mc_172 13 := rfl
theorem sg_172_13 : mmDr mc_172 13 = (.iload_n 2, [], 0) :: (.tableswitch 65 0 2 #[28, 43, 50], [38, 15, 24, 29], 0) :: mmCut mc_172 15 := rfl
theorem sg_172_15 : mmDr mc_172 15 = (.aload_n 0, [], 0) :: (.getfield 23, [11, 36, 3, 1239], 0) :: (.iload_n 1, [], 0) :: (.baload, [], 0) :: (.ifCond .eq 7, [22], 0) :: (.iconst 1, [], 0) :: (.goto 4, [23], 0) :: mmCut mc_172 22 := rfl
theorem sg_172_22 : mmDr mc_172 22 = (.iconst 0, [], 0) :: mmCut mc_172 23 := rfl
theorem sg_172_23 : mmDr mc_172 23 = (.ireturn, [0], 0) :: mmCut mc_172 24 := rfl
theorem sg_172_24 : mmDr mc_172 24 = (.aload_n 0, [], 0) :: (.getfield 30, [11, 38, 3, 1241], 0) :: (.iload_n 1, [], 0) :: (.iaload, [], 0) :: (.ireturn, [0], 0) :: mmCut mc_172 29 := rfl
theorem sg_172_29 : mmDr mc_172 29 = (.aload_n 0, [], 0) :: (.getfield 27, [11, 37, 3, 1240], 0) :: (.iload_n 1, [], 0) :: (.baload, [], 0) :: (.ifCond .eq 7, [36], 0) :: (.iconst 1, [], 0) :: (.goto 4, [37], 0) :: mmCut mc_172 36 := rfl
theorem sg_172_36 : mmDr mc_172 36 = (.iconst 0, [], 0) :: mmCut mc_172 37 := rfl
theorem sg_172_37 : mmDr mc_172 37 = (.ireturn, [0], 0) :: mmCut mc_172 38 := rfl
theorem sg_172_38 : mmDr mc_172 38 = (.aload_n 0, [], 0) :: (.iconst 2, [], 0) :: (.invokevirtual 327, [0, 171, 2, 0, 0, 1612, 11], 0) :: (.ireturn, [0], 0) :: mmCut mc_172 42 := rfl
theorem cd_173 : mmCd 173 = mc_173 := rfl
theorem sg_173_0 : mmDr mc_173 0 = (.iload_n 0, [], 0) :: (.bipush 13, [], 0) :: (.if_icmp .lt 8, [5], 0) :: (.bipush 6, [], 0) :: (.goto 50, [31], 0) :: mmCut mc_173 5 := rfl
theorem sg_173_5 : mmDr mc_173 5 = (.iload_n 0, [], 0) :: (.bipush 11, [], 0) :: (.if_icmp .lt 7, [10], 0) :: (.iconst 5, [], 0) :: (.goto 40, [31], 0) :: mmCut mc_173 10 := rfl
theorem sg_173_10 : mmDr mc_173 10 = (.iload_n 0, [], 0) :: (.iconst 5, [], 0) :: (.if_icmp .lt 7, [15], 0) :: (.iconst 4, [], 0) :: (.goto 31, [31], 0) :: mmCut mc_173 15 := rfl
theorem sg_173_15 : mmDr mc_173 15 = (.iload_n 0, [], 0) :: (.iconst 2, [], 0) :: (.if_icmp .ne 7, [20], 0) :: (.iconst 3, [], 0) :: (.goto 22, [31], 0) :: mmCut mc_173 20 := rfl
theorem sg_173_20 : mmDr mc_173 20 = (.iload_n 0, [], 0) :: (.iconst 3, [], 0) :: (.if_icmp .ne 7, [25], 0) :: (.iconst 2, [], 0) :: (.goto 13, [31], 0) :: mmCut mc_173 25 := rfl
theorem sg_173_25 : mmDr mc_173 25 = (.iload_n 0, [], 0) :: (.iconst 4, [], 0) :: (.if_icmp .ne 7, [30], 0) :: (.iconst 1, [], 0) :: (.goto 4, [31], 0) :: mmCut mc_173 30 := rfl
theorem sg_173_30 : mmDr mc_173 30 = (.iconst 0, [], 0) :: mmCut mc_173 31 := rfl
theorem sg_173_31 : mmDr mc_173 31 = (.ireturn, [0], 0) :: mmCut mc_173 32 := rfl
theorem cd_174 : mmCd 174 = mc_174 := rfl
theorem sg_174_0 : mmDr mc_174 0 = (.aload_n 0, [], 0) :: (.getfield 48, [11, 44, 3, 1247], 0) :: (.bipush 64, [], 0) :: (.aload_n 0, [], 0) :: (.getfield 212, [11, 26, 0, 1229], 0) :: (.iadd, [], 0) :: (.iload_n 1, [], 0) :: (.iastore, [], 0) :: (.aload_n 0, [], 0) :: (.getfield 51, [11, 45, 3, 1248], 0) :: (.bipush 64, [], 0) :: (.aload_n 0, [], 0) :: (.getfield 212, [11, 26, 0, 1229], 0) :: (.iadd, [], 0) :: (.iload_n 2, [], 0) :: (.iastore, [], 0) :: (.aload_n 0, [], 0) :: (.getfield 54, [11, 46, 3, 1249], 0) :: (.bipush 64, [], 0) :: (.aload_n 0, [], 0) :: (.getfield 212, [11, 26, 0, 1229], 0) :: (.iadd, [], 0) :: (.iload_n 3, [], 0) :: (.iastore, [], 0) :: (.aload_n 0, [], 0) :: (.getfield 60, [11, 49, 3, 1252], 0) :: (.aload_n 0, [], 0) :: (.getfield 331, [11, 51, 0, 1254], 0) :: (.aload_n 0, [], 0) :: (.getfield 212, [11, 26, 0, 1229], 0) :: (.iastore, [], 0) :: (.aload_n 0, [], 0) :: (.dup, [], 0) :: (.getfield 331, [11, 51, 0, 1254], 0) :: (.iconst 1, [], 0) :: (.iadd, [], 0) :: (.putfield 331, [11, 51, 0, 1254], 0) :: (.aload_n 0, [], 0) :: (.dup, [], 0) :: (.getfield 212, [11, 26, 0, 1229], 0) :: (.iconst 1, [], 0) :: (.iadd, [], 0) :: (.putfield 212, [11, 26, 0, 1229], 0) :: (.return_, [], 0) :: mmCut mc_174 44 := rfl
theorem cd_175 : mmCd 175 = mc_175 := rfl
theorem sg_175_0 : mmDr mc_175 0 = (.aload_n 0, [], 0) :: (.dup, [], 0) :: (.getfield 331, [11, 51, 0, 1254], 0) :: (.iconst 1, [], 0) :: (.isub, [], 0) :: (.putfield 331, [11, 51, 0, 1254], 0) :: (.aload_n 0, [], 0) :: (.getfield 60, [11, 49, 3, 1252], 0) :: (.aload_n 0, [], 0) :: (.getfield 331, [11, 51, 0, 1254], 0) :: (.iaload, [], 0) :: (.ireturn, [0], 0) :: mmCut mc_175 12 := rfl
theorem cd_176 : mmCd 176 = mc_176 := rfl
theorem sg_176_0 : mmDr mc_176 0 = (.aload_n 0, [], 0) :: (.getfield 334, [11, 50, 0, 1253], 0) :: (.ifCond .le 72, [42], 0) :: (.aload_n 0, [], 0) :: (.getfield 57, [11, 48, 3, 1251], 0) :: (.aload_n 0, [], 0) :: (.getfield 334, [11, 50, 0, 1253], 0) :: (.iconst 1, [], 0) :: (.isub, [], 0) :: (.iaload, [], 0) :: (.invokestatic 337, [1, 173, 1, 0, 0, 1589], 0) :: (.iload_n 1, [], 0) :: (.if_icmp .lt 54, [42], 0) :: (.aload_n 0, [], 0) :: (.dup, [], 0) :: (.getfield 334, [11, 50, 0, 1253], 0) :: (.iconst 1, [], 0) :: (.isub, [], 0) :: (.putfield 334, [11, 50, 0, 1253], 0) :: (.aload_n 0, [], 0) :: (.getfield 57, [11, 48, 3, 1251], 0) :: (.aload_n 0, [], 0) :: (.getfield 334, [11, 50, 0, 1253], 0) :: (.iaload, [], 0) :: (.istore_n 2, [], 0) :: (.iload_n 2, [], 0) :: (.iconst 2, [], 0) :: (.if_icmp .ne 7, [30], 0) :: (.iconst (-1), [], 0) :: (.goto 7, [32], 0) :: mmCut mc_176 30 := rfl
theorem sg_176_30 : mmDr mc_176 30 = (.aload_n 0, [], 0) :: (.invokevirtual 340, [0, 175, 1, 0, 0, 1592, 11], 0) :: mmCut mc_176 32 := rfl
theorem sg_176_32 : mmDr mc_176 32 = (.istore_n 3, [], 0) :: (.aload_n 0, [], 0) :: (.invokevirtual 340, [0, 175, 1, 0, 0, 1592, 11], 0) :: (.istore 4, [], 0) :: (.aload_n 0, [], 0) :: (.iload_n 2, [], 0) :: (.iload 4, [], 0) :: (.iload_n 3, [], 0) :: (.invokevirtual 344, [0, 174, 4, 0, 0, 1577, 11], 0) :: (.goto (-73), [0], 0) :: mmCut mc_176 42 := rfl
theorem sg_176_42 : mmDr mc_176 42 = (.return_, [], 0) :: mmCut mc_176 43 := rfl
theorem cd_177 : mmCd 177 = mc_177 := rfl
theorem sg_177_0 : mmDr mc_177 0 = (.aload_n 0, [], 0) :: (.getfield 215, [11, 53, 0, 1256], 0) :: (.bipush 64, [], 0) :: (.if_icmp .ne 9, [8], 0) :: (.aload_n 0, [], 0) :: (.iconst 2, [], 0) :: (.invokevirtual 180, [0, 146, 2, 0, 0, 1511, 11], 0) :: (.ireturn, [1], 0) :: mmCut mc_177 8 := rfl
theorem sg_177_8 : mmDr mc_177 8 = (.aload_n 0, [], 0) :: (.dup, [], 0) :: (.getfield 215, [11, 53, 0, 1256], 0) :: (.iconst 1, [], 0) :: (.iadd, [], 0) :: (.putfield 215, [11, 53, 0, 1256], 0) :: (.iconst 1, [], 0) :: (.ireturn, [1], 0) :: mmCut mc_177 16 := rfl
theorem cd_178 : mmCd 178 = mc_178 := rfl
theorem sg_178_0 : mmDr mc_178 0 = (.aload_n 0, [], 0) :: (.getfield 57, [11, 48, 3, 1251], 0) :: (.aload_n 0, [], 0) :: (.getfield 334, [11, 50, 0, 1253], 0) :: (.iload_n 1, [], 0) :: (.iastore, [], 0) :: (.aload_n 0, [], 0) :: (.dup, [], 0) :: (.getfield 334, [11, 50, 0, 1253], 0) :: (.iconst 1, [], 0) :: (.iadd, [], 0) :: (.putfield 334, [11, 50, 0, 1253], 0) :: (.return_, [], 0) :: mmCut mc_178 13 := rfl
theorem cd_179 : mmCd 179 = mc_179 := rfl
theorem sg_179_0 : mmDr mc_179 0 = (.aload_n 0, [], 0) :: (.getfield 157, [11, 8, 0, 1211], 0) :: (.iconst 1, [], 0) :: (.if_icmp .eq 5, [6], 0) :: (.iconst (-1), [], 0) :: (.ireturn, [0], 0) :: mmCut mc_179 6 := rfl
theorem sg_179_6 : mmDr mc_179 6 = (.aload_n 0, [], 0) :: (.getfield 168, [11, 9, 0, 1212], 0) :: (.tableswitch 104 1 18 #[92, 104, 104, 104, 104, 104, 104, 104, 101, 104, 104, 104, 86, 88, 90, 94, 96, 98], [25, 15, 25, 25, 25, 25, 25, 25, 25, 23, 25, 25, 25, 9, 11, 13, 17, 19, 21], 0) :: mmCut mc_179 9 := rfl
theorem sg_179_9 : mmDr mc_179 9 = (.iconst 0, [], 0) :: (.ireturn, [0], 0) :: mmCut mc_179 11 := rfl
theorem sg_179_11 : mmDr mc_179 11 = (.iconst 1, [], 0) :: (.ireturn, [0], 0) :: mmCut mc_179 13 := rfl
theorem sg_179_13 : mmDr mc_179 13 = (.iconst 2, [], 0) :: (.ireturn, [0], 0) :: mmCut mc_179 15 := rfl
theorem sg_179_15 : mmDr mc_179 15 = (.iconst 3, [], 0) :: (.ireturn, [0], 0) :: mmCut mc_179 17 := rfl
theorem sg_179_17 : mmDr mc_179 17 = (.iconst 4, [], 0) :: (.ireturn, [0], 0) :: mmCut mc_179 19 := rfl
theorem sg_179_19 : mmDr mc_179 19 = (.iconst 5, [], 0) :: (.ireturn, [0], 0) :: mmCut mc_179 21 := rfl
theorem sg_179_21 : mmDr mc_179 21 = (.bipush 6, [], 0) :: (.ireturn, [0], 0) :: mmCut mc_179 23 := rfl
theorem sg_179_23 : mmDr mc_179 23 = (.bipush 7, [], 0) :: (.ireturn, [0], 0) :: mmCut mc_179 25 := rfl
theorem sg_179_25 : mmDr mc_179 25 = (.iconst (-1), [], 0) :: (.ireturn, [0], 0) :: mmCut mc_179 27 := rfl
theorem cd_180 : mmCd 180 = mc_180 := rfl
theorem sg_180_0 : mmDr mc_180 0 = (.aload_n 0, [], 0) :: (.bipush 40, [], 0) :: (.invokevirtual 193, [0, 154, 2, 0, 0, 1545, 11], 0) :: (.ifCond .eq 44, [28], 0) :: (.aload_n 0, [], 0) :: (.getfield 348, [11, 52, 0, 1255], 0) :: (.bipush 8, [], 0) :: (.if_icmp .ne 9, [12], 0) :: (.aload_n 0, [], 0) :: (.iconst 2, [], 0) :: (.invokevirtual 180, [0, 146, 2, 0, 0, 1511, 11], 0) :: (.ireturn, [1], 0) :: mmCut mc_180 12 := rfl
theorem sg_180_12 : mmDr mc_180 12 = (.aload_n 0, [], 0) :: (.dup, [], 0) :: (.getfield 348, [11, 52, 0, 1255], 0) :: (.iconst 1, [], 0) :: (.iadd, [], 0) :: (.putfield 348, [11, 52, 0, 1255], 0) :: (.aload_n 0, [], 0) :: (.iconst 0, [], 0) :: (.invokevirtual 351, [0, 178, 2, 0, 0, 1565, 11], 0) :: (.aload_n 0, [], 0) :: (.iconst 1, [], 0) :: (.putfield 355, [11, 55, 1, 1258], 0) :: (.aload_n 0, [], 0) :: (.invokevirtual 190, [0, 150, 1, 0, 0, 1483, 11], 0) :: (.iconst 1, [], 0) :: (.ireturn, [1], 0) :: mmCut mc_180 28 := rfl
theorem sg_180_28 : mmDr mc_180 28 = (.aload_n 0, [], 0) :: (.bipush 12, [], 0) :: (.invokevirtual 299, [0, 153, 2, 0, 0, 1533, 11], 0) :: (.ifCond .eq 30, [47], 0) :: (.aload_n 0, [], 0) :: (.getfield 355, [11, 55, 1, 1258], 0) :: (.ifCond .eq 23, [47], 0) :: (.aload_n 0, [], 0) :: (.invokevirtual 358, [0, 177, 1, 0, 0, 1569, 11], 0) :: (.ifCond .ne 5, [40], 0) :: (.iconst 0, [], 0) :: (.ireturn, [1], 0) :: mmCut mc_180 40 := rfl
theorem sg_180_40 : mmDr mc_180 40 = (.aload_n 0, [], 0) :: (.iconst 2, [], 0) :: (.invokevirtual 351, [0, 178, 2, 0, 0, 1565, 11], 0) :: (.aload_n 0, [], 0) :: (.invokevirtual 190, [0, 150, 1, 0, 0, 1483, 11], 0) :: (.iconst 1, [], 0) :: (.ireturn, [1], 0) :: mmCut mc_180 47 := rfl
theorem sg_180_47 : mmDr mc_180 47 = (.aload_n 0, [], 0) :: (.invokevirtual 361, [0, 179, 1, 0, 0, 1573, 11], 0) :: (.istore_n 1, [], 0) :: (.iload_n 1, [], 0) :: (.ifCond .ge 17, [60], 0) :: (.aload_n 0, [], 0) :: (.getfield 157, [11, 8, 0, 1211], 0) :: (.iconst 3, [], 0) :: (.if_icmp .eq 9, [60], 0) :: (.aload_n 0, [], 0) :: (.iconst 1, [], 0) :: (.invokevirtual 180, [0, 146, 2, 0, 0, 1511, 11], 0) :: (.ireturn, [1], 0) :: mmCut mc_180 60 := rfl
set_option maxRecDepth 100000 in
theorem sg_180_60 : mmDr mc_180 60 = (.iload_n 1, [], 0) :: (.ifCond .ge 19, [70], 0) :: (.aload_n 0, [], 0) :: (.getfield 168, [11, 9, 0, 1212], 0) :: (.sipush 9999, [], 0) :: (.if_icmp .le 9, [70], 0) :: (.aload_n 0, [], 0) :: (.iconst 2, [], 0) :: (.invokevirtual 180, [0, 146, 2, 0, 0, 1511, 11], 0) :: (.ireturn, [1], 0) :: mmCut mc_180 70 := rfl
set_option maxRecDepth 100000 in
theorem sg_180_70 : mmDr mc_180 70 = (.aload_n 0, [], 0) :: (.invokevirtual 358, [0, 177, 1, 0, 0, 1569, 11], 0) :: (.ifCond .ne 5, [75], 0) :: (.iconst 0, [], 0) :: (.ireturn, [1], 0) :: mmCut mc_180 75 := rfl
set_option maxRecDepth 100000 in
theorem sg_180_75 : mmDr mc_180 75 = (.aload_n 0, [], 0) :: (.iload_n 1, [], 0) :: (.ifCond .lt 7, [80], 0) :: (.iconst 1, [], 0) :: (.goto 4, [81], 0) :: mmCut mc_180 80 := rfl
set_option maxRecDepth 100000 in
theorem sg_180_80 : mmDr mc_180 80 = (.iconst 0, [], 0) :: mmCut mc_180 81 := rfl
set_option maxRecDepth 100000 in
theorem sg_180_81 : mmDr mc_180 81 = (.iload_n 1, [], 0) :: (.ifCond .lt 7, [85], 0) :: (.iload_n 1, [], 0) :: (.goto 7, [87], 0) :: mmCut mc_180 85 := rfl
set_option maxRecDepth 100000 in
theorem sg_180_85 : mmDr mc_180 85 = (.aload_n 0, [], 0) :: (.getfield 168, [11, 9, 0, 1212], 0) :: mmCut mc_180 87 := rfl
set_option maxRecDepth 100000 in
theorem sg_180_87 : mmDr mc_180 87 = (.iconst 0, [], 0) :: (.invokevirtual 344, [0, 174, 4, 0, 0, 1577, 11], 0) :: (.aload_n 0, [], 0) :: (.iconst 0, [], 0) :: (.putfield 364, [11, 54, 1, 1257], 0) :: (.aload_n 0, [], 0) :: (.invokevirtual 190, [0, 150, 1, 0, 0, 1483, 11], 0) :: (.iconst 1, [], 0) :: (.ireturn, [1], 0) :: mmCut mc_180 96 := rfl
theorem cd_181 : mmCd 181 = mc_181 := rfl
theorem sg_181_0 : mmDr mc_181 0 = (.aload_n 0, [], 0) :: (.bipush 41, [], 0) :: (.invokevirtual 193, [0, 154, 2, 0, 0, 1545, 11], 0) :: (.ifCond .eq 41, [26], 0) :: (.aload_n 0, [], 0) :: (.getfield 348, [11, 52, 0, 1255], 0) :: (.ifCond .le 34, [26], 0) :: (.aload_n 0, [], 0) :: (.iconst 1, [], 0) :: (.invokevirtual 367, [0, 176, 2, 0, 0, 1585, 11], 0) :: (.aload_n 0, [], 0) :: (.dup, [], 0) :: (.getfield 334, [11, 50, 0, 1253], 0) :: (.iconst 1, [], 0) :: (.isub, [], 0) :: (.putfield 334, [11, 50, 0, 1253], 0) :: (.aload_n 0, [], 0) :: (.dup, [], 0) :: (.getfield 348, [11, 52, 0, 1255], 0) :: (.iconst 1, [], 0) :: (.isub, [], 0) :: (.putfield 348, [11, 52, 0, 1255], 0) :: (.aload_n 0, [], 0) :: (.invokevirtual 190, [0, 150, 1, 0, 0, 1483, 11], 0) :: (.iconst 1, [], 0) :: (.ireturn, [1], 0) :: mmCut mc_181 26 := rfl
theorem sg_181_26 : mmDr mc_181 26 = (.aload_n 0, [], 0) :: (.bipush 10, [], 0) :: (.invokevirtual 299, [0, 153, 2, 0, 0, 1533, 11], 0) :: (.ifCond .eq 7, [32], 0) :: (.iconst 3, [], 0) :: (.goto 90, [72], 0) :: mmCut mc_181 32 := rfl
theorem sg_181_32 : mmDr mc_181 32 = (.aload_n 0, [], 0) :: (.bipush 11, [], 0) :: (.invokevirtual 299, [0, 153, 2, 0, 0, 1533, 11], 0) :: (.ifCond .eq 7, [38], 0) :: (.iconst 4, [], 0) :: (.goto 77, [72], 0) :: mmCut mc_181 38 := rfl
theorem sg_181_38 : mmDr mc_181 38 = (.aload_n 0, [], 0) :: (.getfield 157, [11, 8, 0, 1211], 0) :: (.iconst 5, [], 0) :: (.if_icmp .ne 12, [47], 0) :: (.iconst 5, [], 0) :: (.aload_n 0, [], 0) :: (.getfield 168, [11, 9, 0, 1212], 0) :: (.iadd, [], 0) :: (.goto 60, [72], 0) :: mmCut mc_181 47 := rfl
theorem sg_181_47 : mmDr mc_181 47 = (.aload_n 0, [], 0) :: (.bipush 43, [], 0) :: (.invokevirtual 193, [0, 154, 2, 0, 0, 1545, 11], 0) :: (.ifCond .eq 8, [53], 0) :: (.bipush 11, [], 0) :: (.goto 46, [72], 0) :: mmCut mc_181 53 := rfl
theorem sg_181_53 : mmDr mc_181 53 = (.aload_n 0, [], 0) :: (.bipush 45, [], 0) :: (.invokevirtual 193, [0, 154, 2, 0, 0, 1545, 11], 0) :: (.ifCond .eq 8, [59], 0) :: (.bipush 12, [], 0) :: (.goto 32, [72], 0) :: mmCut mc_181 59 := rfl
set_option maxRecDepth 100000 in
theorem sg_181_59 : mmDr mc_181 59 = (.aload_n 0, [], 0) :: (.bipush 42, [], 0) :: (.invokevirtual 193, [0, 154, 2, 0, 0, 1545, 11], 0) :: (.ifCond .eq 8, [65], 0) :: (.bipush 13, [], 0) :: (.goto 18, [72], 0) :: mmCut mc_181 65 := rfl
set_option maxRecDepth 100000 in
theorem sg_181_65 : mmDr mc_181 65 = (.aload_n 0, [], 0) :: (.bipush 47, [], 0) :: (.invokevirtual 193, [0, 154, 2, 0, 0, 1545, 11], 0) :: (.ifCond .eq 8, [71], 0) :: (.bipush 14, [], 0) :: (.goto 4, [72], 0) :: mmCut mc_181 71 := rfl
set_option maxRecDepth 100000 in
theorem sg_181_71 : mmDr mc_181 71 = (.iconst 0, [], 0) :: mmCut mc_181 72 := rfl
set_option maxRecDepth 100000 in
theorem sg_181_72 : mmDr mc_181 72 = (.istore_n 1, [], 0) :: (.iload_n 1, [], 0) :: (.ifCond .ne 9, [79], 0) :: (.aload_n 0, [], 0) :: (.iconst 1, [], 0) :: (.invokevirtual 180, [0, 146, 2, 0, 0, 1511, 11], 0) :: (.ireturn, [1], 0) :: mmCut mc_181 79 := rfl
set_option maxRecDepth 100000 in
theorem sg_181_79 : mmDr mc_181 79 = (.aload_n 0, [], 0) :: (.iload_n 1, [], 0) :: (.invokestatic 337, [1, 173, 1, 0, 0, 1589], 0) :: (.iconst 4, [], 0) :: (.if_icmp .ne 7, [86], 0) :: (.iconst 5, [], 0) :: (.goto 7, [88], 0) :: mmCut mc_181 86 := rfl
set_option maxRecDepth 100000 in
theorem sg_181_86 : mmDr mc_181 86 = (.iload_n 1, [], 0) :: (.invokestatic 337, [1, 173, 1, 0, 0, 1589], 0) :: mmCut mc_181 88 := rfl
set_option maxRecDepth 100000 in
theorem sg_181_88 : mmDr mc_181 88 = (.invokevirtual 367, [0, 176, 2, 0, 0, 1585, 11], 0) :: (.iload_n 1, [], 0) :: (.invokestatic 337, [1, 173, 1, 0, 0, 1589], 0) :: (.iconst 4, [], 0) :: (.if_icmp .ne 34, [110], 0) :: (.aload_n 0, [], 0) :: (.getfield 334, [11, 50, 0, 1253], 0) :: (.ifCond .le 27, [110], 0) :: (.aload_n 0, [], 0) :: (.getfield 57, [11, 48, 3, 1251], 0) :: (.aload_n 0, [], 0) :: (.getfield 334, [11, 50, 0, 1253], 0) :: (.iconst 1, [], 0) :: (.isub, [], 0) :: (.iaload, [], 0) :: (.invokestatic 337, [1, 173, 1, 0, 0, 1589], 0) :: (.iconst 4, [], 0) :: (.if_icmp .ne 9, [110], 0) :: (.aload_n 0, [], 0) :: (.iconst 1, [], 0) :: (.invokevirtual 180, [0, 146, 2, 0, 0, 1511, 11], 0) :: (.ireturn, [1], 0) :: mmCut mc_181 110 := rfl
set_option maxRecDepth 100000 in
theorem sg_181_110 : mmDr mc_181 110 = (.aload_n 0, [], 0) :: (.invokevirtual 358, [0, 177, 1, 0, 0, 1569, 11], 0) :: (.ifCond .ne 5, [115], 0) :: (.iconst 0, [], 0) :: (.ireturn, [1], 0) :: mmCut mc_181 115 := rfl
set_option maxRecDepth 100000 in
theorem sg_181_115 : mmDr mc_181 115 = (.aload_n 0, [], 0) :: (.iload_n 1, [], 0) :: (.invokevirtual 351, [0, 178, 2, 0, 0, 1565, 11], 0) :: (.aload_n 0, [], 0) :: (.iconst 1, [], 0) :: (.putfield 364, [11, 54, 1, 1257], 0) :: (.aload_n 0, [], 0) :: (.iload_n 1, [], 0) :: (.invokestatic 337, [1, 173, 1, 0, 0, 1589], 0) :: (.iconst 3, [], 0) :: (.if_icmp .ge 7, [128], 0) :: (.iconst 1, [], 0) :: (.goto 4, [129], 0) :: mmCut mc_181 128 := rfl
set_option maxRecDepth 100000 in
theorem sg_181_128 : mmDr mc_181 128 = (.iconst 0, [], 0) :: mmCut mc_181 129 := rfl
set_option maxRecDepth 100000 in
theorem sg_181_129 : mmDr mc_181 129 = (.putfield 355, [11, 55, 1, 1258], 0) :: (.aload_n 0, [], 0) :: (.invokevirtual 190, [0, 150, 1, 0, 0, 1483, 11], 0) :: (.iconst 1, [], 0) :: (.ireturn, [1], 0) :: mmCut mc_181 134 := rfl
theorem cd_182 : mmCd 182 = mc_182 := rfl
theorem sg_182_0 : mmDr mc_182 0 = (.aload_n 0, [], 0) :: (.iconst 0, [], 0) :: (.putfield 334, [11, 50, 0, 1253], 0) :: (.aload_n 0, [], 0) :: (.iconst 0, [], 0) :: (.putfield 331, [11, 51, 0, 1254], 0) :: (.aload_n 0, [], 0) :: (.iconst 0, [], 0) :: (.putfield 348, [11, 52, 0, 1255], 0) :: (.aload_n 0, [], 0) :: (.iconst 1, [], 0) :: (.putfield 364, [11, 54, 1, 1257], 0) :: (.aload_n 0, [], 0) :: (.iconst 1, [], 0) :: (.putfield 355, [11, 55, 1, 1258], 0) :: mmCut mc_182 15 := rfl
theorem sg_182_15 : mmDr mc_182 15 = (.aload_n 0, [], 0) :: (.bipush 59, [], 0) :: (.invokevirtual 193, [0, 154, 2, 0, 0, 1545, 11], 0) :: (.ifCond .eq 17, [25], 0) :: (.aload_n 0, [], 0) :: (.getfield 364, [11, 54, 1, 1257], 0) :: (.ifCond .ne 10, [25], 0) :: (.aload_n 0, [], 0) :: (.getfield 348, [11, 52, 0, 1255], 0) :: (.ifCond .le 29, [37], 0) :: mmCut mc_182 25 := rfl
theorem sg_182_25 : mmDr mc_182 25 = (.aload_n 0, [], 0) :: (.getfield 364, [11, 54, 1, 1257], 0) :: (.ifCond .eq 13, [32], 0) :: (.aload_n 0, [], 0) :: (.invokevirtual 370, [0, 180, 1, 0, 0, 1561, 11], 0) :: (.ifCond .eq 13, [35], 0) :: (.goto (-37), [15], 0) :: mmCut mc_182 32 := rfl
theorem sg_182_32 : mmDr mc_182 32 = (.aload_n 0, [], 0) :: (.invokevirtual 373, [0, 181, 1, 0, 0, 1581, 11], 0) :: (.ifCond .ne (-44), [15], 0) :: mmCut mc_182 35 := rfl
theorem sg_182_35 : mmDr mc_182 35 = (.iconst 0, [], 0) :: (.ireturn, [1], 0) :: mmCut mc_182 37 := rfl
theorem sg_182_37 : mmDr mc_182 37 = (.aload_n 0, [], 0) :: (.iconst 1, [], 0) :: (.invokevirtual 367, [0, 176, 2, 0, 0, 1585, 11], 0) :: (.iconst 1, [], 0) :: (.ireturn, [1], 0) :: mmCut mc_182 42 := rfl
theorem cd_183 : mmCd 183 = mc_183 := rfl
theorem sg_183_0 : mmDr mc_183 0 = (.aload_n 0, [], 0) :: (.aload_n 0, [], 0) :: (.getfield 376, [11, 58, 1, 1261], 0) :: (.ifCond .ne 19, [12], 0) :: (.lload_n 1, [], 0) :: (.ldc2_w 379, [1730], 1000000000000) :: (.lcmp, [], 0) :: (.ifCond .gt 11, [12], 0) :: (.lload_n 1, [], 0) :: (.ldc2_w 381, [1731], (-1000000000000)) :: (.lcmp, [], 0) :: (.ifCond .ge 7, [14], 0) :: mmCut mc_183 12 := rfl
theorem sg_183_12 : mmDr mc_183 12 = (.iconst 1, [], 0) :: (.goto 4, [15], 0) :: mmCut mc_183 14 := rfl
theorem sg_183_14 : mmDr mc_183 14 = (.iconst 0, [], 0) :: mmCut mc_183 15 := rfl
theorem sg_183_15 : mmDr mc_183 15 = (.putfield 376, [11, 58, 1, 1261], 0) :: (.aload_n 0, [], 0) :: (.getfield 376, [11, 58, 1, 1261], 0) :: (.ifCond .eq 7, [21], 0) :: (.lconst 0, [], 0) :: (.goto 4, [22], 0) :: mmCut mc_183 21 := rfl
theorem sg_183_21 : mmDr mc_183 21 = (.lload_n 1, [], 0) :: mmCut mc_183 22 := rfl
theorem sg_183_22 : mmDr mc_183 22 = (.lreturn, [], 0) :: mmCut mc_183 23 := rfl
theorem cd_184 : mmCd 184 = mc_184 := rfl
theorem sg_184_0 : mmDr mc_184 0 = (.iload_n 0, [], 0) :: (.tableswitch 95 5 9 #[35, 47, 59, 71, 83], [42, 2, 10, 18, 26, 34], 0) :: mmCut mc_184 2 := rfl
theorem sg_184_2 : mmDr mc_184 2 = (.lload_n 1, [], 0) :: (.lload_n 3, [], 0) :: (.lcmp, [], 0) :: (.ifCond .ge 7, [8], 0) :: (.iconst 1, [], 0) :: (.goto 4, [9], 0) :: mmCut mc_184 8 := rfl
theorem sg_184_8 : mmDr mc_184 8 = (.iconst 0, [], 0) :: mmCut mc_184 9 := rfl
theorem sg_184_9 : mmDr mc_184 9 = (.ireturn, [1], 0) :: mmCut mc_184 10 := rfl
theorem sg_184_10 : mmDr mc_184 10 = (.lload_n 1, [], 0) :: (.lload_n 3, [], 0) :: (.lcmp, [], 0) :: (.ifCond .gt 7, [16], 0) :: (.iconst 1, [], 0) :: (.goto 4, [17], 0) :: mmCut mc_184 16 := rfl
theorem sg_184_16 : mmDr mc_184 16 = (.iconst 0, [], 0) :: mmCut mc_184 17 := rfl
theorem sg_184_17 : mmDr mc_184 17 = (.ireturn, [1], 0) :: mmCut mc_184 18 := rfl
theorem sg_184_18 : mmDr mc_184 18 = (.lload_n 1, [], 0) :: (.lload_n 3, [], 0) :: (.lcmp, [], 0) :: (.ifCond .ne 7, [24], 0) :: (.iconst 1, [], 0) :: (.goto 4, [25], 0) :: mmCut mc_184 24 := rfl
theorem sg_184_24 : mmDr mc_184 24 = (.iconst 0, [], 0) :: mmCut mc_184 25 := rfl
theorem sg_184_25 : mmDr mc_184 25 = (.ireturn, [1], 0) :: mmCut mc_184 26 := rfl
theorem sg_184_26 : mmDr mc_184 26 = (.lload_n 1, [], 0) :: (.lload_n 3, [], 0) :: (.lcmp, [], 0) :: (.ifCond .eq 7, [32], 0) :: (.iconst 1, [], 0) :: (.goto 4, [33], 0) :: mmCut mc_184 32 := rfl
theorem sg_184_32 : mmDr mc_184 32 = (.iconst 0, [], 0) :: mmCut mc_184 33 := rfl
theorem sg_184_33 : mmDr mc_184 33 = (.ireturn, [1], 0) :: mmCut mc_184 34 := rfl
theorem sg_184_34 : mmDr mc_184 34 = (.lload_n 1, [], 0) :: (.lload_n 3, [], 0) :: (.lcmp, [], 0) :: (.ifCond .lt 7, [40], 0) :: (.iconst 1, [], 0) :: (.goto 4, [41], 0) :: mmCut mc_184 40 := rfl
theorem sg_184_40 : mmDr mc_184 40 = (.iconst 0, [], 0) :: mmCut mc_184 41 := rfl
theorem sg_184_41 : mmDr mc_184 41 = (.ireturn, [1], 0) :: mmCut mc_184 42 := rfl
theorem sg_184_42 : mmDr mc_184 42 = (.lload_n 1, [], 0) :: (.lload_n 3, [], 0) :: (.lcmp, [], 0) :: (.ifCond .le 7, [48], 0) :: (.iconst 1, [], 0) :: (.goto 4, [49], 0) :: mmCut mc_184 48 := rfl
theorem sg_184_48 : mmDr mc_184 48 = (.iconst 0, [], 0) :: mmCut mc_184 49 := rfl
theorem sg_184_49 : mmDr mc_184 49 = (.ireturn, [1], 0) :: mmCut mc_184 50 := rfl
theorem cd_185 : mmCd 185 = mc_185 := rfl
theorem sg_185_0 : mmDr mc_185 0 = (.lload_n 1, [], 0) :: (.lconst 0, [], 0) :: (.lcmp, [], 0) :: (.ifCond .eq 45, [30], 0) :: (.lload_n 3, [], 0) :: (.lconst 0, [], 0) :: (.lcmp, [], 0) :: (.ifCond .eq 39, [30], 0) :: (.lload_n 3, [], 0) :: (.lconst 0, [], 0) :: (.lcmp, [], 0) :: (.ifCond .ge 8, [15], 0) :: (.lload_n 3, [], 0) :: (.lneg, [], 0) :: (.goto 4, [16], 0) :: mmCut mc_185 15 := rfl
theorem sg_185_15 : mmDr mc_185 15 = (.lload_n 3, [], 0) :: mmCut mc_185 16 := rfl
theorem sg_185_16 : mmDr mc_185 16 = (.ldc2_w 379, [1730], 1000000000000) :: (.lload_n 1, [], 0) :: (.lconst 0, [], 0) :: (.lcmp, [], 0) :: (.ifCond .ge 8, [24], 0) :: (.lload_n 1, [], 0) :: (.lneg, [], 0) :: (.goto 4, [25], 0) :: mmCut mc_185 24 := rfl
theorem sg_185_24 : mmDr mc_185 24 = (.lload_n 1, [], 0) :: mmCut mc_185 25 := rfl
theorem sg_185_25 : mmDr mc_185 25 = (.ldiv, [], 0) :: (.lcmp, [], 0) :: (.ifCond .le 7, [30], 0) :: (.iconst 1, [], 0) :: (.goto 4, [31], 0) :: mmCut mc_185 30 := rfl
theorem sg_185_30 : mmDr mc_185 30 = (.iconst 0, [], 0) :: mmCut mc_185 31 := rfl
theorem sg_185_31 : mmDr mc_185 31 = (.istore 5, [], 0) :: (.aload_n 0, [], 0) :: (.aload_n 0, [], 0) :: (.getfield 376, [11, 58, 1, 1261], 0) :: (.ifCond .ne 8, [38], 0) :: (.iload 5, [], 0) :: (.ifCond .eq 7, [40], 0) :: mmCut mc_185 38 := rfl
theorem sg_185_38 : mmDr mc_185 38 = (.iconst 1, [], 0) :: (.goto 4, [41], 0) :: mmCut mc_185 40 := rfl
theorem sg_185_40 : mmDr mc_185 40 = (.iconst 0, [], 0) :: mmCut mc_185 41 := rfl
theorem sg_185_41 : mmDr mc_185 41 = (.putfield 376, [11, 58, 1, 1261], 0) :: (.aload_n 0, [], 0) :: (.getfield 376, [11, 58, 1, 1261], 0) :: (.ifCond .eq 7, [47], 0) :: (.lconst 0, [], 0) :: (.goto 6, [50], 0) :: mmCut mc_185 47 := rfl
theorem sg_185_47 : mmDr mc_185 47 = (.lload_n 1, [], 0) :: (.lload_n 3, [], 0) :: (.lmul, [], 0) :: mmCut mc_185 50 := rfl
theorem sg_185_50 : mmDr mc_185 50 = (.lreturn, [], 0) :: mmCut mc_185 51 := rfl
theorem cd_186 : mmCd 186 = mc_186 := rfl
theorem sg_186_0 : mmDr mc_186 0 = (.aload_n 0, [], 0) :: (.getfield 48, [11, 44, 3, 1247], 0) :: (.iload_n 1, [], 0) :: (.iaload, [], 0) :: (.ifCond .ne 11, [11], 0) :: (.aload_n 0, [], 0) :: (.getfield 51, [11, 45, 3, 1248], 0) :: (.iload_n 1, [], 0) :: (.iaload, [], 0) :: (.i2l, [], 0) :: (.lreturn, [], 0) :: mmCut mc_186 11 := rfl
theorem sg_186_11 : mmDr mc_186 11 = (.aload_n 0, [], 0) :: (.getfield 48, [11, 44, 3, 1247], 0) :: (.iload_n 1, [], 0) :: (.iaload, [], 0) :: (.iconst 1, [], 0) :: (.if_icmp .ne 15, [25], 0) :: (.aload_n 0, [], 0) :: (.getfield 63, [11, 56, 3, 1259], 0) :: (.aload_n 0, [], 0) :: (.getfield 51, [11, 45, 3, 1248], 0) :: (.iload_n 1, [], 0) :: (.iaload, [], 0) :: (.laload, [], 0) :: (.lreturn, [], 0) :: mmCut mc_186 25 := rfl
theorem sg_186_25 : mmDr mc_186 25 = (.aload_n 0, [], 0) :: (.getfield 67, [11, 57, 3, 1260], 0) :: (.aload_n 0, [], 0) :: (.getfield 51, [11, 45, 3, 1248], 0) :: (.iload_n 1, [], 0) :: (.iaload, [], 0) :: (.laload, [], 0) :: (.lstore_n 2, [], 0) :: (.aload_n 0, [], 0) :: (.getfield 48, [11, 44, 3, 1247], 0) :: (.iload_n 1, [], 0) :: (.iaload, [], 0) :: (.iconst 2, [], 0) :: (.if_icmp .ne 15, [47], 0) :: (.lload_n 2, [], 0) :: (.lconst 0, [], 0) :: (.lcmp, [], 0) :: (.ifCond .ne 7, [45], 0) :: (.lconst 1, [], 0) :: (.goto 4, [46], 0) :: mmCut mc_186 45 := rfl
theorem sg_186_45 : mmDr mc_186 45 = (.lconst 0, [], 0) :: mmCut mc_186 46 := rfl
theorem sg_186_46 : mmDr mc_186 46 = (.lreturn, [], 0) :: mmCut mc_186 47 := rfl
theorem sg_186_47 : mmDr mc_186 47 = (.aload_n 0, [], 0) :: (.getfield 67, [11, 57, 3, 1260], 0) :: (.aload_n 0, [], 0) :: (.getfield 54, [11, 46, 3, 1249], 0) :: (.iload_n 1, [], 0) :: (.iaload, [], 0) :: (.laload, [], 0) :: (.lstore 4, [], 0) :: (.aload_n 0, [], 0) :: (.getfield 48, [11, 44, 3, 1247], 0) :: (.iload_n 1, [], 0) :: (.iaload, [], 0) :: (.tableswitch 167 3 14 #[64, 83, 167, 167, 167, 167, 167, 167, 102, 111, 120, 128], [122, 60, 72, 122, 122, 122, 122, 122, 122, 84, 90, 96, 101], 0) :: mmCut mc_186 60 := rfl
set_option maxRecDepth 100000 in
theorem sg_186_60 : mmDr mc_186 60 = (.lload_n 2, [], 0) :: (.lconst 0, [], 0) :: (.lcmp, [], 0) :: (.ifCond .eq 14, [70], 0) :: (.lload 4, [], 0) :: (.lconst 0, [], 0) :: (.lcmp, [], 0) :: (.ifCond .eq 7, [70], 0) :: (.lconst 1, [], 0) :: (.goto 4, [71], 0) :: mmCut mc_186 70 := rfl
set_option maxRecDepth 100000 in
theorem sg_186_70 : mmDr mc_186 70 = (.lconst 0, [], 0) :: mmCut mc_186 71 := rfl
set_option maxRecDepth 100000 in
theorem sg_186_71 : mmDr mc_186 71 = (.lreturn, [], 0) :: mmCut mc_186 72 := rfl
set_option maxRecDepth 100000 in
theorem sg_186_72 : mmDr mc_186 72 = (.lload_n 2, [], 0) :: (.lconst 0, [], 0) :: (.lcmp, [], 0) :: (.ifCond .ne 10, [80], 0) :: (.lload 4, [], 0) :: (.lconst 0, [], 0) :: (.lcmp, [], 0) :: (.ifCond .eq 7, [82], 0) :: mmCut mc_186 80 := rfl
set_option maxRecDepth 100000 in
theorem sg_186_80 : mmDr mc_186 80 = (.lconst 1, [], 0) :: (.goto 4, [83], 0) :: mmCut mc_186 82 := rfl
set_option maxRecDepth 100000 in
theorem sg_186_82 : mmDr mc_186 82 = (.lconst 0, [], 0) :: mmCut mc_186 83 := rfl
set_option maxRecDepth 100000 in
theorem sg_186_83 : mmDr mc_186 83 = (.lreturn, [], 0) :: mmCut mc_186 84 := rfl
set_option maxRecDepth 100000 in
theorem sg_186_84 : mmDr mc_186 84 = (.aload_n 0, [], 0) :: (.lload_n 2, [], 0) :: (.lload 4, [], 0) :: (.ladd, [], 0) :: (.invokevirtual 383, [0, 183, 2, 0, 0, 1726, 11], 0) :: (.lreturn, [], 0) :: mmCut mc_186 90 := rfl
set_option maxRecDepth 100000 in
theorem sg_186_90 : mmDr mc_186 90 = (.aload_n 0, [], 0) :: (.lload_n 2, [], 0) :: (.lload 4, [], 0) :: (.lsub, [], 0) :: (.invokevirtual 383, [0, 183, 2, 0, 0, 1726, 11], 0) :: (.lreturn, [], 0) :: mmCut mc_186 96 := rfl
set_option maxRecDepth 100000 in
theorem sg_186_96 : mmDr mc_186 96 = (.aload_n 0, [], 0) :: (.lload_n 2, [], 0) :: (.lload 4, [], 0) :: (.invokevirtual 387, [0, 185, 3, 0, 0, 1732, 11], 0) :: (.lreturn, [], 0) :: mmCut mc_186 101 := rfl
set_option maxRecDepth 100000 in
theorem sg_186_101 : mmDr mc_186 101 = (.aload_n 0, [], 0) :: (.aload_n 0, [], 0) :: (.getfield 376, [11, 58, 1, 1261], 0) :: (.ifCond .ne 10, [109], 0) :: (.lload 4, [], 0) :: (.lconst 0, [], 0) :: (.lcmp, [], 0) :: (.ifCond .ne 7, [111], 0) :: mmCut mc_186 109 := rfl
set_option maxRecDepth 100000 in
theorem sg_186_109 : mmDr mc_186 109 = (.iconst 1, [], 0) :: (.goto 4, [112], 0) :: mmCut mc_186 111 := rfl
set_option maxRecDepth 100000 in
theorem sg_186_111 : mmDr mc_186 111 = (.iconst 0, [], 0) :: mmCut mc_186 112 := rfl
set_option maxRecDepth 100000 in
theorem sg_186_112 : mmDr mc_186 112 = (.putfield 376, [11, 58, 1, 1261], 0) :: (.aload_n 0, [], 0) :: (.getfield 376, [11, 58, 1, 1261], 0) :: (.ifCond .eq 7, [118], 0) :: (.lconst 0, [], 0) :: (.goto 7, [121], 0) :: mmCut mc_186 118 := rfl
set_option maxRecDepth 100000 in
theorem sg_186_118 : mmDr mc_186 118 = (.lload_n 2, [], 0) :: (.lload 4, [], 0) :: (.ldiv, [], 0) :: mmCut mc_186 121 := rfl
set_option maxRecDepth 100000 in
theorem sg_186_121 : mmDr mc_186 121 = (.lreturn, [], 0) :: mmCut mc_186 122 := rfl
set_option maxRecDepth 100000 in
theorem sg_186_122 : mmDr mc_186 122 = (.aload_n 0, [], 0) :: (.getfield 48, [11, 44, 3, 1247], 0) :: (.iload_n 1, [], 0) :: (.iaload, [], 0) :: (.lload_n 2, [], 0) :: (.lload 4, [], 0) :: (.invokestatic 391, [1, 184, 3, 0, 0, 1736], 0) :: (.ifCond .eq 7, [132], 0) :: (.lconst 1, [], 0) :: (.goto 4, [133], 0) :: mmCut mc_186 132 := rfl
set_option maxRecDepth 100000 in
theorem sg_186_132 : mmDr mc_186 132 = (.lconst 0, [], 0) :: mmCut mc_186 133 := rfl
set_option maxRecDepth 100000 in
theorem sg_186_133 : mmDr mc_186 133 = (.lreturn, [], 0) :: mmCut mc_186 134 := rfl
theorem cd_187 : mmCd 187 = mc_187 := rfl
theorem sg_187_0 : mmDr mc_187 0 = (.bipush 25, [], 0) :: (.iload_n 0, [], 0) :: (.imul, [], 0) :: (.ireturn, [0], 0) :: mmCut mc_187 4 := rfl
theorem cd_188 : mmCd 188 = mc_188 := rfl
theorem sg_188_0 : mmDr mc_188 0 = (.iconst 0, [], 0) :: (.istore_n 1, [], 0) :: mmCut mc_188 2 := rfl
theorem sg_188_2 : mmDr mc_188 2 = (.iload_n 1, [], 0) :: (.bipush 25, [], 0) :: (.if_icmp .ge 16, [12], 0) :: (.aload_n 0, [], 0) :: (.getfield 70, [11, 59, 3, 1262], 0) :: (.iload_n 1, [], 0) :: (.iconst (-1), [], 0) :: (.iastore, [], 0) :: (.iinc 1 1, [], 0) :: (.goto (-16), [2], 0) :: mmCut mc_188 12 := rfl
theorem sg_188_12 : mmDr mc_188 12 = (.iconst 0, [], 0) :: (.istore_n 1, [], 0) :: mmCut mc_188 14 := rfl
theorem sg_188_14 : mmDr mc_188 14 = (.iload_n 1, [], 0) :: (.aload_n 0, [], 0) :: (.getfield 252, [11, 15, 0, 1218], 0) :: (.if_icmp .ge 35, [38], 0) :: (.aload_n 0, [], 0) :: (.getfield 70, [11, 59, 3, 1262], 0) :: (.aload_n 0, [], 0) :: (.getfield 45, [11, 43, 3, 1246], 0) :: (.iload_n 1, [], 0) :: (.iaload, [], 0) :: (.aload_n 0, [], 0) :: (.getfield 39, [11, 41, 3, 1244], 0) :: (.iload_n 1, [], 0) :: (.iaload, [], 0) :: (.iconst 4, [], 0) :: (.aload_n 0, [], 0) :: (.getfield 42, [11, 42, 3, 1245], 0) :: (.iload_n 1, [], 0) :: (.iaload, [], 0) :: (.imul, [], 0) :: (.iadd, [], 0) :: (.iastore, [], 0) :: (.iinc 1 1, [], 0) :: (.goto (-37), [14], 0) :: mmCut mc_188 38 := rfl
theorem sg_188_38 : mmDr mc_188 38 = (.return_, [], 0) :: mmCut mc_188 39 := rfl
theorem cd_189 : mmCd 189 = mc_189 := rfl
theorem sg_189_0 : mmDr mc_189 0 = (.aload_n 0, [], 0) :: (.getfield 243, [11, 12, 0, 1215], 0) :: (.aload_n 0, [], 0) :: (.getfield 246, [11, 13, 0, 1216], 0) :: (.imul, [], 0) :: (.ireturn, [0], 0) :: mmCut mc_189 6 := rfl
theorem cd_190 : mmCd 190 = mc_190 := rfl
theorem sg_190_0 : mmDr mc_190 0 = (.aload_n 0, [], 0) :: (.getfield 70, [11, 59, 3, 1262], 0) :: (.iload_n 1, [], 0) :: (.invokestatic 395, [1, 187, 1, 0, 0, 1691], 0) :: (.iload_n 2, [], 0) :: (.iadd, [], 0) :: (.iaload, [], 0) :: (.ifCond .lt 24, [21], 0) :: (.aload_n 0, [], 0) :: (.getfield 70, [11, 59, 3, 1262], 0) :: (.iload_n 1, [], 0) :: (.invokestatic 395, [1, 187, 1, 0, 0, 1691], 0) :: (.iload_n 2, [], 0) :: (.iadd, [], 0) :: (.iaload, [], 0) :: (.iconst 4, [], 0) :: (.idiv, [], 0) :: (.iload_n 3, [], 0) :: (.if_icmp .ne 7, [21], 0) :: (.iconst 1, [], 0) :: (.goto 4, [22], 0) :: mmCut mc_190 21 := rfl
theorem sg_190_21 : mmDr mc_190 21 = (.iconst 0, [], 0) :: mmCut mc_190 22 := rfl
theorem sg_190_22 : mmDr mc_190 22 = (.ireturn, [1], 0) :: mmCut mc_190 23 := rfl
theorem cd_191 : mmCd 191 = mc_191 := rfl
theorem sg_191_0 : mmDr mc_191 0 = (.iconst 0, [], 0) :: (.istore_n 3, [], 0) :: (.iconst 0, [], 0) :: (.istore 4, [], 0) :: mmCut mc_191 4 := rfl
theorem sg_191_4 : mmDr mc_191 4 = (.iload 4, [], 0) :: (.aload_n 0, [], 0) :: (.invokevirtual 398, [0, 189, 1, 0, 0, 1683, 11], 0) :: (.if_icmp .ge 28, [22], 0) :: (.iload_n 3, [], 0) :: (.aload_n 0, [], 0) :: (.iload_n 1, [], 0) :: (.iload 4, [], 0) :: (.iload_n 2, [], 0) :: (.invokevirtual 401, [0, 190, 4, 0, 0, 1687, 11], 0) :: (.ifCond .eq 7, [17], 0) :: (.iconst 1, [], 0) :: (.goto 4, [18], 0) :: mmCut mc_191 17 := rfl
theorem sg_191_17 : mmDr mc_191 17 = (.iconst 0, [], 0) :: mmCut mc_191 18 := rfl
theorem sg_191_18 : mmDr mc_191 18 = (.iadd, [], 0) :: (.istore_n 3, [], 0) :: (.iinc 4 1, [], 0) :: (.goto (-31), [4], 0) :: mmCut mc_191 22 := rfl
theorem sg_191_22 : mmDr mc_191 22 = (.iload_n 3, [], 0) :: (.ireturn, [0], 0) :: mmCut mc_191 24 := rfl
theorem cd_192 : mmCd 192 = mc_192 := rfl
theorem sg_192_0 : mmDr mc_192 0 = (.iload_n 1, [], 0) :: (.aload_n 0, [], 0) :: (.getfield 243, [11, 12, 0, 1215], 0) :: (.irem, [], 0) :: (.iload_n 3, [], 0) :: (.aload_n 0, [], 0) :: (.getfield 33, [11, 39, 3, 1242], 0) :: (.iload_n 2, [], 0) :: (.iaload, [], 0) :: (.imul, [], 0) :: (.iadd, [], 0) :: (.istore 4, [], 0) :: (.iload_n 1, [], 0) :: (.aload_n 0, [], 0) :: (.getfield 243, [11, 12, 0, 1215], 0) :: (.idiv, [], 0) :: (.iload_n 3, [], 0) :: (.aload_n 0, [], 0) :: (.getfield 36, [11, 40, 3, 1243], 0) :: (.iload_n 2, [], 0) :: (.iaload, [], 0) :: (.imul, [], 0) :: (.iadd, [], 0) :: (.istore 5, [], 0) :: (.iload 4, [], 0) :: (.ifCond .lt 26, [36], 0) :: (.iload 4, [], 0) :: (.aload_n 0, [], 0) :: (.getfield 243, [11, 12, 0, 1215], 0) :: (.if_icmp .ge 17, [36], 0) :: (.iload 5, [], 0) :: (.ifCond .lt 12, [36], 0) :: (.iload 5, [], 0) :: (.aload_n 0, [], 0) :: (.getfield 246, [11, 13, 0, 1216], 0) :: (.if_icmp .lt 7, [38], 0) :: mmCut mc_192 36 := rfl
theorem sg_192_36 : mmDr mc_192 36 = (.iconst (-1), [], 0) :: (.goto 13, [44], 0) :: mmCut mc_192 38 := rfl
theorem sg_192_38 : mmDr mc_192 38 = (.iload 5, [], 0) :: (.aload_n 0, [], 0) :: (.getfield 243, [11, 12, 0, 1215], 0) :: (.imul, [], 0) :: (.iload 4, [], 0) :: (.iadd, [], 0) :: mmCut mc_192 44 := rfl
theorem sg_192_44 : mmDr mc_192 44 = (.ireturn, [0], 0) :: mmCut mc_192 45 := rfl
theorem cd_193 : mmCd 193 = mc_193 := rfl
theorem sg_193_0 : mmDr mc_193 0 = (.aload_n 0, [], 0) :: (.getfield 70, [11, 59, 3, 1262], 0) :: (.iload_n 1, [], 0) :: (.invokestatic 395, [1, 187, 1, 0, 0, 1691], 0) :: (.iload_n 2, [], 0) :: (.iadd, [], 0) :: (.iaload, [], 0) :: (.iconst 4, [], 0) :: (.irem, [], 0) :: (.istore 7, [], 0) :: (.aload_n 0, [], 0) :: (.getfield 63, [11, 56, 3, 1259], 0) :: (.iconst 0, [], 0) :: (.aload_n 0, [], 0) :: (.iload_n 1, [], 0) :: (.iload_n 3, [], 0) :: (.iconst 1, [], 0) :: (.iload 5, [], 0) :: (.isub, [], 0) :: (.invokevirtual 401, [0, 190, 4, 0, 0, 1687, 11], 0) :: (.ifCond .eq 7, [23], 0) :: (.lconst 1, [], 0) :: (.goto 4, [24], 0) :: mmCut mc_193 23 := rfl
theorem sg_193_23 : mmDr mc_193 23 = (.lconst 0, [], 0) :: mmCut mc_193 24 := rfl
theorem sg_193_24 : mmDr mc_193 24 = (.lastore, [], 0) :: (.aload_n 0, [], 0) :: (.getfield 63, [11, 56, 3, 1259], 0) :: (.iconst 1, [], 0) :: (.iload 4, [], 0) :: (.i2l, [], 0) :: (.lastore, [], 0) :: (.aload_n 0, [], 0) :: (.getfield 63, [11, 56, 3, 1259], 0) :: (.iconst 2, [], 0) :: (.iload 5, [], 0) :: (.ifCond .ne 13, [42], 0) :: (.iload_n 3, [], 0) :: (.aload_n 0, [], 0) :: (.getfield 243, [11, 12, 0, 1215], 0) :: (.idiv, [], 0) :: (.i2l, [], 0) :: (.goto 17, [52], 0) :: mmCut mc_193 42 := rfl
theorem sg_193_42 : mmDr mc_193 42 = (.aload_n 0, [], 0) :: (.getfield 246, [11, 13, 0, 1216], 0) :: (.iconst 1, [], 0) :: (.isub, [], 0) :: (.iload_n 3, [], 0) :: (.aload_n 0, [], 0) :: (.getfield 243, [11, 12, 0, 1215], 0) :: (.idiv, [], 0) :: (.isub, [], 0) :: (.i2l, [], 0) :: mmCut mc_193 52 := rfl
set_option maxRecDepth 100000 in
theorem sg_193_52 : mmDr mc_193 52 = (.lastore, [], 0) :: (.aload_n 0, [], 0) :: (.getfield 63, [11, 56, 3, 1259], 0) :: (.iconst 3, [], 0) :: (.iload 7, [], 0) :: (.i2l, [], 0) :: (.lastore, [], 0) :: (.aload_n 0, [], 0) :: (.getfield 63, [11, 56, 3, 1259], 0) :: (.iconst 4, [], 0) :: (.aload_n 0, [], 0) :: (.iload_n 1, [], 0) :: (.iload 5, [], 0) :: (.invokevirtual 404, [0, 191, 3, 0, 0, 1714, 11], 0) :: (.i2l, [], 0) :: (.lastore, [], 0) :: (.aload_n 0, [], 0) :: (.getfield 63, [11, 56, 3, 1259], 0) :: (.iconst 5, [], 0) :: (.aload_n 0, [], 0) :: (.iload_n 1, [], 0) :: (.iconst 1, [], 0) :: (.iload 5, [], 0) :: (.isub, [], 0) :: (.invokevirtual 404, [0, 191, 3, 0, 0, 1714, 11], 0) :: (.i2l, [], 0) :: (.lastore, [], 0) :: (.aload_n 0, [], 0) :: (.getfield 63, [11, 56, 3, 1259], 0) :: (.bipush 6, [], 0) :: (.iload 6, [], 0) :: (.i2l, [], 0) :: (.lastore, [], 0) :: (.aload_n 0, [], 0) :: (.getfield 63, [11, 56, 3, 1259], 0) :: (.bipush 7, [], 0) :: (.aload_n 0, [], 0) :: (.getfield 27, [11, 37, 3, 1240], 0) :: (.iload 7, [], 0) :: (.baload, [], 0) :: (.ifCond .eq 7, [95], 0) :: (.lconst 1, [], 0) :: (.goto 4, [96], 0) :: mmCut mc_193 95 := rfl
set_option maxRecDepth 100000 in
theorem sg_193_95 : mmDr mc_193 95 = (.lconst 0, [], 0) :: mmCut mc_193 96 := rfl
set_option maxRecDepth 100000 in
theorem sg_193_96 : mmDr mc_193 96 = (.lastore, [], 0) :: (.return_, [], 0) :: mmCut mc_193 98 := rfl
theorem cd_194 : mmCd 194 = mc_194 := rfl
theorem sg_194_0 : mmDr mc_194 0 = (.aload_n 0, [], 0) :: (.iconst 0, [], 0) :: (.putfield 376, [11, 58, 1, 1261], 0) :: (.iconst 0, [], 0) :: (.istore_n 1, [], 0) :: mmCut mc_194 5 := rfl
theorem sg_194_5 : mmDr mc_194 5 = (.iload_n 1, [], 0) :: (.aload_n 0, [], 0) :: (.getfield 255, [11, 16, 0, 1219], 0) :: (.if_icmp .ge 20, [18], 0) :: (.aload_n 0, [], 0) :: (.getfield 67, [11, 57, 3, 1260], 0) :: (.iload_n 1, [], 0) :: (.aload_n 0, [], 0) :: (.iload_n 1, [], 0) :: (.invokevirtual 407, [0, 186, 2, 0, 0, 1722, 11], 0) :: (.lastore, [], 0) :: (.iinc 1 1, [], 0) :: (.goto (-22), [5], 0) :: mmCut mc_194 18 := rfl
theorem sg_194_18 : mmDr mc_194 18 = (.aload_n 0, [], 0) :: (.getfield 376, [11, 58, 1, 1261], 0) :: (.ifCond .eq 7, [23], 0) :: (.lconst 0, [], 0) :: (.goto 14, [30], 0) :: mmCut mc_194 23 := rfl
theorem sg_194_23 : mmDr mc_194 23 = (.aload_n 0, [], 0) :: (.getfield 67, [11, 57, 3, 1260], 0) :: (.aload_n 0, [], 0) :: (.getfield 255, [11, 16, 0, 1219], 0) :: (.iconst 1, [], 0) :: (.isub, [], 0) :: (.laload, [], 0) :: mmCut mc_194 30 := rfl
theorem sg_194_30 : mmDr mc_194 30 = (.lreturn, [], 0) :: mmCut mc_194 31 := rfl
theorem cd_195 : mmCd 195 = mc_195 := rfl
theorem sg_195_0 : mmDr mc_195 0 = (.aload_n 0, [], 0) :: (.getfield 270, [11, 21, 1, 1224], 0) :: (.ifCond .ne 5, [5], 0) :: (.iconst 1, [], 0) :: (.ireturn, [1], 0) :: mmCut mc_195 5 := rfl
theorem sg_195_5 : mmDr mc_195 5 = (.aload_n 0, [], 0) :: (.iload_n 1, [], 0) :: (.iload_n 2, [], 0) :: (.iload_n 3, [], 0) :: (.iload 4, [], 0) :: (.iload 5, [], 0) :: (.iload 6, [], 0) :: (.invokevirtual 411, [0, 193, 7, 0, 0, 1710, 11], 0) :: (.aload_n 0, [], 0) :: (.invokevirtual 415, [0, 194, 1, 0, 0, 1718, 11], 0) :: (.lconst 0, [], 0) :: (.lcmp, [], 0) :: (.ifCond .ne 10, [21], 0) :: (.aload_n 0, [], 0) :: (.getfield 376, [11, 58, 1, 1261], 0) :: (.ifCond .eq 7, [23], 0) :: mmCut mc_195 21 := rfl
theorem sg_195_21 : mmDr mc_195 21 = (.iconst 1, [], 0) :: (.goto 4, [24], 0) :: mmCut mc_195 23 := rfl
theorem sg_195_23 : mmDr mc_195 23 = (.iconst 0, [], 0) :: mmCut mc_195 24 := rfl
theorem sg_195_24 : mmDr mc_195 24 = (.ireturn, [1], 0) :: mmCut mc_195 25 := rfl
theorem cd_196 : mmCd 196 = mc_196 := rfl
theorem sg_196_0 : mmDr mc_196 0 = (.aload_n 0, [], 0) :: (.getfield 23, [11, 36, 3, 1239], 0) :: (.iload_n 1, [], 0) :: (.baload, [], 0) :: (.ifCond .eq 7, [7], 0) :: (.iconst 4, [], 0) :: (.goto 4, [8], 0) :: mmCut mc_196 7 := rfl
theorem sg_196_7 : mmDr mc_196 7 = (.iconst 1, [], 0) :: mmCut mc_196 8 := rfl
theorem sg_196_8 : mmDr mc_196 8 = (.ireturn, [0], 0) :: mmCut mc_196 9 := rfl
theorem cd_197 : mmCd 197 = mc_197 := rfl
theorem sg_197_0 : mmDr mc_197 0 = (.iload 4, [], 0) :: (.bipush 64, [], 0) :: (.idiv, [], 0) :: (.istore 5, [], 0) :: (.iload 4, [], 0) :: (.bipush 64, [], 0) :: (.irem, [], 0) :: (.istore 6, [], 0) :: (.iload 5, [], 0) :: (.aload_n 0, [], 0) :: (.invokevirtual 398, [0, 189, 1, 0, 0, 1683, 11], 0) :: (.if_icmp .ge 34, [28], 0) :: (.iload 6, [], 0) :: (.aload_n 0, [], 0) :: (.invokevirtual 398, [0, 189, 1, 0, 0, 1683, 11], 0) :: (.if_icmp .ge 25, [28], 0) :: (.aload_n 0, [], 0) :: (.iload_n 1, [], 0) :: (.iload 5, [], 0) :: (.iload_n 2, [], 0) :: (.invokevirtual 401, [0, 190, 4, 0, 0, 1687, 11], 0) :: (.ifCond .eq 14, [28], 0) :: (.aload_n 0, [], 0) :: (.iload_n 1, [], 0) :: (.iload 6, [], 0) :: (.iload_n 2, [], 0) :: (.invokevirtual 401, [0, 190, 4, 0, 0, 1687, 11], 0) :: (.ifCond .eq 5, [30], 0) :: mmCut mc_197 28 := rfl
theorem sg_197_28 : mmDr mc_197 28 = (.iconst 0, [], 0) :: (.ireturn, [1], 0) :: mmCut mc_197 30 := rfl
theorem sg_197_30 : mmDr mc_197 30 = (.aload_n 0, [], 0) :: (.getfield 70, [11, 59, 3, 1262], 0) :: (.iload_n 1, [], 0) :: (.invokestatic 395, [1, 187, 1, 0, 0, 1691], 0) :: (.iload 5, [], 0) :: (.iadd, [], 0) :: (.iaload, [], 0) :: (.iconst 4, [], 0) :: (.irem, [], 0) :: (.istore 7, [], 0) :: (.bipush 8, [], 0) :: (.iload 7, [], 0) :: (.imul, [], 0) :: (.istore 8, [], 0) :: mmCut mc_197 44 := rfl
theorem sg_197_44 : mmDr mc_197 44 = (.iload 8, [], 0) :: (.bipush 8, [], 0) :: (.iload 7, [], 0) :: (.imul, [], 0) :: (.aload_n 0, [], 0) :: (.getfield 30, [11, 38, 3, 1241], 0) :: (.iload 7, [], 0) :: (.iaload, [], 0) :: (.iadd, [], 0) :: (.if_icmp .ge 101, [103], 0) :: (.iconst 1, [], 0) :: (.istore 9, [], 0) :: (.iconst 1, [], 0) :: (.istore 10, [], 0) :: mmCut mc_197 58 := rfl
set_option maxRecDepth 100000 in
theorem sg_197_58 : mmDr mc_197 58 = (.iload 10, [], 0) :: (.aload_n 0, [], 0) :: (.iload 7, [], 0) :: (.invokevirtual 419, [0, 196, 2, 0, 0, 1698, 11], 0) :: (.if_icmp .gt 78, [101], 0) :: (.iload 9, [], 0) :: (.ifCond .eq 73, [101], 0) :: (.aload_n 0, [], 0) :: (.iload 5, [], 0) :: (.iload 8, [], 0) :: (.iload 10, [], 0) :: (.invokevirtual 422, [0, 192, 4, 0, 0, 1702, 11], 0) :: (.istore 11, [], 0) :: (.iload 11, [], 0) :: (.iload 6, [], 0) :: (.if_icmp .ne 21, [85], 0) :: (.aload_n 0, [], 0) :: (.iload_n 1, [], 0) :: (.iload 5, [], 0) :: (.iload 6, [], 0) :: (.iload 10, [], 0) :: (.iload_n 2, [], 0) :: (.iload_n 3, [], 0) :: (.invokevirtual 426, [0, 195, 7, 0, 0, 1706, 11], 0) :: (.ifCond .eq 5, [85], 0) :: (.iconst 1, [], 0) :: (.ireturn, [1], 0) :: mmCut mc_197 85 := rfl
set_option maxRecDepth 100000 in
theorem sg_197_85 : mmDr mc_197 85 = (.iload 11, [], 0) :: (.ifCond .lt 22, [97], 0) :: (.aload_n 0, [], 0) :: (.getfield 70, [11, 59, 3, 1262], 0) :: (.iload_n 1, [], 0) :: (.invokestatic 395, [1, 187, 1, 0, 0, 1691], 0) :: (.iload 11, [], 0) :: (.iadd, [], 0) :: (.iaload, [], 0) :: (.ifCond .ge 7, [97], 0) :: (.iconst 1, [], 0) :: (.goto 4, [98], 0) :: mmCut mc_197 97 := rfl
set_option maxRecDepth 100000 in
theorem sg_197_97 : mmDr mc_197 97 = (.iconst 0, [], 0) :: mmCut mc_197 98 := rfl
set_option maxRecDepth 100000 in
theorem sg_197_98 : mmDr mc_197 98 = (.istore 9, [], 0) :: (.iinc 10 1, [], 0) :: (.goto (-83), [58], 0) :: mmCut mc_197 101 := rfl
set_option maxRecDepth 100000 in
theorem sg_197_101 : mmDr mc_197 101 = (.iinc 8 1, [], 0) :: (.goto (-113), [44], 0) :: mmCut mc_197 103 := rfl
set_option maxRecDepth 100000 in
theorem sg_197_103 : mmDr mc_197 103 = (.iconst 0, [], 0) :: (.ireturn, [1], 0) :: mmCut mc_197 105 := rfl
theorem cd_198 : mmCd 198 = mc_198 := rfl
theorem sg_198_0 : mmDr mc_198 0 = (.iconst 0, [], 0) :: (.istore_n 3, [], 0) :: mmCut mc_198 2 := rfl
theorem sg_198_2 : mmDr mc_198 2 = (.iload_n 3, [], 0) :: (.aload_n 0, [], 0) :: (.getfield 73, [11, 61, 3, 1264], 0) :: (.iload_n 1, [], 0) :: (.iaload, [], 0) :: (.if_icmp .ge 26, [21], 0) :: (.aload_n 0, [], 0) :: (.getfield 76, [11, 62, 3, 1265], 0) :: (.sipush 200, [], 0) :: (.iload_n 1, [], 0) :: (.imul, [], 0) :: (.iload_n 3, [], 0) :: (.iadd, [], 0) :: (.iaload, [], 0) :: (.iload_n 2, [], 0) :: (.if_icmp .ne 4, [19], 0) :: (.return_, [], 0) :: mmCut mc_198 19 := rfl
theorem sg_198_19 : mmDr mc_198 19 = (.iinc 3 1, [], 0) :: (.goto (-30), [2], 0) :: mmCut mc_198 21 := rfl
theorem sg_198_21 : mmDr mc_198 21 = (.aload_n 0, [], 0) :: (.getfield 76, [11, 62, 3, 1265], 0) :: (.sipush 200, [], 0) :: (.iload_n 1, [], 0) :: (.imul, [], 0) :: (.aload_n 0, [], 0) :: (.getfield 73, [11, 61, 3, 1264], 0) :: (.iload_n 1, [], 0) :: (.iaload, [], 0) :: (.iadd, [], 0) :: (.iload_n 2, [], 0) :: (.iastore, [], 0) :: (.aload_n 0, [], 0) :: (.getfield 73, [11, 61, 3, 1264], 0) :: (.iload_n 1, [], 0) :: (.dup2, [], 0) :: (.iaload, [], 0) :: (.iconst 1, [], 0) :: (.iadd, [], 0) :: (.iastore, [], 0) :: (.return_, [], 0) :: mmCut mc_198 42 := rfl
theorem cd_199 : mmCd 199 = mc_199 := rfl
theorem sg_199_0 : mmDr mc_199 0 = (.aload_n 0, [], 0) :: (.getfield 70, [11, 59, 3, 1262], 0) :: (.iload_n 1, [], 0) :: (.invokestatic 395, [1, 187, 1, 0, 0, 1691], 0) :: (.iload_n 2, [], 0) :: (.iadd, [], 0) :: (.iaload, [], 0) :: (.iconst 4, [], 0) :: (.irem, [], 0) :: (.istore 5, [], 0) :: (.bipush 8, [], 0) :: (.iload 5, [], 0) :: (.imul, [], 0) :: (.istore 6, [], 0) :: mmCut mc_199 14 := rfl
theorem sg_199_14 : mmDr mc_199 14 = (.iload 6, [], 0) :: (.bipush 8, [], 0) :: (.iload 5, [], 0) :: (.imul, [], 0) :: (.aload_n 0, [], 0) :: (.getfield 30, [11, 38, 3, 1241], 0) :: (.iload 5, [], 0) :: (.iaload, [], 0) :: (.iadd, [], 0) :: (.if_icmp .ge 119, [84], 0) :: (.iconst 1, [], 0) :: (.istore 7, [], 0) :: (.iconst 1, [], 0) :: (.istore 8, [], 0) :: mmCut mc_199 28 := rfl
set_option maxRecDepth 100000 in
theorem sg_199_28 : mmDr mc_199 28 = (.iload 8, [], 0) :: (.aload_n 0, [], 0) :: (.iload 5, [], 0) :: (.invokevirtual 419, [0, 196, 2, 0, 0, 1698, 11], 0) :: (.if_icmp .gt 96, [82], 0) :: (.iload 7, [], 0) :: (.ifCond .eq 91, [82], 0) :: (.aload_n 0, [], 0) :: (.iload_n 2, [], 0) :: (.iload 6, [], 0) :: (.iload 8, [], 0) :: (.invokevirtual 422, [0, 192, 4, 0, 0, 1702, 11], 0) :: (.istore 9, [], 0) :: (.iload 9, [], 0) :: (.ifCond .lt 42, [66], 0) :: (.aload_n 0, [], 0) :: (.iload_n 1, [], 0) :: (.iload 9, [], 0) :: (.iload_n 3, [], 0) :: (.invokevirtual 401, [0, 190, 4, 0, 0, 1687, 11], 0) :: (.ifCond .ne 31, [66], 0) :: (.aload_n 0, [], 0) :: (.iload_n 1, [], 0) :: (.iload_n 2, [], 0) :: (.iload 9, [], 0) :: (.iload 8, [], 0) :: (.iload_n 3, [], 0) :: (.iload 4, [], 0) :: (.invokevirtual 426, [0, 195, 7, 0, 0, 1706, 11], 0) :: (.ifCond .eq 15, [66], 0) :: (.aload_n 0, [], 0) :: (.iload_n 1, [], 0) :: (.bipush 64, [], 0) :: (.iload_n 2, [], 0) :: (.imul, [], 0) :: (.iload 9, [], 0) :: (.iadd, [], 0) :: (.invokevirtual 430, [0, 198, 3, 0, 0, 1739, 11], 0) :: mmCut mc_199 66 := rfl
set_option maxRecDepth 100000 in
theorem sg_199_66 : mmDr mc_199 66 = (.iload 9, [], 0) :: (.ifCond .lt 22, [78], 0) :: (.aload_n 0, [], 0) :: (.getfield 70, [11, 59, 3, 1262], 0) :: (.iload_n 1, [], 0) :: (.invokestatic 395, [1, 187, 1, 0, 0, 1691], 0) :: (.iload 9, [], 0) :: (.iadd, [], 0) :: (.iaload, [], 0) :: (.ifCond .ge 7, [78], 0) :: (.iconst 1, [], 0) :: (.goto 4, [79], 0) :: mmCut mc_199 78 := rfl
set_option maxRecDepth 100000 in
theorem sg_199_78 : mmDr mc_199 78 = (.iconst 0, [], 0) :: mmCut mc_199 79 := rfl
set_option maxRecDepth 100000 in
theorem sg_199_79 : mmDr mc_199 79 = (.istore 7, [], 0) :: (.iinc 8 1, [], 0) :: (.goto (-101), [28], 0) :: mmCut mc_199 82 := rfl
set_option maxRecDepth 100000 in
theorem sg_199_82 : mmDr mc_199 82 = (.iinc 6 1, [], 0) :: (.goto (-131), [14], 0) :: mmCut mc_199 84 := rfl
set_option maxRecDepth 100000 in
theorem sg_199_84 : mmDr mc_199 84 = (.return_, [], 0) :: mmCut mc_199 85 := rfl
theorem cd_200 : mmCd 200 = mc_200 := rfl
theorem sg_200_0 : mmDr mc_200 0 = (.aload_n 0, [], 0) :: (.getfield 73, [11, 61, 3, 1264], 0) :: (.iload_n 1, [], 0) :: (.iconst 0, [], 0) :: (.iastore, [], 0) :: (.iconst 0, [], 0) :: (.istore 4, [], 0) :: mmCut mc_200 7 := rfl
theorem sg_200_7 : mmDr mc_200 7 = (.iload 4, [], 0) :: (.aload_n 0, [], 0) :: (.invokevirtual 398, [0, 189, 1, 0, 0, 1683, 11], 0) :: (.if_icmp .ge 29, [25], 0) :: (.aload_n 0, [], 0) :: (.iload_n 1, [], 0) :: (.iload 4, [], 0) :: (.iload_n 2, [], 0) :: (.invokevirtual 401, [0, 190, 4, 0, 0, 1687, 11], 0) :: (.ifCond .eq 12, [23], 0) :: (.aload_n 0, [], 0) :: (.iload_n 1, [], 0) :: (.iload 4, [], 0) :: (.iload_n 2, [], 0) :: (.iload_n 3, [], 0) :: (.invokevirtual 434, [0, 199, 5, 0, 0, 1694, 11], 0) :: mmCut mc_200 23 := rfl
theorem sg_200_23 : mmDr mc_200 23 = (.iinc 4 1, [], 0) :: (.goto (-32), [7], 0) :: mmCut mc_200 25 := rfl
theorem sg_200_25 : mmDr mc_200 25 = (.return_, [], 0) :: mmCut mc_200 26 := rfl
theorem cd_201 : mmCd 201 = mc_201 := rfl
theorem sg_201_0 : mmDr mc_201 0 = (.iconst 0, [], 0) :: (.istore 4, [], 0) :: mmCut mc_201 2 := rfl
theorem sg_201_2 : mmDr mc_201 2 = (.iload 4, [], 0) :: (.bipush 25, [], 0) :: (.if_icmp .ge 33, [21], 0) :: (.aload_n 0, [], 0) :: (.getfield 70, [11, 59, 3, 1262], 0) :: (.iload_n 3, [], 0) :: (.invokestatic 395, [1, 187, 1, 0, 0, 1691], 0) :: (.iload 4, [], 0) :: (.iadd, [], 0) :: (.aload_n 0, [], 0) :: (.getfield 70, [11, 59, 3, 1262], 0) :: (.iload_n 1, [], 0) :: (.invokestatic 395, [1, 187, 1, 0, 0, 1691], 0) :: (.iload 4, [], 0) :: (.iadd, [], 0) :: (.iaload, [], 0) :: (.iastore, [], 0) :: (.iinc 4 1, [], 0) :: (.goto (-34), [2], 0) :: mmCut mc_201 21 := rfl
theorem sg_201_21 : mmDr mc_201 21 = (.aload_n 0, [], 0) :: (.getfield 70, [11, 59, 3, 1262], 0) :: (.iload_n 3, [], 0) :: (.invokestatic 395, [1, 187, 1, 0, 0, 1691], 0) :: (.iload_n 2, [], 0) :: (.bipush 64, [], 0) :: (.irem, [], 0) :: (.iadd, [], 0) :: (.aload_n 0, [], 0) :: (.getfield 70, [11, 59, 3, 1262], 0) :: (.iload_n 1, [], 0) :: (.invokestatic 395, [1, 187, 1, 0, 0, 1691], 0) :: (.iload_n 2, [], 0) :: (.bipush 64, [], 0) :: (.idiv, [], 0) :: (.iadd, [], 0) :: (.iaload, [], 0) :: (.iastore, [], 0) :: (.aload_n 0, [], 0) :: (.getfield 70, [11, 59, 3, 1262], 0) :: (.iload_n 3, [], 0) :: (.invokestatic 395, [1, 187, 1, 0, 0, 1691], 0) :: (.iload_n 2, [], 0) :: (.bipush 64, [], 0) :: (.idiv, [], 0) :: (.iadd, [], 0) :: (.iconst (-1), [], 0) :: (.iastore, [], 0) :: (.return_, [], 0) :: mmCut mc_201 50 := rfl
theorem cd_202 : mmCd 202 = mc_202 := rfl
theorem sg_202_0 : mmDr mc_202 0 = (.iconst 0, [], 0) :: (.istore_n 3, [], 0) :: (.iconst 0, [], 0) :: (.istore 4, [], 0) :: mmCut mc_202 4 := rfl
theorem sg_202_4 : mmDr mc_202 4 = (.iload 4, [], 0) :: (.aload_n 0, [], 0) :: (.getfield 252, [11, 15, 0, 1218], 0) :: (.if_icmp .ge 45, [30], 0) :: (.iload_n 3, [], 0) :: (.ifCond .ne 29, [24], 0) :: (.aload_n 0, [], 0) :: (.getfield 42, [11, 42, 3, 1245], 0) :: (.iload 4, [], 0) :: (.iaload, [], 0) :: (.iload_n 2, [], 0) :: (.if_icmp .ne 22, [26], 0) :: (.aload_n 0, [], 0) :: (.getfield 27, [11, 37, 3, 1240], 0) :: (.aload_n 0, [], 0) :: (.getfield 39, [11, 41, 3, 1244], 0) :: (.iload 4, [], 0) :: (.iaload, [], 0) :: (.baload, [], 0) :: (.ifCond .eq 7, [26], 0) :: mmCut mc_202 24 := rfl
theorem sg_202_24 : mmDr mc_202 24 = (.iconst 1, [], 0) :: (.goto 4, [27], 0) :: mmCut mc_202 26 := rfl
theorem sg_202_26 : mmDr mc_202 26 = (.iconst 0, [], 0) :: mmCut mc_202 27 := rfl
theorem sg_202_27 : mmDr mc_202 27 = (.istore_n 3, [], 0) :: (.iinc 4 1, [], 0) :: (.goto (-48), [4], 0) :: mmCut mc_202 30 := rfl
theorem sg_202_30 : mmDr mc_202 30 = (.iconst 0, [], 0) :: (.istore 4, [], 0) :: mmCut mc_202 32 := rfl
theorem sg_202_32 : mmDr mc_202 32 = (.iload 4, [], 0) :: (.aload_n 0, [], 0) :: (.invokevirtual 398, [0, 189, 1, 0, 0, 1683, 11], 0) :: (.if_icmp .ge 48, [61], 0) :: (.iload_n 3, [], 0) :: (.ifCond .eq 44, [61], 0) :: (.aload_n 0, [], 0) :: (.iload_n 1, [], 0) :: (.iload 4, [], 0) :: (.iload_n 2, [], 0) :: (.invokevirtual 401, [0, 190, 4, 0, 0, 1687, 11], 0) :: (.ifCond .eq 27, [59], 0) :: (.aload_n 0, [], 0) :: (.getfield 27, [11, 37, 3, 1240], 0) :: (.aload_n 0, [], 0) :: (.getfield 70, [11, 59, 3, 1262], 0) :: (.iload_n 1, [], 0) :: (.invokestatic 395, [1, 187, 1, 0, 0, 1691], 0) :: (.iload 4, [], 0) :: (.iadd, [], 0) :: (.iaload, [], 0) :: (.iconst 4, [], 0) :: (.irem, [], 0) :: (.baload, [], 0) :: (.ifCond .eq 5, [59], 0) :: (.iconst 0, [], 0) :: (.ireturn, [1], 0) :: mmCut mc_202 59 := rfl
set_option maxRecDepth 100000 in
theorem sg_202_59 : mmDr mc_202 59 = (.iinc 4 1, [], 0) :: (.goto (-51), [32], 0) :: mmCut mc_202 61 := rfl
set_option maxRecDepth 100000 in
theorem sg_202_61 : mmDr mc_202 61 = (.iload_n 3, [], 0) :: (.ireturn, [1], 0) :: mmCut mc_202 63 := rfl
theorem cd_203 : mmCd 203 = mc_203 := rfl
theorem sg_203_0 : mmDr mc_203 0 = (.aload_n 0, [], 0) :: (.iload_n 1, [], 0) :: (.iload_n 2, [], 0) :: (.iload_n 3, [], 0) :: (.invokevirtual 438, [0, 200, 4, 0, 0, 1679, 11], 0) :: (.aload_n 0, [], 0) :: (.getfield 73, [11, 61, 3, 1264], 0) :: (.iload_n 1, [], 0) :: (.iaload, [], 0) :: (.ifCond .eq 12, [15], 0) :: (.aload_n 0, [], 0) :: (.iload_n 1, [], 0) :: (.iload_n 2, [], 0) :: (.invokevirtual 441, [0, 202, 3, 0, 0, 1743, 11], 0) :: (.ifCond .eq 7, [17], 0) :: mmCut mc_203 15 := rfl
theorem sg_203_15 : mmDr mc_203 15 = (.iconst 1, [], 0) :: (.goto 4, [18], 0) :: mmCut mc_203 17 := rfl
theorem sg_203_17 : mmDr mc_203 17 = (.iconst 0, [], 0) :: mmCut mc_203 18 := rfl
theorem sg_203_18 : mmDr mc_203 18 = (.ireturn, [1], 0) :: mmCut mc_203 19 := rfl
theorem cd_204 : mmCd 204 = mc_204 := rfl
theorem sg_204_0 : mmDr mc_204 0 = (.iconst 0, [], 0) :: (.istore_n 1, [], 0) :: (.aload_n 0, [], 0) :: (.getfield 444, [11, 63, 0, 1266], 0) :: (.istore_n 2, [], 0) :: mmCut mc_204 5 := rfl
theorem sg_204_5 : mmDr mc_204 5 = (.iload_n 2, [], 0) :: (.ifCond .lt 79, [48], 0) :: (.iconst 1, [], 0) :: (.istore_n 3, [], 0) :: (.iconst 0, [], 0) :: (.istore 4, [], 0) :: mmCut mc_204 11 := rfl
theorem sg_204_11 : mmDr mc_204 11 = (.iload 4, [], 0) :: (.bipush 25, [], 0) :: (.if_icmp .ge 49, [38], 0) :: (.iload_n 3, [], 0) :: (.ifCond .eq 45, [38], 0) :: (.aload_n 0, [], 0) :: (.getfield 70, [11, 59, 3, 1262], 0) :: (.iload_n 2, [], 0) :: (.invokestatic 395, [1, 187, 1, 0, 0, 1691], 0) :: (.iload 4, [], 0) :: (.iadd, [], 0) :: (.iaload, [], 0) :: (.aload_n 0, [], 0) :: (.getfield 70, [11, 59, 3, 1262], 0) :: (.aload_n 0, [], 0) :: (.getfield 444, [11, 63, 0, 1266], 0) :: (.invokestatic 395, [1, 187, 1, 0, 0, 1691], 0) :: (.iload 4, [], 0) :: (.iadd, [], 0) :: (.iaload, [], 0) :: (.if_icmp .ne 7, [34], 0) :: (.iconst 1, [], 0) :: (.goto 4, [35], 0) :: mmCut mc_204 34 := rfl
theorem sg_204_34 : mmDr mc_204 34 = (.iconst 0, [], 0) :: mmCut mc_204 35 := rfl
theorem sg_204_35 : mmDr mc_204 35 = (.istore_n 3, [], 0) :: (.iinc 4 1, [], 0) :: (.goto (-50), [11], 0) :: mmCut mc_204 38 := rfl
theorem sg_204_38 : mmDr mc_204 38 = (.iload_n 1, [], 0) :: (.iload_n 3, [], 0) :: (.ifCond .eq 7, [43], 0) :: (.iconst 1, [], 0) :: (.goto 4, [44], 0) :: mmCut mc_204 43 := rfl
theorem sg_204_43 : mmDr mc_204 43 = (.iconst 0, [], 0) :: mmCut mc_204 44 := rfl
theorem sg_204_44 : mmDr mc_204 44 = (.iadd, [], 0) :: (.istore_n 1, [], 0) :: (.iinc 2 (-2), [], 0) :: (.goto (-77), [5], 0) :: mmCut mc_204 48 := rfl
theorem sg_204_48 : mmDr mc_204 48 = (.iload_n 1, [], 0) :: (.iconst 2, [], 0) :: (.if_icmp .le 7, [53], 0) :: (.iconst 1, [], 0) :: (.goto 4, [54], 0) :: mmCut mc_204 53 := rfl
theorem sg_204_53 : mmDr mc_204 53 = (.iconst 0, [], 0) :: mmCut mc_204 54 := rfl
theorem sg_204_54 : mmDr mc_204 54 = (.ireturn, [1], 0) :: mmCut mc_204 55 := rfl
theorem cd_205 : mmCd 205 = mc_205 := rfl
theorem sg_205_0 : mmDr mc_205 0 = (.aload_n 0, [], 0) :: (.getfield 444, [11, 63, 0, 1266], 0) :: (.iconst 2, [], 0) :: (.irem, [], 0) :: (.istore_n 1, [], 0) :: (.aload_n 0, [], 0) :: (.aload_n 0, [], 0) :: (.aload_n 0, [], 0) :: (.getfield 444, [11, 63, 0, 1266], 0) :: (.iload_n 1, [], 0) :: (.aload_n 0, [], 0) :: (.getfield 444, [11, 63, 0, 1266], 0) :: (.invokevirtual 447, [0, 203, 4, 0, 0, 1675, 11], 0) :: (.ifCond .eq 9, [18], 0) :: (.iconst 2, [], 0) :: (.iload_n 1, [], 0) :: (.isub, [], 0) :: (.goto 24, [28], 0) :: mmCut mc_205 18 := rfl
theorem sg_205_18 : mmDr mc_205 18 = (.aload_n 0, [], 0) :: (.getfield 444, [11, 63, 0, 1266], 0) :: (.bipush 60, [], 0) :: (.if_icmp .eq 10, [25], 0) :: (.aload_n 0, [], 0) :: (.invokevirtual 450, [0, 204, 1, 0, 0, 1747, 11], 0) :: (.ifCond .eq 7, [27], 0) :: mmCut mc_205 25 := rfl
theorem sg_205_25 : mmDr mc_205 25 = (.iconst 3, [], 0) :: (.goto 4, [28], 0) :: mmCut mc_205 27 := rfl
theorem sg_205_27 : mmDr mc_205 27 = (.iconst 0, [], 0) :: mmCut mc_205 28 := rfl
theorem sg_205_28 : mmDr mc_205 28 = (.putfield 453, [11, 64, 0, 1267], 0) :: (.return_, [], 0) :: mmCut mc_205 30 := rfl
theorem cd_206 : mmCd 206 = mc_206 := rfl
theorem sg_206_0 : mmDr mc_206 0 = (.iload_n 1, [], 0) :: (.ifCond .lt 15, [8], 0) :: (.iload_n 1, [], 0) :: (.aload_n 0, [], 0) :: (.getfield 280, [11, 68, 0, 1271], 0) :: (.if_icmp .ge 7, [8], 0) :: (.iconst 1, [], 0) :: (.goto 4, [9], 0) :: mmCut mc_206 8 := rfl
theorem sg_206_8 : mmDr mc_206 8 = (.iconst 0, [], 0) :: mmCut mc_206 9 := rfl
theorem sg_206_9 : mmDr mc_206 9 = (.ireturn, [1], 0) :: mmCut mc_206 10 := rfl
theorem cd_207 : mmCd 207 = mc_207 := rfl
theorem sg_207_0 : mmDr mc_207 0 = (.iload_n 0, [], 0) :: (.iconst 0, [], 0) :: (.sipush 999, [], 0) :: (.invokestatic 183, [1, 145, 3, 0, 0, 1523], 0) :: (.ireturn, [1], 0) :: mmCut mc_207 5 := rfl
theorem cd_208 : mmCd 208 = mc_208 := rfl
theorem sg_208_0 : mmDr mc_208 0 = (.iload_n 1, [], 0) :: (.istore_n 2, [], 0) :: mmCut mc_208 2 := rfl
theorem sg_208_2 : mmDr mc_208 2 = (.aload_n 0, [], 0) :: (.getfield 100, [11, 74, 3, 1277], 0) :: (.iload_n 2, [], 0) :: (.iaload, [], 0) :: (.ifCond .lt 13, [13], 0) :: (.aload_n 0, [], 0) :: (.getfield 100, [11, 74, 3, 1277], 0) :: (.iload_n 2, [], 0) :: (.iaload, [], 0) :: (.istore_n 2, [], 0) :: (.goto (-16), [2], 0) :: mmCut mc_208 13 := rfl
theorem sg_208_13 : mmDr mc_208 13 = (.iload_n 2, [], 0) :: (.ireturn, [0], 0) :: mmCut mc_208 15 := rfl
theorem cd_209 : mmCd 209 = mc_209 := rfl
theorem sg_209_0 : mmDr mc_209 0 = (.aload_n 0, [], 0) :: (.iconst 0, [], 0) :: (.putfield 139, [11, 2, 0, 1205], 0) :: (.iload_n 1, [], 0) :: (.invokestatic 456, [1, 207, 1, 0, 0, 1620], 0) :: (.ifCond .ne 5, [8], 0) :: (.iconst 0, [], 0) :: (.ireturn, [1], 0) :: mmCut mc_209 8 := rfl
theorem sg_209_8 : mmDr mc_209 8 = (.aload_n 0, [], 0) :: (.iload_n 1, [], 0) :: (.putfield 277, [11, 60, 0, 1263], 0) :: (.iconst 1, [], 0) :: (.ireturn, [1], 0) :: mmCut mc_209 13 := rfl
theorem cd_210 : mmCd 210 = mc_210 := rfl
theorem sg_210_0 : mmDr mc_210 0 = (.aload_n 0, [], 0) :: (.iconst 0, [], 0) :: (.putfield 139, [11, 2, 0, 1205], 0) :: (.aload_n 0, [], 0) :: (.getfield 280, [11, 68, 0, 1271], 0) :: (.bipush 16, [], 0) :: (.if_icmp .eq 52, [31], 0) :: (.iload_n 1, [], 0) :: (.iconst 0, [], 0) :: (.iconst 1, [], 0) :: (.invokestatic 183, [1, 145, 3, 0, 0, 1523], 0) :: (.ifCond .eq 43, [31], 0) :: (.iload_n 2, [], 0) :: (.invokestatic 456, [1, 207, 1, 0, 0, 1620], 0) :: (.ifCond .eq 36, [31], 0) :: (.iload_n 3, [], 0) :: (.invokestatic 456, [1, 207, 1, 0, 0, 1620], 0) :: (.ifCond .eq 29, [31], 0) :: (.iload 4, [], 0) :: (.iconst (-1), [], 0) :: (.if_icmp .eq 25, [33], 0) :: (.aload_n 0, [], 0) :: (.iload 4, [], 0) :: (.invokevirtual 459, [0, 206, 2, 0, 0, 1627, 11], 0) :: (.ifCond .eq 14, [31], 0) :: (.aload_n 0, [], 0) :: (.getfield 88, [11, 70, 3, 1273], 0) :: (.iload 4, [], 0) :: (.iaload, [], 0) :: (.iload_n 1, [], 0) :: (.if_icmp .ne 5, [33], 0) :: mmCut mc_210 31 := rfl
theorem sg_210_31 : mmDr mc_210 31 = (.iconst (-1), [], 0) :: (.ireturn, [0], 0) :: mmCut mc_210 33 := rfl
set_option maxRecDepth 100000 in
theorem sg_210_33 : mmDr mc_210 33 = (.aload_n 0, [], 0) :: (.getfield 88, [11, 70, 3, 1273], 0) :: (.aload_n 0, [], 0) :: (.getfield 280, [11, 68, 0, 1271], 0) :: (.iload_n 1, [], 0) :: (.iastore, [], 0) :: (.aload_n 0, [], 0) :: (.getfield 91, [11, 71, 3, 1274], 0) :: (.aload_n 0, [], 0) :: (.getfield 280, [11, 68, 0, 1271], 0) :: (.iload_n 2, [], 0) :: (.iastore, [], 0) :: (.aload_n 0, [], 0) :: (.getfield 94, [11, 72, 3, 1275], 0) :: (.aload_n 0, [], 0) :: (.getfield 280, [11, 68, 0, 1271], 0) :: (.iload_n 3, [], 0) :: (.iastore, [], 0) :: (.aload_n 0, [], 0) :: (.getfield 97, [11, 73, 3, 1276], 0) :: (.aload_n 0, [], 0) :: (.getfield 280, [11, 68, 0, 1271], 0) :: (.iload 4, [], 0) :: (.iastore, [], 0) :: (.aload_n 0, [], 0) :: (.getfield 100, [11, 74, 3, 1277], 0) :: (.aload_n 0, [], 0) :: (.getfield 280, [11, 68, 0, 1271], 0) :: (.iconst (-1), [], 0) :: (.iastore, [], 0) :: (.aload_n 0, [], 0) :: (.getfield 103, [11, 75, 3, 1278], 0) :: (.aload_n 0, [], 0) :: (.getfield 280, [11, 68, 0, 1271], 0) :: (.iconst 0, [], 0) :: (.iastore, [], 0) :: (.aload_n 0, [], 0) :: (.dup, [], 0) :: (.getfield 280, [11, 68, 0, 1271], 0) :: (.iconst 1, [], 0) :: (.iadd, [], 0) :: (.putfield 280, [11, 68, 0, 1271], 0) :: (.aload_n 0, [], 0) :: (.getfield 280, [11, 68, 0, 1271], 0) :: (.iconst 1, [], 0) :: (.isub, [], 0) :: (.ireturn, [0], 0) :: mmCut mc_210 80 := rfl
theorem cd_211 : mmCd 211 = mc_211 := rfl
theorem sg_211_0 : mmDr mc_211 0 = (.iload_n 0, [], 0) :: (.iconst 0, [], 0) :: (.sipush 4095, [], 0) :: (.invokestatic 183, [1, 145, 3, 0, 0, 1523], 0) :: (.ireturn, [1], 0) :: mmCut mc_211 5 := rfl
theorem cd_212 : mmCd 212 = mc_212 := rfl
theorem sg_212_0 : mmDr mc_212 0 = (.aload_n 0, [], 0) :: (.iconst 0, [], 0) :: (.putfield 139, [11, 2, 0, 1205], 0) :: (.aload_n 0, [], 0) :: (.getfield 280, [11, 68, 0, 1271], 0) :: (.iconst 1, [], 0) :: (.isub, [], 0) :: (.istore 4, [], 0) :: (.iload 4, [], 0) :: (.ifCond .lt 67, [43], 0) :: (.aload_n 0, [], 0) :: (.getfield 100, [11, 74, 3, 1277], 0) :: (.iload 4, [], 0) :: (.iaload, [], 0) :: (.ifCond .ge 57, [43], 0) :: (.aload_n 0, [], 0) :: (.getfield 103, [11, 75, 3, 1278], 0) :: (.iload 4, [], 0) :: (.iaload, [], 0) :: (.bipush 6, [], 0) :: (.if_icmp .eq 45, [43], 0) :: (.iload_n 1, [], 0) :: (.iconst 0, [], 0) :: (.bipush 59, [], 0) :: (.invokestatic 183, [1, 145, 3, 0, 0, 1523], 0) :: (.ifCond .eq 35, [43], 0) :: (.iload_n 1, [], 0) :: (.iconst 2, [], 0) :: (.irem, [], 0) :: (.aload_n 0, [], 0) :: (.getfield 88, [11, 70, 3, 1273], 0) :: (.iload 4, [], 0) :: (.iaload, [], 0) :: (.if_icmp .ne 22, [43], 0) :: (.iload_n 2, [], 0) :: (.iconst (-1), [], 0) :: (.if_icmp .eq 10, [40], 0) :: (.iload_n 2, [], 0) :: (.invokestatic 462, [1, 211, 1, 0, 0, 1635], 0) :: (.ifCond .eq 10, [43], 0) :: mmCut mc_212 40 := rfl
theorem sg_212_40 : mmDr mc_212 40 = (.iload_n 3, [], 0) :: (.invokestatic 462, [1, 211, 1, 0, 0, 1635], 0) :: (.ifCond .ne 5, [45], 0) :: mmCut mc_212 43 := rfl
theorem sg_212_43 : mmDr mc_212 43 = (.iconst (-1), [], 0) :: (.ireturn, [0], 0) :: mmCut mc_212 45 := rfl
set_option maxRecDepth 100000 in
theorem sg_212_45 : mmDr mc_212 45 = (.bipush 18, [], 0) :: (.iload 4, [], 0) :: (.imul, [], 0) :: (.iconst 3, [], 0) :: (.aload_n 0, [], 0) :: (.getfield 103, [11, 75, 3, 1278], 0) :: (.iload 4, [], 0) :: (.iaload, [], 0) :: (.imul, [], 0) :: (.iadd, [], 0) :: (.istore 5, [], 0) :: (.aload_n 0, [], 0) :: (.getfield 106, [11, 76, 3, 1279], 0) :: (.iload 5, [], 0) :: (.iload_n 1, [], 0) :: (.iastore, [], 0) :: (.aload_n 0, [], 0) :: (.getfield 106, [11, 76, 3, 1279], 0) :: (.iload 5, [], 0) :: (.iconst 1, [], 0) :: (.iadd, [], 0) :: (.iload_n 2, [], 0) :: (.iastore, [], 0) :: (.aload_n 0, [], 0) :: (.getfield 106, [11, 76, 3, 1279], 0) :: (.iload 5, [], 0) :: (.iconst 2, [], 0) :: (.iadd, [], 0) :: (.iload_n 3, [], 0) :: (.iastore, [], 0) :: (.aload_n 0, [], 0) :: (.getfield 103, [11, 75, 3, 1278], 0) :: (.iload 4, [], 0) :: (.dup2, [], 0) :: (.iaload, [], 0) :: (.iconst 1, [], 0) :: (.iadd, [], 0) :: (.iastore, [], 0) :: (.aload_n 0, [], 0) :: (.getfield 103, [11, 75, 3, 1278], 0) :: (.iload 4, [], 0) :: (.iaload, [], 0) :: (.ireturn, [0], 0) :: mmCut mc_212 88 := rfl
theorem cd_213 : mmCd 213 = mc_213 := rfl
theorem sg_213_0 : mmDr mc_213 0 = (.aload_n 0, [], 0) :: (.iconst 0, [], 0) :: (.putfield 139, [11, 2, 0, 1205], 0) :: (.aload_n 0, [], 0) :: (.getfield 280, [11, 68, 0, 1271], 0) :: (.bipush 16, [], 0) :: (.if_icmp .eq 25, [17], 0) :: (.aload_n 0, [], 0) :: (.iload_n 1, [], 0) :: (.invokevirtual 459, [0, 206, 2, 0, 0, 1627, 11], 0) :: (.ifCond .eq 17, [17], 0) :: (.iload_n 2, [], 0) :: (.invokestatic 456, [1, 207, 1, 0, 0, 1620], 0) :: (.ifCond .eq 10, [17], 0) :: (.iload_n 3, [], 0) :: (.invokestatic 456, [1, 207, 1, 0, 0, 1620], 0) :: (.ifCond .ne 5, [19], 0) :: mmCut mc_213 17 := rfl
theorem sg_213_17 : mmDr mc_213 17 = (.iconst (-1), [], 0) :: (.ireturn, [0], 0) :: mmCut mc_213 19 := rfl
set_option maxRecDepth 100000 in
theorem sg_213_19 : mmDr mc_213 19 = (.aload_n 0, [], 0) :: (.getfield 88, [11, 70, 3, 1273], 0) :: (.aload_n 0, [], 0) :: (.getfield 280, [11, 68, 0, 1271], 0) :: (.aload_n 0, [], 0) :: (.getfield 88, [11, 70, 3, 1273], 0) :: (.iload_n 1, [], 0) :: (.iaload, [], 0) :: (.iastore, [], 0) :: (.aload_n 0, [], 0) :: (.getfield 91, [11, 71, 3, 1274], 0) :: (.aload_n 0, [], 0) :: (.getfield 280, [11, 68, 0, 1271], 0) :: (.iload_n 2, [], 0) :: (.iastore, [], 0) :: (.aload_n 0, [], 0) :: (.getfield 94, [11, 72, 3, 1275], 0) :: (.aload_n 0, [], 0) :: (.getfield 280, [11, 68, 0, 1271], 0) :: (.iload_n 3, [], 0) :: (.iastore, [], 0) :: (.aload_n 0, [], 0) :: (.getfield 97, [11, 73, 3, 1276], 0) :: (.aload_n 0, [], 0) :: (.getfield 280, [11, 68, 0, 1271], 0) :: (.aload_n 0, [], 0) :: (.getfield 97, [11, 73, 3, 1276], 0) :: (.iload_n 1, [], 0) :: (.iaload, [], 0) :: (.iastore, [], 0) :: (.aload_n 0, [], 0) :: (.getfield 100, [11, 74, 3, 1277], 0) :: (.aload_n 0, [], 0) :: (.getfield 280, [11, 68, 0, 1271], 0) :: (.iload_n 1, [], 0) :: (.iastore, [], 0) :: (.aload_n 0, [], 0) :: (.getfield 103, [11, 75, 3, 1278], 0) :: (.aload_n 0, [], 0) :: (.getfield 280, [11, 68, 0, 1271], 0) :: (.iconst 0, [], 0) :: (.iastore, [], 0) :: (.aload_n 0, [], 0) :: (.dup, [], 0) :: (.getfield 280, [11, 68, 0, 1271], 0) :: (.iconst 1, [], 0) :: (.iadd, [], 0) :: (.putfield 280, [11, 68, 0, 1271], 0) :: (.aload_n 0, [], 0) :: (.getfield 280, [11, 68, 0, 1271], 0) :: (.iconst 1, [], 0) :: (.isub, [], 0) :: (.ireturn, [0], 0) :: mmCut mc_213 72 := rfl
theorem cd_214 : mmCd 214 = mc_214 := rfl
theorem sg_214_0 : mmDr mc_214 0 = (.aload_n 0, [], 0) :: (.iconst 0, [], 0) :: (.putfield 139, [11, 2, 0, 1205], 0) :: (.aload_n 0, [], 0) :: (.iload_n 1, [], 0) :: (.invokevirtual 459, [0, 206, 2, 0, 0, 1627, 11], 0) :: (.ifCond .ne 7, [9], 0) :: (.ldc_w 465, [1646], (-2147483648)) :: (.ireturn, [0], 0) :: mmCut mc_214 9 := rfl
theorem sg_214_9 : mmDr mc_214 9 = (.iload_n 2, [], 0) :: (.tableswitch 102 0 6 #[42, 49, 56, 63, 70, 81, 88], [53, 11, 16, 21, 26, 31, 38, 43], 0) :: mmCut mc_214 11 := rfl
theorem sg_214_11 : mmDr mc_214 11 = (.aload_n 0, [], 0) :: (.getfield 88, [11, 70, 3, 1273], 0) :: (.iload_n 1, [], 0) :: (.iaload, [], 0) :: (.ireturn, [0], 0) :: mmCut mc_214 16 := rfl
theorem sg_214_16 : mmDr mc_214 16 = (.aload_n 0, [], 0) :: (.getfield 91, [11, 71, 3, 1274], 0) :: (.iload_n 1, [], 0) :: (.iaload, [], 0) :: (.ireturn, [0], 0) :: mmCut mc_214 21 := rfl
theorem sg_214_21 : mmDr mc_214 21 = (.aload_n 0, [], 0) :: (.getfield 94, [11, 72, 3, 1275], 0) :: (.iload_n 1, [], 0) :: (.iaload, [], 0) :: (.ireturn, [0], 0) :: mmCut mc_214 26 := rfl
theorem sg_214_26 : mmDr mc_214 26 = (.aload_n 0, [], 0) :: (.getfield 97, [11, 73, 3, 1276], 0) :: (.iload_n 1, [], 0) :: (.iaload, [], 0) :: (.ireturn, [0], 0) :: mmCut mc_214 31 := rfl
theorem sg_214_31 : mmDr mc_214 31 = (.aload_n 0, [], 0) :: (.getfield 103, [11, 75, 3, 1278], 0) :: (.aload_n 0, [], 0) :: (.iload_n 1, [], 0) :: (.invokevirtual 466, [0, 208, 2, 0, 0, 1647, 11], 0) :: (.iaload, [], 0) :: (.ireturn, [0], 0) :: mmCut mc_214 38 := rfl
theorem sg_214_38 : mmDr mc_214 38 = (.aload_n 0, [], 0) :: (.getfield 100, [11, 74, 3, 1277], 0) :: (.iload_n 1, [], 0) :: (.iaload, [], 0) :: (.ireturn, [0], 0) :: mmCut mc_214 43 := rfl
theorem sg_214_43 : mmDr mc_214 43 = (.aload_n 0, [], 0) :: (.getfield 94, [11, 72, 3, 1275], 0) :: (.iload_n 1, [], 0) :: (.iaload, [], 0) :: (.aload_n 0, [], 0) :: (.getfield 91, [11, 71, 3, 1274], 0) :: (.iload_n 1, [], 0) :: (.iaload, [], 0) :: (.isub, [], 0) :: (.ireturn, [0], 0) :: mmCut mc_214 53 := rfl
theorem sg_214_53 : mmDr mc_214 53 = (.ldc_w 465, [1646], (-2147483648)) :: (.ireturn, [0], 0) :: mmCut mc_214 55 := rfl
theorem cd_215 : mmCd 215 = mc_215 := rfl
theorem sg_215_0 : mmDr mc_215 0 = (.aload_n 0, [], 0) :: (.getfield 91, [11, 71, 3, 1274], 0) :: (.iload_n 1, [], 0) :: (.iaload, [], 0) :: (.aload_n 0, [], 0) :: (.getfield 91, [11, 71, 3, 1274], 0) :: (.iload_n 2, [], 0) :: (.iaload, [], 0) :: (.if_icmp .eq 36, [28], 0) :: (.aload_n 0, [], 0) :: (.getfield 91, [11, 71, 3, 1274], 0) :: (.iload_n 1, [], 0) :: (.iaload, [], 0) :: (.aload_n 0, [], 0) :: (.getfield 91, [11, 71, 3, 1274], 0) :: (.iload_n 2, [], 0) :: (.iaload, [], 0) :: (.if_icmp .ge 7, [20], 0) :: (.iconst 1, [], 0) :: (.goto 4, [21], 0) :: mmCut mc_215 20 := rfl
theorem sg_215_20 : mmDr mc_215 20 = (.iconst 0, [], 0) :: mmCut mc_215 21 := rfl
theorem sg_215_21 : mmDr mc_215 21 = (.aload_n 0, [], 0) :: (.getfield 267, [11, 20, 1, 1223], 0) :: (.if_icmp .eq 7, [26], 0) :: (.iconst 1, [], 0) :: (.goto 4, [27], 0) :: mmCut mc_215 26 := rfl
theorem sg_215_26 : mmDr mc_215 26 = (.iconst 0, [], 0) :: mmCut mc_215 27 := rfl
theorem sg_215_27 : mmDr mc_215 27 = (.ireturn, [1], 0) :: mmCut mc_215 28 := rfl
theorem sg_215_28 : mmDr mc_215 28 = (.iload_n 1, [], 0) :: (.iload_n 2, [], 0) :: (.if_icmp .ge 7, [33], 0) :: (.iconst 1, [], 0) :: (.goto 4, [34], 0) :: mmCut mc_215 33 := rfl
theorem sg_215_33 : mmDr mc_215 33 = (.iconst 0, [], 0) :: mmCut mc_215 34 := rfl
theorem sg_215_34 : mmDr mc_215 34 = (.aload_n 0, [], 0) :: (.getfield 267, [11, 20, 1, 1223], 0) :: (.if_icmp .eq 7, [39], 0) :: (.iconst 1, [], 0) :: (.goto 4, [40], 0) :: mmCut mc_215 39 := rfl
theorem sg_215_39 : mmDr mc_215 39 = (.iconst 0, [], 0) :: mmCut mc_215 40 := rfl
theorem sg_215_40 : mmDr mc_215 40 = (.ireturn, [1], 0) :: mmCut mc_215 41 := rfl
theorem cd_216 : mmCd 216 = mc_216 := rfl
theorem sg_216_0 : mmDr mc_216 0 = (.iconst 0, [], 0) :: (.istore_n 1, [], 0) :: mmCut mc_216 2 := rfl
theorem sg_216_2 : mmDr mc_216 2 = (.iload_n 1, [], 0) :: (.aload_n 0, [], 0) :: (.getfield 280, [11, 68, 0, 1271], 0) :: (.if_icmp .ge 58, [39], 0) :: (.iload_n 1, [], 0) :: (.istore_n 2, [], 0) :: mmCut mc_216 8 := rfl
theorem sg_216_8 : mmDr mc_216 8 = (.iload_n 2, [], 0) :: (.ifCond .le 39, [32], 0) :: (.aload_n 0, [], 0) :: (.iload_n 1, [], 0) :: (.aload_n 0, [], 0) :: (.getfield 115, [11, 79, 3, 1282], 0) :: (.iload_n 2, [], 0) :: (.iconst 1, [], 0) :: (.isub, [], 0) :: (.iaload, [], 0) :: (.invokevirtual 469, [0, 215, 3, 0, 0, 1667, 11], 0) :: (.ifCond .eq 23, [32], 0) :: (.aload_n 0, [], 0) :: (.getfield 115, [11, 79, 3, 1282], 0) :: (.iload_n 2, [], 0) :: (.aload_n 0, [], 0) :: (.getfield 115, [11, 79, 3, 1282], 0) :: (.iload_n 2, [], 0) :: (.iconst 1, [], 0) :: (.isub, [], 0) :: (.iaload, [], 0) :: (.iastore, [], 0) :: (.iinc 2 (-1), [], 0) :: (.goto (-37), [8], 0) :: mmCut mc_216 32 := rfl
theorem sg_216_32 : mmDr mc_216 32 = (.aload_n 0, [], 0) :: (.getfield 115, [11, 79, 3, 1282], 0) :: (.iload_n 2, [], 0) :: (.iload_n 1, [], 0) :: (.iastore, [], 0) :: (.iinc 1 1, [], 0) :: (.goto (-60), [2], 0) :: mmCut mc_216 39 := rfl
theorem sg_216_39 : mmDr mc_216 39 = (.return_, [], 0) :: mmCut mc_216 40 := rfl
theorem cd_217 : mmCd 217 = mc_217 := rfl
theorem sg_217_0 : mmDr mc_217 0 = (.iload_n 1, [], 0) :: (.lookupswitch 48 #[(0, 27), (3, 29)], [15, 2, 4], 0) :: mmCut mc_217 2 := rfl
theorem sg_217_2 : mmDr mc_217 2 = (.iconst 1, [], 0) :: (.ireturn, [1], 0) :: mmCut mc_217 4 := rfl
theorem sg_217_4 : mmDr mc_217 4 = (.aload_n 0, [], 0) :: (.getfield 94, [11, 72, 3, 1275], 0) :: (.iload_n 2, [], 0) :: (.iaload, [], 0) :: (.aload_n 0, [], 0) :: (.getfield 277, [11, 60, 0, 1263], 0) :: (.if_icmp .gt 7, [13], 0) :: (.iconst 1, [], 0) :: (.goto 4, [14], 0) :: mmCut mc_217 13 := rfl
theorem sg_217_13 : mmDr mc_217 13 = (.iconst 0, [], 0) :: mmCut mc_217 14 := rfl
theorem sg_217_14 : mmDr mc_217 14 = (.ireturn, [1], 0) :: mmCut mc_217 15 := rfl
theorem sg_217_15 : mmDr mc_217 15 = (.aload_n 0, [], 0) :: (.getfield 88, [11, 70, 3, 1273], 0) :: (.iload_n 2, [], 0) :: (.iaload, [], 0) :: (.iload_n 1, [], 0) :: (.iconst 1, [], 0) :: (.isub, [], 0) :: (.if_icmp .ne 12, [28], 0) :: (.aload_n 0, [], 0) :: (.getfield 91, [11, 71, 3, 1274], 0) :: (.iload_n 2, [], 0) :: (.iaload, [], 0) :: (.goto 9, [32], 0) :: mmCut mc_217 28 := rfl
theorem sg_217_28 : mmDr mc_217 28 = (.aload_n 0, [], 0) :: (.getfield 94, [11, 72, 3, 1275], 0) :: (.iload_n 2, [], 0) :: (.iaload, [], 0) :: mmCut mc_217 32 := rfl
theorem sg_217_32 : mmDr mc_217 32 = (.aload_n 0, [], 0) :: (.getfield 277, [11, 60, 0, 1263], 0) :: (.if_icmp .gt 7, [37], 0) :: (.iconst 1, [], 0) :: (.goto 4, [38], 0) :: mmCut mc_217 37 := rfl
theorem sg_217_37 : mmDr mc_217 37 = (.iconst 0, [], 0) :: mmCut mc_217 38 := rfl
theorem sg_217_38 : mmDr mc_217 38 = (.ireturn, [1], 0) :: mmCut mc_217 39 := rfl
theorem cd_218 : mmCd 218 = mc_218 := rfl
theorem sg_218_0 : mmDr mc_218 0 = (.aload_n 0, [], 0) :: (.iload_n 1, [], 0) :: (.invokevirtual 466, [0, 208, 2, 0, 0, 1647, 11], 0) :: (.istore_n 2, [], 0) :: (.iconst 0, [], 0) :: (.istore_n 3, [], 0) :: mmCut mc_218 6 := rfl
theorem sg_218_6 : mmDr mc_218 6 = (.iload_n 3, [], 0) :: (.aload_n 0, [], 0) :: (.getfield 103, [11, 75, 3, 1278], 0) :: (.iload_n 2, [], 0) :: (.iaload, [], 0) :: (.if_icmp .ge 160, [102], 0) :: (.bipush 18, [], 0) :: (.iload_n 2, [], 0) :: (.imul, [], 0) :: (.iconst 3, [], 0) :: (.iload_n 3, [], 0) :: (.imul, [], 0) :: (.iadd, [], 0) :: (.istore 4, [], 0) :: (.aload_n 0, [], 0) :: (.getfield 106, [11, 76, 3, 1279], 0) :: (.iload 4, [], 0) :: (.iaload, [], 0) :: (.aload_n 0, [], 0) :: (.getfield 444, [11, 63, 0, 1266], 0) :: (.if_icmp .ne 49, [53], 0) :: (.aload_n 0, [], 0) :: (.getfield 106, [11, 76, 3, 1279], 0) :: (.iload 4, [], 0) :: (.iconst 1, [], 0) :: (.iadd, [], 0) :: (.iaload, [], 0) :: (.ifCond .lt 33, [51], 0) :: (.aload_n 0, [], 0) :: (.getfield 444, [11, 63, 0, 1266], 0) :: (.ifCond .le 30, [53], 0) :: (.aload_n 0, [], 0) :: (.getfield 106, [11, 76, 3, 1279], 0) :: (.iload 4, [], 0) :: (.iconst 1, [], 0) :: (.iadd, [], 0) :: (.iaload, [], 0) :: (.aload_n 0, [], 0) :: (.getfield 79, [11, 65, 3, 1268], 0) :: (.aload_n 0, [], 0) :: (.getfield 444, [11, 63, 0, 1266], 0) :: (.iconst 1, [], 0) :: (.isub, [], 0) :: (.iaload, [], 0) :: (.if_icmp .ne 7, [53], 0) :: mmCut mc_218 51 := rfl
theorem sg_218_51 : mmDr mc_218 51 = (.iconst 1, [], 0) :: (.goto 4, [54], 0) :: mmCut mc_218 53 := rfl
theorem sg_218_53 : mmDr mc_218 53 = (.iconst 0, [], 0) :: mmCut mc_218 54 := rfl
set_option maxRecDepth 100000 in
theorem sg_218_54 : mmDr mc_218 54 = (.istore 5, [], 0) :: (.iload 5, [], 0) :: (.ifCond .eq 76, [100], 0) :: (.aload_n 0, [], 0) :: (.aload_n 0, [], 0) :: (.getfield 444, [11, 63, 0, 1266], 0) :: (.aload_n 0, [], 0) :: (.getfield 444, [11, 63, 0, 1266], 0) :: (.iconst 2, [], 0) :: (.irem, [], 0) :: (.aload_n 0, [], 0) :: (.getfield 444, [11, 63, 0, 1266], 0) :: (.aload_n 0, [], 0) :: (.getfield 106, [11, 76, 3, 1279], 0) :: (.iload 4, [], 0) :: (.iconst 2, [], 0) :: (.iadd, [], 0) :: (.iaload, [], 0) :: (.invokevirtual 472, [0, 197, 5, 0, 0, 1759, 11], 0) :: (.ifCond .ne 6, [75], 0) :: (.goto 43, [100], 0) :: mmCut mc_218 75 := rfl
set_option maxRecDepth 100000 in
theorem sg_218_75 : mmDr mc_218 75 = (.aload_n 0, [], 0) :: (.getfield 79, [11, 65, 3, 1268], 0) :: (.aload_n 0, [], 0) :: (.getfield 444, [11, 63, 0, 1266], 0) :: (.aload_n 0, [], 0) :: (.getfield 106, [11, 76, 3, 1279], 0) :: (.iload 4, [], 0) :: (.iconst 2, [], 0) :: (.iadd, [], 0) :: (.iaload, [], 0) :: (.iastore, [], 0) :: (.aload_n 0, [], 0) :: (.getfield 82, [11, 66, 3, 1269], 0) :: (.aload_n 0, [], 0) :: (.getfield 444, [11, 63, 0, 1266], 0) :: (.iload_n 1, [], 0) :: (.iastore, [], 0) :: (.aload_n 0, [], 0) :: (.getfield 85, [11, 67, 3, 1270], 0) :: (.aload_n 0, [], 0) :: (.getfield 444, [11, 63, 0, 1266], 0) :: (.iload_n 3, [], 0) :: (.iastore, [], 0) :: (.iconst 1, [], 0) :: (.ireturn, [1], 0) :: mmCut mc_218 100 := rfl
set_option maxRecDepth 100000 in
theorem sg_218_100 : mmDr mc_218 100 = (.iinc 3 1, [], 0) :: (.goto (-164), [6], 0) :: mmCut mc_218 102 := rfl
set_option maxRecDepth 100000 in
theorem sg_218_102 : mmDr mc_218 102 = (.iconst 0, [], 0) :: (.ireturn, [1], 0) :: mmCut mc_218 104 := rfl
theorem cd_219 : mmCd 219 = mc_219 := rfl
theorem sg_219_0 : mmDr mc_219 0 = (.aload_n 0, [], 0) :: (.invokevirtual 476, [0, 188, 1, 0, 0, 1659, 11], 0) :: (.aload_n 0, [], 0) :: (.invokevirtual 479, [0, 216, 1, 0, 0, 1663, 11], 0) :: (.aload_n 0, [], 0) :: (.iconst 0, [], 0) :: (.putfield 444, [11, 63, 0, 1266], 0) :: (.aload_n 0, [], 0) :: (.invokevirtual 482, [0, 205, 1, 0, 0, 1671, 11], 0) :: (.iconst 1, [], 0) :: (.istore_n 2, [], 0) :: mmCut mc_219 11 := rfl
theorem sg_219_11 : mmDr mc_219 11 = (.iload_n 2, [], 0) :: (.ifCond .eq 125, [79], 0) :: (.aload_n 0, [], 0) :: (.getfield 453, [11, 64, 0, 1267], 0) :: (.ifCond .ne 118, [79], 0) :: (.iconst 0, [], 0) :: (.istore_n 2, [], 0) :: (.iconst 0, [], 0) :: (.istore_n 3, [], 0) :: mmCut mc_219 20 := rfl
theorem sg_219_20 : mmDr mc_219 20 = (.iload_n 3, [], 0) :: (.aload_n 0, [], 0) :: (.getfield 280, [11, 68, 0, 1271], 0) :: (.if_icmp .ge 62, [55], 0) :: (.iload_n 2, [], 0) :: (.ifCond .ne 58, [55], 0) :: (.aload_n 0, [], 0) :: (.getfield 115, [11, 79, 3, 1282], 0) :: (.iload_n 3, [], 0) :: (.iaload, [], 0) :: (.istore 4, [], 0) :: (.aload_n 0, [], 0) :: (.getfield 88, [11, 70, 3, 1273], 0) :: (.iload 4, [], 0) :: (.iaload, [], 0) :: (.aload_n 0, [], 0) :: (.getfield 444, [11, 63, 0, 1266], 0) :: (.iconst 2, [], 0) :: (.irem, [], 0) :: (.if_icmp .ne 26, [51], 0) :: (.aload_n 0, [], 0) :: (.iload_n 1, [], 0) :: (.iload 4, [], 0) :: (.invokevirtual 485, [0, 217, 3, 0, 0, 1751, 11], 0) :: (.ifCond .eq 16, [51], 0) :: (.aload_n 0, [], 0) :: (.iload 4, [], 0) :: (.invokevirtual 488, [0, 218, 2, 0, 0, 1755, 11], 0) :: (.ifCond .eq 7, [51], 0) :: (.iconst 1, [], 0) :: (.goto 4, [52], 0) :: mmCut mc_219 51 := rfl
theorem sg_219_51 : mmDr mc_219 51 = (.iconst 0, [], 0) :: mmCut mc_219 52 := rfl
theorem sg_219_52 : mmDr mc_219 52 = (.istore_n 2, [], 0) :: (.iinc 3 1, [], 0) :: (.goto (-64), [20], 0) :: mmCut mc_219 55 := rfl
set_option maxRecDepth 100000 in
theorem sg_219_55 : mmDr mc_219 55 = (.iload_n 2, [], 0) :: (.ifCond .eq (-83), [11], 0) :: (.aload_n 0, [], 0) :: (.aload_n 0, [], 0) :: (.getfield 444, [11, 63, 0, 1266], 0) :: (.aload_n 0, [], 0) :: (.getfield 79, [11, 65, 3, 1268], 0) :: (.aload_n 0, [], 0) :: (.getfield 444, [11, 63, 0, 1266], 0) :: (.iaload, [], 0) :: (.aload_n 0, [], 0) :: (.getfield 444, [11, 63, 0, 1266], 0) :: (.iconst 1, [], 0) :: (.iadd, [], 0) :: (.invokevirtual 491, [0, 201, 4, 0, 0, 1763, 11], 0) :: (.aload_n 0, [], 0) :: (.dup, [], 0) :: (.getfield 444, [11, 63, 0, 1266], 0) :: (.iconst 1, [], 0) :: (.iadd, [], 0) :: (.putfield 444, [11, 63, 0, 1266], 0) :: (.aload_n 0, [], 0) :: (.invokevirtual 482, [0, 205, 1, 0, 0, 1671, 11], 0) :: (.goto (-123), [11], 0) :: mmCut mc_219 79 := rfl
set_option maxRecDepth 100000 in
theorem sg_219_79 : mmDr mc_219 79 = (.return_, [], 0) :: mmCut mc_219 80 := rfl
theorem cd_220 : mmCd 220 = mc_220 := rfl
theorem sg_220_0 : mmDr mc_220 0 = (.iload_n 0, [], 0) :: (.iconst 0, [], 0) :: (.iconst 3, [], 0) :: (.invokestatic 183, [1, 145, 3, 0, 0, 1523], 0) :: (.ireturn, [1], 0) :: mmCut mc_220 5 := rfl
theorem cd_221 : mmCd 221 = mc_221 := rfl
theorem sg_221_0 : mmDr mc_221 0 = (.aload_n 0, [], 0) :: (.iconst 0, [], 0) :: (.putfield 139, [11, 2, 0, 1205], 0) :: (.aload_n 0, [], 0) :: (.iload_n 1, [], 0) :: (.invokevirtual 459, [0, 206, 2, 0, 0, 1627, 11], 0) :: (.ifCond .eq 30, [22], 0) :: (.iload_n 2, [], 0) :: (.ifCond .lt 26, [22], 0) :: (.iload_n 2, [], 0) :: (.aload_n 0, [], 0) :: (.getfield 103, [11, 75, 3, 1278], 0) :: (.aload_n 0, [], 0) :: (.iload_n 1, [], 0) :: (.invokevirtual 466, [0, 208, 2, 0, 0, 1647, 11], 0) :: (.iaload, [], 0) :: (.if_icmp .ge 12, [22], 0) :: (.iload_n 3, [], 0) :: (.iconst 0, [], 0) :: (.iconst 1, [], 0) :: (.invokestatic 183, [1, 145, 3, 0, 0, 1523], 0) :: (.ifCond .ne 5, [24], 0) :: mmCut mc_221 22 := rfl
theorem sg_221_22 : mmDr mc_221 22 = (.iconst (-1), [], 0) :: (.ireturn, [0], 0) :: mmCut mc_221 24 := rfl
theorem sg_221_24 : mmDr mc_221 24 = (.aload_n 0, [], 0) :: (.iconst 0, [], 0) :: (.invokevirtual 494, [0, 219, 2, 0, 0, 1655, 11], 0) :: (.bipush 18, [], 0) :: (.aload_n 0, [], 0) :: (.iload_n 1, [], 0) :: (.invokevirtual 466, [0, 208, 2, 0, 0, 1647, 11], 0) :: (.imul, [], 0) :: (.iconst 3, [], 0) :: (.iload_n 2, [], 0) :: (.imul, [], 0) :: (.iadd, [], 0) :: (.istore 4, [], 0) :: (.aload_n 0, [], 0) :: (.getfield 106, [11, 76, 3, 1279], 0) :: (.iload 4, [], 0) :: (.iaload, [], 0) :: (.istore 5, [], 0) :: (.iload 5, [], 0) :: (.aload_n 0, [], 0) :: (.getfield 444, [11, 63, 0, 1266], 0) :: (.if_icmp .lt 5, [48], 0) :: (.iconst 0, [], 0) :: (.ireturn, [0], 0) :: mmCut mc_221 48 := rfl
set_option maxRecDepth 100000 in
theorem sg_221_48 : mmDr mc_221 48 = (.aload_n 0, [], 0) :: (.getfield 82, [11, 66, 3, 1269], 0) :: (.iload 5, [], 0) :: (.iaload, [], 0) :: (.iload_n 1, [], 0) :: (.if_icmp .ne 24, [66], 0) :: (.aload_n 0, [], 0) :: (.getfield 85, [11, 67, 3, 1270], 0) :: (.iload 5, [], 0) :: (.iaload, [], 0) :: (.iload_n 2, [], 0) :: (.if_icmp .ne 13, [66], 0) :: (.iload_n 3, [], 0) :: (.ifCond .ne 7, [64], 0) :: (.iconst 1, [], 0) :: (.goto 4, [65], 0) :: mmCut mc_221 64 := rfl
set_option maxRecDepth 100000 in
theorem sg_221_64 : mmDr mc_221 64 = (.iconst 0, [], 0) :: mmCut mc_221 65 := rfl
set_option maxRecDepth 100000 in
theorem sg_221_65 : mmDr mc_221 65 = (.ireturn, [0], 0) :: mmCut mc_221 66 := rfl
set_option maxRecDepth 100000 in
theorem sg_221_66 : mmDr mc_221 66 = (.iload_n 3, [], 0) :: (.ifCond .ne 6, [70], 0) :: (.bipush (-2), [], 0) :: (.ireturn, [0], 0) :: mmCut mc_221 70 := rfl
set_option maxRecDepth 100000 in
theorem sg_221_70 : mmDr mc_221 70 = (.aload_n 0, [], 0) :: (.getfield 106, [11, 76, 3, 1279], 0) :: (.iload 4, [], 0) :: (.iconst 1, [], 0) :: (.iadd, [], 0) :: (.iaload, [], 0) :: (.ifCond .lt 31, [94], 0) :: (.iload 5, [], 0) :: (.ifCond .eq 24, [92], 0) :: (.aload_n 0, [], 0) :: (.getfield 106, [11, 76, 3, 1279], 0) :: (.iload 4, [], 0) :: (.iconst 1, [], 0) :: (.iadd, [], 0) :: (.iaload, [], 0) :: (.aload_n 0, [], 0) :: (.getfield 79, [11, 65, 3, 1268], 0) :: (.iload 5, [], 0) :: (.iconst 1, [], 0) :: (.isub, [], 0) :: (.iaload, [], 0) :: (.if_icmp .eq 5, [94], 0) :: mmCut mc_221 92 := rfl
set_option maxRecDepth 100000 in
theorem sg_221_92 : mmDr mc_221 92 = (.iconst 1, [], 0) :: (.ireturn, [0], 0) :: mmCut mc_221 94 := rfl
set_option maxRecDepth 100000 in
theorem sg_221_94 : mmDr mc_221 94 = (.iload_n 1, [], 0) :: (.aload_n 0, [], 0) :: (.getfield 82, [11, 66, 3, 1269], 0) :: (.iload 5, [], 0) :: (.iaload, [], 0) :: (.if_icmp .ne 22, [110], 0) :: (.iload_n 2, [], 0) :: (.aload_n 0, [], 0) :: (.getfield 85, [11, 67, 3, 1270], 0) :: (.iload 5, [], 0) :: (.iaload, [], 0) :: (.if_icmp .ge 7, [108], 0) :: (.iconst 1, [], 0) :: (.goto 19, [117], 0) :: mmCut mc_221 108 := rfl
set_option maxRecDepth 100000 in
theorem sg_221_108 : mmDr mc_221 108 = (.iconst 0, [], 0) :: (.goto 15, [117], 0) :: mmCut mc_221 110 := rfl
set_option maxRecDepth 100000 in
theorem sg_221_110 : mmDr mc_221 110 = (.aload_n 0, [], 0) :: (.iload_n 1, [], 0) :: (.aload_n 0, [], 0) :: (.getfield 82, [11, 66, 3, 1269], 0) :: (.iload 5, [], 0) :: (.iaload, [], 0) :: (.invokevirtual 469, [0, 215, 3, 0, 0, 1667, 11], 0) :: mmCut mc_221 117 := rfl
set_option maxRecDepth 100000 in
theorem sg_221_117 : mmDr mc_221 117 = (.istore 6, [], 0) :: (.iload 6, [], 0) :: (.ifCond .eq 7, [122], 0) :: (.iconst 3, [], 0) :: (.goto 4, [123], 0) :: mmCut mc_221 122 := rfl
set_option maxRecDepth 100000 in
theorem sg_221_122 : mmDr mc_221 122 = (.iconst 2, [], 0) :: mmCut mc_221 123 := rfl
set_option maxRecDepth 100000 in
theorem sg_221_123 : mmDr mc_221 123 = (.ireturn, [0], 0) :: mmCut mc_221 124 := rfl
theorem cd_222 : mmCd 222 = mc_222 := rfl
theorem sg_222_0 : mmDr mc_222 0 = (.aload_n 0, [], 0) :: (.iconst 0, [], 0) :: (.putfield 139, [11, 2, 0, 1205], 0) :: (.iload_n 1, [], 0) :: (.invokestatic 497, [1, 220, 1, 0, 0, 1771], 0) :: (.ifCond .ne 5, [8], 0) :: (.iconst (-1), [], 0) :: (.ireturn, [0], 0) :: mmCut mc_222 8 := rfl
theorem sg_222_8 : mmDr mc_222 8 = (.aload_n 0, [], 0) :: (.iload_n 1, [], 0) :: (.invokevirtual 494, [0, 219, 2, 0, 0, 1655, 11], 0) :: (.aload_n 0, [], 0) :: (.getfield 444, [11, 63, 0, 1266], 0) :: (.ireturn, [0], 0) :: mmCut mc_222 14 := rfl
theorem cd_223 : mmCd 223 = mc_223 := rfl
theorem sg_223_0 : mmDr mc_223 0 = (.aload_n 0, [], 0) :: (.iconst 0, [], 0) :: (.putfield 139, [11, 2, 0, 1205], 0) :: (.iload_n 1, [], 0) :: (.invokestatic 497, [1, 220, 1, 0, 0, 1771], 0) :: (.ifCond .ne 5, [8], 0) :: (.iconst (-1), [], 0) :: (.ireturn, [0], 0) :: mmCut mc_223 8 := rfl
theorem sg_223_8 : mmDr mc_223 8 = (.aload_n 0, [], 0) :: (.iload_n 1, [], 0) :: (.invokevirtual 494, [0, 219, 2, 0, 0, 1655, 11], 0) :: (.iload_n 2, [], 0) :: (.ifCond .lt 20, [22], 0) :: (.iload_n 2, [], 0) :: (.aload_n 0, [], 0) :: (.getfield 444, [11, 63, 0, 1266], 0) :: (.if_icmp .ge 12, [22], 0) :: (.aload_n 0, [], 0) :: (.getfield 79, [11, 65, 3, 1268], 0) :: (.iload_n 2, [], 0) :: (.iaload, [], 0) :: (.goto 4, [23], 0) :: mmCut mc_223 22 := rfl
theorem sg_223_22 : mmDr mc_223 22 = (.iconst (-1), [], 0) :: mmCut mc_223 23 := rfl
theorem sg_223_23 : mmDr mc_223 23 = (.ireturn, [0], 0) :: mmCut mc_223 24 := rfl
theorem cd_224 : mmCd 224 = mc_224 := rfl
theorem sg_224_0 : mmDr mc_224 0 = (.aload_n 0, [], 0) :: (.iconst 0, [], 0) :: (.putfield 139, [11, 2, 0, 1205], 0) :: (.iload_n 1, [], 0) :: (.invokestatic 497, [1, 220, 1, 0, 0, 1771], 0) :: (.ifCond .ne 5, [8], 0) :: (.iconst (-1), [], 0) :: (.ireturn, [0], 0) :: mmCut mc_224 8 := rfl
theorem sg_224_8 : mmDr mc_224 8 = (.aload_n 0, [], 0) :: (.iload_n 1, [], 0) :: (.invokevirtual 494, [0, 219, 2, 0, 0, 1655, 11], 0) :: (.iload_n 2, [], 0) :: (.ifCond .lt 20, [22], 0) :: (.iload_n 2, [], 0) :: (.aload_n 0, [], 0) :: (.getfield 444, [11, 63, 0, 1266], 0) :: (.if_icmp .ge 12, [22], 0) :: (.aload_n 0, [], 0) :: (.getfield 82, [11, 66, 3, 1269], 0) :: (.iload_n 2, [], 0) :: (.iaload, [], 0) :: (.goto 4, [23], 0) :: mmCut mc_224 22 := rfl
theorem sg_224_22 : mmDr mc_224 22 = (.iconst (-1), [], 0) :: mmCut mc_224 23 := rfl
theorem sg_224_23 : mmDr mc_224 23 = (.ireturn, [0], 0) :: mmCut mc_224 24 := rfl
theorem cd_225 : mmCd 225 = mc_225 := rfl
theorem sg_225_0 : mmDr mc_225 0 = (.aload_n 0, [], 0) :: (.iconst 0, [], 0) :: (.putfield 139, [11, 2, 0, 1205], 0) :: (.iload_n 1, [], 0) :: (.invokestatic 497, [1, 220, 1, 0, 0, 1771], 0) :: (.ifCond .eq 15, [12], 0) :: (.iload_n 2, [], 0) :: (.ifCond .lt 11, [12], 0) :: (.iload_n 2, [], 0) :: (.aload_n 0, [], 0) :: (.invokevirtual 398, [0, 189, 1, 0, 0, 1683, 11], 0) :: (.if_icmp .lt 5, [14], 0) :: mmCut mc_225 12 := rfl
theorem sg_225_12 : mmDr mc_225 12 = (.iconst (-1), [], 0) :: (.ireturn, [0], 0) :: mmCut mc_225 14 := rfl
theorem sg_225_14 : mmDr mc_225 14 = (.aload_n 0, [], 0) :: (.iload_n 1, [], 0) :: (.invokevirtual 494, [0, 219, 2, 0, 0, 1655, 11], 0) :: (.aload_n 0, [], 0) :: (.getfield 70, [11, 59, 3, 1262], 0) :: (.aload_n 0, [], 0) :: (.getfield 444, [11, 63, 0, 1266], 0) :: (.invokestatic 395, [1, 187, 1, 0, 0, 1691], 0) :: (.iload_n 2, [], 0) :: (.iadd, [], 0) :: (.iaload, [], 0) :: (.istore_n 3, [], 0) :: (.iload_n 3, [], 0) :: (.ifCond .ge 8, [30], 0) :: (.bipush (-2), [], 0) :: (.goto 4, [31], 0) :: mmCut mc_225 30 := rfl
theorem sg_225_30 : mmDr mc_225 30 = (.iload_n 3, [], 0) :: mmCut mc_225 31 := rfl
theorem sg_225_31 : mmDr mc_225 31 = (.ireturn, [0], 0) :: mmCut mc_225 32 := rfl
theorem cd_226 : mmCd 226 = mc_226 := rfl
theorem sg_226_0 : mmDr mc_226 0 = (.aload_n 0, [], 0) :: (.iconst 0, [], 0) :: (.putfield 139, [11, 2, 0, 1205], 0) :: (.iload_n 1, [], 0) :: (.invokestatic 497, [1, 220, 1, 0, 0, 1771], 0) :: (.ifCond .ne 5, [8], 0) :: (.iconst (-1), [], 0) :: (.ireturn, [0], 0) :: mmCut mc_226 8 := rfl
theorem sg_226_8 : mmDr mc_226 8 = (.aload_n 0, [], 0) :: (.iload_n 1, [], 0) :: (.invokevirtual 494, [0, 219, 2, 0, 0, 1655, 11], 0) :: (.aload_n 0, [], 0) :: (.getfield 444, [11, 63, 0, 1266], 0) :: (.iconst 2, [], 0) :: (.irem, [], 0) :: (.ireturn, [0], 0) :: mmCut mc_226 16 := rfl
theorem cd_227 : mmCd 227 = mc_227 := rfl
theorem sg_227_0 : mmDr mc_227 0 = (.aload_n 0, [], 0) :: (.iconst 0, [], 0) :: (.putfield 139, [11, 2, 0, 1205], 0) :: (.iload_n 1, [], 0) :: (.invokestatic 497, [1, 220, 1, 0, 0, 1771], 0) :: (.ifCond .ne 5, [8], 0) :: (.iconst (-1), [], 0) :: (.ireturn, [0], 0) :: mmCut mc_227 8 := rfl
theorem sg_227_8 : mmDr mc_227 8 = (.aload_n 0, [], 0) :: (.iload_n 1, [], 0) :: (.invokevirtual 494, [0, 219, 2, 0, 0, 1655, 11], 0) :: (.aload_n 0, [], 0) :: (.getfield 453, [11, 64, 0, 1267], 0) :: (.ireturn, [0], 0) :: mmCut mc_227 14 := rfl
theorem cd_228 : mmCd 228 = mc_228 := rfl
theorem sg_228_0 : mmDr mc_228 0 = (.aload_n 0, [], 0) :: (.iconst 0, [], 0) :: (.putfield 139, [11, 2, 0, 1205], 0) :: (.iload_n 1, [], 0) :: (.invokestatic 497, [1, 220, 1, 0, 0, 1771], 0) :: (.ifCond .ne 5, [8], 0) :: (.iconst (-1), [], 0) :: (.ireturn, [0], 0) :: mmCut mc_228 8 := rfl
theorem sg_228_8 : mmDr mc_228 8 = (.aload_n 0, [], 0) :: (.iload_n 1, [], 0) :: (.invokevirtual 494, [0, 219, 2, 0, 0, 1655, 11], 0) :: (.aload_n 0, [], 0) :: (.getfield 453, [11, 64, 0, 1267], 0) :: (.ifCond .ne 15, [20], 0) :: (.aload_n 0, [], 0) :: (.getfield 73, [11, 61, 3, 1264], 0) :: (.aload_n 0, [], 0) :: (.getfield 444, [11, 63, 0, 1266], 0) :: (.iaload, [], 0) :: (.goto 4, [21], 0) :: mmCut mc_228 20 := rfl
theorem sg_228_20 : mmDr mc_228 20 = (.iconst 0, [], 0) :: mmCut mc_228 21 := rfl
theorem sg_228_21 : mmDr mc_228 21 = (.ireturn, [0], 0) :: mmCut mc_228 22 := rfl
theorem cd_229 : mmCd 229 = mc_229 := rfl
theorem sg_229_0 : mmDr mc_229 0 = (.aload_n 0, [], 0) :: (.iconst 0, [], 0) :: (.putfield 139, [11, 2, 0, 1205], 0) :: (.iload_n 1, [], 0) :: (.invokestatic 497, [1, 220, 1, 0, 0, 1771], 0) :: (.ifCond .ne 5, [8], 0) :: (.iconst (-1), [], 0) :: (.ireturn, [0], 0) :: mmCut mc_229 8 := rfl
theorem sg_229_8 : mmDr mc_229 8 = (.aload_n 0, [], 0) :: (.iload_n 1, [], 0) :: (.invokevirtual 494, [0, 219, 2, 0, 0, 1655, 11], 0) :: (.aload_n 0, [], 0) :: (.getfield 453, [11, 64, 0, 1267], 0) :: (.ifCond .ne 38, [33], 0) :: (.iload_n 2, [], 0) :: (.ifCond .lt 34, [33], 0) :: (.iload_n 2, [], 0) :: (.aload_n 0, [], 0) :: (.getfield 73, [11, 61, 3, 1264], 0) :: (.aload_n 0, [], 0) :: (.getfield 444, [11, 63, 0, 1266], 0) :: (.iaload, [], 0) :: (.if_icmp .ge 21, [33], 0) :: (.aload_n 0, [], 0) :: (.getfield 76, [11, 62, 3, 1265], 0) :: (.sipush 200, [], 0) :: (.aload_n 0, [], 0) :: (.getfield 444, [11, 63, 0, 1266], 0) :: (.imul, [], 0) :: (.iload_n 2, [], 0) :: (.iadd, [], 0) :: (.iaload, [], 0) :: (.goto 4, [34], 0) :: mmCut mc_229 33 := rfl
theorem sg_229_33 : mmDr mc_229 33 = (.iconst (-1), [], 0) :: mmCut mc_229 34 := rfl
theorem sg_229_34 : mmDr mc_229 34 = (.ireturn, [0], 0) :: mmCut mc_229 35 := rfl
theorem cd_230 : mmCd 230 = mc_230 := rfl
theorem sg_230_0 : mmDr mc_230 0 = (.aload_n 0, [], 0) :: (.iconst 0, [], 0) :: (.putfield 139, [11, 2, 0, 1205], 0) :: (.iload_n 1, [], 0) :: (.invokestatic 497, [1, 220, 1, 0, 0, 1771], 0) :: (.ifCond .eq 17, [12], 0) :: (.aload_n 0, [], 0) :: (.getfield 270, [11, 21, 1, 1224], 0) :: (.ifCond .eq 10, [12], 0) :: (.iload_n 2, [], 0) :: (.invokestatic 462, [1, 211, 1, 0, 0, 1635], 0) :: (.ifCond .ne 7, [14], 0) :: mmCut mc_230 12 := rfl
theorem sg_230_12 : mmDr mc_230 12 = (.ldc2_w 500, [1806], (-9223372036854775808)) :: (.lreturn, [], 0) :: mmCut mc_230 14 := rfl
theorem sg_230_14 : mmDr mc_230 14 = (.aload_n 0, [], 0) :: (.iload_n 1, [], 0) :: (.invokevirtual 494, [0, 219, 2, 0, 0, 1655, 11], 0) :: (.iload_n 2, [], 0) :: (.bipush 64, [], 0) :: (.idiv, [], 0) :: (.istore_n 3, [], 0) :: (.iload_n 2, [], 0) :: (.bipush 64, [], 0) :: (.irem, [], 0) :: (.istore 4, [], 0) :: (.iload_n 3, [], 0) :: (.aload_n 0, [], 0) :: (.invokevirtual 398, [0, 189, 1, 0, 0, 1683, 11], 0) :: (.if_icmp .ge 30, [43], 0) :: (.iload 4, [], 0) :: (.aload_n 0, [], 0) :: (.invokevirtual 398, [0, 189, 1, 0, 0, 1683, 11], 0) :: (.if_icmp .ge 21, [43], 0) :: (.aload_n 0, [], 0) :: (.aload_n 0, [], 0) :: (.getfield 444, [11, 63, 0, 1266], 0) :: (.iload_n 3, [], 0) :: (.aload_n 0, [], 0) :: (.getfield 444, [11, 63, 0, 1266], 0) :: (.iconst 2, [], 0) :: (.irem, [], 0) :: (.invokevirtual 401, [0, 190, 4, 0, 0, 1687, 11], 0) :: (.ifCond .ne 7, [45], 0) :: mmCut mc_230 43 := rfl
theorem sg_230_43 : mmDr mc_230 43 = (.ldc2_w 500, [1806], (-9223372036854775808)) :: (.lreturn, [], 0) :: mmCut mc_230 45 := rfl
theorem sg_230_45 : mmDr mc_230 45 = (.aload_n 0, [], 0) :: (.getfield 70, [11, 59, 3, 1262], 0) :: (.aload_n 0, [], 0) :: (.getfield 444, [11, 63, 0, 1266], 0) :: (.invokestatic 395, [1, 187, 1, 0, 0, 1691], 0) :: (.iload_n 3, [], 0) :: (.iadd, [], 0) :: (.iaload, [], 0) :: (.iconst 4, [], 0) :: (.irem, [], 0) :: (.istore 5, [], 0) :: (.bipush 8, [], 0) :: (.iload 5, [], 0) :: (.imul, [], 0) :: (.istore 6, [], 0) :: mmCut mc_230 60 := rfl
set_option maxRecDepth 100000 in
theorem sg_230_60 : mmDr mc_230 60 = (.iload 6, [], 0) :: (.bipush 8, [], 0) :: (.iload 5, [], 0) :: (.imul, [], 0) :: (.aload_n 0, [], 0) :: (.getfield 30, [11, 38, 3, 1241], 0) :: (.iload 5, [], 0) :: (.iaload, [], 0) :: (.iadd, [], 0) :: (.if_icmp .ge 91, [112], 0) :: (.iconst 1, [], 0) :: (.istore 7, [], 0) :: mmCut mc_230 72 := rfl
set_option maxRecDepth 100000 in
theorem sg_230_72 : mmDr mc_230 72 = (.iload 7, [], 0) :: (.aload_n 0, [], 0) :: (.iload 5, [], 0) :: (.invokevirtual 419, [0, 196, 2, 0, 0, 1698, 11], 0) :: (.if_icmp .gt 71, [110], 0) :: (.aload_n 0, [], 0) :: (.iload_n 3, [], 0) :: (.iload 6, [], 0) :: (.iload 7, [], 0) :: (.invokevirtual 422, [0, 192, 4, 0, 0, 1702, 11], 0) :: (.iload 4, [], 0) :: (.if_icmp .eq 6, [85], 0) :: (.goto 48, [108], 0) :: mmCut mc_230 85 := rfl
set_option maxRecDepth 100000 in
theorem sg_230_85 : mmDr mc_230 85 = (.aload_n 0, [], 0) :: (.aload_n 0, [], 0) :: (.getfield 444, [11, 63, 0, 1266], 0) :: (.iload_n 3, [], 0) :: (.iload 4, [], 0) :: (.iload 7, [], 0) :: (.aload_n 0, [], 0) :: (.getfield 444, [11, 63, 0, 1266], 0) :: (.iconst 2, [], 0) :: (.irem, [], 0) :: (.aload_n 0, [], 0) :: (.getfield 444, [11, 63, 0, 1266], 0) :: (.invokevirtual 411, [0, 193, 7, 0, 0, 1710, 11], 0) :: (.aload_n 0, [], 0) :: (.invokevirtual 415, [0, 194, 1, 0, 0, 1718, 11], 0) :: (.lstore 8, [], 0) :: (.aload_n 0, [], 0) :: (.getfield 376, [11, 58, 1, 1261], 0) :: (.ifCond .eq 9, [106], 0) :: (.ldc2_w 500, [1806], (-9223372036854775808)) :: (.goto 5, [107], 0) :: mmCut mc_230 106 := rfl
set_option maxRecDepth 100000 in
theorem sg_230_106 : mmDr mc_230 106 = (.lload 8, [], 0) :: mmCut mc_230 107 := rfl
set_option maxRecDepth 100000 in
theorem sg_230_107 : mmDr mc_230 107 = (.lreturn, [], 0) :: mmCut mc_230 108 := rfl
set_option maxRecDepth 100000 in
theorem sg_230_108 : mmDr mc_230 108 = (.iinc 7 1, [], 0) :: (.goto (-76), [72], 0) :: mmCut mc_230 110 := rfl
set_option maxRecDepth 100000 in
theorem sg_230_110 : mmDr mc_230 110 = (.iinc 6 1, [], 0) :: (.goto (-103), [60], 0) :: mmCut mc_230 112 := rfl
set_option maxRecDepth 100000 in
theorem sg_230_112 : mmDr mc_230 112 = (.ldc2_w 500, [1806], (-9223372036854775808)) :: (.lreturn, [], 0) :: mmCut mc_230 114 := rfl
theorem cd_231 : mmCd 231 = mc_231 := rfl
theorem sg_231_0 : mmDr mc_231 0 = (.aload_n 0, [], 0) :: (.iconst 0, [], 0) :: (.putfield 139, [11, 2, 0, 1205], 0) :: (.iload_n 1, [], 0) :: (.invokestatic 497, [1, 220, 1, 0, 0, 1771], 0) :: (.ifCond .eq 29, [19], 0) :: (.iload_n 2, [], 0) :: (.iconst 0, [], 0) :: (.iconst 1, [], 0) :: (.invokestatic 183, [1, 145, 3, 0, 0, 1523], 0) :: (.ifCond .eq 20, [19], 0) :: (.iload_n 3, [], 0) :: (.invokestatic 462, [1, 211, 1, 0, 0, 1635], 0) :: (.ifCond .eq 13, [19], 0) :: (.iload 4, [], 0) :: (.iconst 0, [], 0) :: (.iconst 1, [], 0) :: (.invokestatic 183, [1, 145, 3, 0, 0, 1523], 0) :: (.ifCond .ne 5, [21], 0) :: mmCut mc_231 19 := rfl
theorem sg_231_19 : mmDr mc_231 19 = (.iconst (-1), [], 0) :: (.ireturn, [0], 0) :: mmCut mc_231 21 := rfl
theorem sg_231_21 : mmDr mc_231 21 = (.aload_n 0, [], 0) :: (.iload_n 1, [], 0) :: (.invokevirtual 494, [0, 219, 2, 0, 0, 1655, 11], 0) :: (.aload_n 0, [], 0) :: (.getfield 453, [11, 64, 0, 1267], 0) :: (.ifCond .eq 5, [29], 0) :: (.iconst 0, [], 0) :: (.ireturn, [0], 0) :: mmCut mc_231 29 := rfl
theorem sg_231_29 : mmDr mc_231 29 = (.iload_n 2, [], 0) :: (.aload_n 0, [], 0) :: (.getfield 444, [11, 63, 0, 1266], 0) :: (.iconst 2, [], 0) :: (.irem, [], 0) :: (.if_icmp .ne 32, [51], 0) :: (.iload 4, [], 0) :: (.iconst 1, [], 0) :: (.if_icmp .eq 20, [47], 0) :: (.aload_n 0, [], 0) :: (.aload_n 0, [], 0) :: (.getfield 444, [11, 63, 0, 1266], 0) :: (.iload_n 2, [], 0) :: (.aload_n 0, [], 0) :: (.getfield 444, [11, 63, 0, 1266], 0) :: (.iload_n 3, [], 0) :: (.invokevirtual 472, [0, 197, 5, 0, 0, 1759, 11], 0) :: (.ifCond .eq 7, [49], 0) :: mmCut mc_231 47 := rfl
theorem sg_231_47 : mmDr mc_231 47 = (.iconst 1, [], 0) :: (.goto 4, [50], 0) :: mmCut mc_231 49 := rfl
theorem sg_231_49 : mmDr mc_231 49 = (.iconst 0, [], 0) :: mmCut mc_231 50 := rfl
theorem sg_231_50 : mmDr mc_231 50 = (.ireturn, [0], 0) :: mmCut mc_231 51 := rfl
theorem sg_231_51 : mmDr mc_231 51 = (.iload 4, [], 0) :: (.iconst 1, [], 0) :: (.if_icmp .ne 13, [60], 0) :: (.aload_n 0, [], 0) :: (.getfield 73, [11, 61, 3, 1264], 0) :: (.aload_n 0, [], 0) :: (.getfield 444, [11, 63, 0, 1266], 0) :: (.iaload, [], 0) :: (.ireturn, [0], 0) :: mmCut mc_231 60 := rfl
set_option maxRecDepth 100000 in
theorem sg_231_60 : mmDr mc_231 60 = (.iconst 0, [], 0) :: (.istore 5, [], 0) :: (.iconst 0, [], 0) :: (.istore 6, [], 0) :: mmCut mc_231 64 := rfl
set_option maxRecDepth 100000 in
theorem sg_231_64 : mmDr mc_231 64 = (.iload 6, [], 0) :: (.aload_n 0, [], 0) :: (.getfield 73, [11, 61, 3, 1264], 0) :: (.aload_n 0, [], 0) :: (.getfield 444, [11, 63, 0, 1266], 0) :: (.iaload, [], 0) :: (.if_icmp .ge 70, [109], 0) :: (.aload_n 0, [], 0) :: (.aload_n 0, [], 0) :: (.getfield 444, [11, 63, 0, 1266], 0) :: (.aload_n 0, [], 0) :: (.getfield 76, [11, 62, 3, 1265], 0) :: (.sipush 200, [], 0) :: (.aload_n 0, [], 0) :: (.getfield 444, [11, 63, 0, 1266], 0) :: (.imul, [], 0) :: (.iload 6, [], 0) :: (.iadd, [], 0) :: (.iaload, [], 0) :: (.aload_n 0, [], 0) :: (.getfield 444, [11, 63, 0, 1266], 0) :: (.iconst 1, [], 0) :: (.iadd, [], 0) :: (.invokevirtual 491, [0, 201, 4, 0, 0, 1763, 11], 0) :: (.iload 5, [], 0) :: (.aload_n 0, [], 0) :: (.aload_n 0, [], 0) :: (.getfield 444, [11, 63, 0, 1266], 0) :: (.iconst 1, [], 0) :: (.iadd, [], 0) :: (.iload_n 2, [], 0) :: (.aload_n 0, [], 0) :: (.getfield 444, [11, 63, 0, 1266], 0) :: (.iconst 1, [], 0) :: (.iadd, [], 0) :: (.iload_n 3, [], 0) :: (.invokevirtual 472, [0, 197, 5, 0, 0, 1759, 11], 0) :: (.ifCond .eq 7, [104], 0) :: (.iconst 1, [], 0) :: (.goto 4, [105], 0) :: mmCut mc_231 104 := rfl
set_option maxRecDepth 100000 in
theorem sg_231_104 : mmDr mc_231 104 = (.iconst 0, [], 0) :: mmCut mc_231 105 := rfl
set_option maxRecDepth 100000 in
theorem sg_231_105 : mmDr mc_231 105 = (.iadd, [], 0) :: (.istore 5, [], 0) :: (.iinc 6 1, [], 0) :: (.goto (-78), [64], 0) :: mmCut mc_231 109 := rfl
set_option maxRecDepth 100000 in
theorem sg_231_109 : mmDr mc_231 109 = (.iload 5, [], 0) :: (.ireturn, [0], 0) :: mmCut mc_231 111 := rfl
theorem cd_232 : mmCd 232 = mc_232 := rfl
theorem sg_232_0 : mmDr mc_232 0 = (.iconst 0, [], 0) :: (.istore_n 3, [], 0) :: (.iload_n 2, [], 0) :: (.iconst 1, [], 0) :: (.if_icmp .ne 10, [10], 0) :: (.aload_n 0, [], 0) :: (.getfield 73, [11, 61, 3, 1264], 0) :: (.iload_n 1, [], 0) :: (.iaload, [], 0) :: (.ireturn, [0], 0) :: mmCut mc_232 10 := rfl
theorem sg_232_10 : mmDr mc_232 10 = (.iconst 0, [], 0) :: (.istore 4, [], 0) :: mmCut mc_232 12 := rfl
theorem sg_232_12 : mmDr mc_232 12 = (.iload 4, [], 0) :: (.aload_n 0, [], 0) :: (.getfield 73, [11, 61, 3, 1264], 0) :: (.iload_n 1, [], 0) :: (.iaload, [], 0) :: (.if_icmp .ge 74, [66], 0) :: (.aload_n 0, [], 0) :: (.iload_n 1, [], 0) :: (.aload_n 0, [], 0) :: (.getfield 76, [11, 62, 3, 1265], 0) :: (.sipush 200, [], 0) :: (.iload_n 1, [], 0) :: (.imul, [], 0) :: (.iload 4, [], 0) :: (.iadd, [], 0) :: (.iaload, [], 0) :: (.iload_n 1, [], 0) :: (.iconst 1, [], 0) :: (.iadd, [], 0) :: (.invokevirtual 491, [0, 201, 4, 0, 0, 1763, 11], 0) :: (.aload_n 0, [], 0) :: (.iload_n 1, [], 0) :: (.iconst 1, [], 0) :: (.iadd, [], 0) :: (.iload_n 1, [], 0) :: (.iconst 1, [], 0) :: (.iadd, [], 0) :: (.iconst 2, [], 0) :: (.irem, [], 0) :: (.iload_n 1, [], 0) :: (.iconst 1, [], 0) :: (.iadd, [], 0) :: (.invokevirtual 447, [0, 203, 4, 0, 0, 1675, 11], 0) :: (.ifCond .ne 29, [64], 0) :: (.iload_n 3, [], 0) :: (.iload_n 2, [], 0) :: (.iconst 2, [], 0) :: (.if_icmp .ne 14, [57], 0) :: (.aload_n 0, [], 0) :: (.getfield 73, [11, 61, 3, 1264], 0) :: (.iload_n 1, [], 0) :: (.iconst 1, [], 0) :: (.iadd, [], 0) :: (.iaload, [], 0) :: (.goto 10, [62], 0) :: mmCut mc_232 57 := rfl
set_option maxRecDepth 100000 in
theorem sg_232_57 : mmDr mc_232 57 = (.aload_n 0, [], 0) :: (.iload_n 1, [], 0) :: (.iconst 1, [], 0) :: (.iadd, [], 0) :: (.invokevirtual 502, [0, 233, 2, 0, 0, 1819, 11], 0) :: mmCut mc_232 62 := rfl
set_option maxRecDepth 100000 in
theorem sg_232_62 : mmDr mc_232 62 = (.iadd, [], 0) :: (.istore_n 3, [], 0) :: mmCut mc_232 64 := rfl
set_option maxRecDepth 100000 in
theorem sg_232_64 : mmDr mc_232 64 = (.iinc 4 1, [], 0) :: (.goto (-79), [12], 0) :: mmCut mc_232 66 := rfl
set_option maxRecDepth 100000 in
theorem sg_232_66 : mmDr mc_232 66 = (.iload_n 3, [], 0) :: (.ireturn, [0], 0) :: mmCut mc_232 68 := rfl
theorem cd_233 : mmCd 233 = mc_233 := rfl
theorem sg_233_0 : mmDr mc_233 0 = (.iconst 0, [], 0) :: (.istore_n 2, [], 0) :: (.iconst 0, [], 0) :: (.istore_n 3, [], 0) :: mmCut mc_233 4 := rfl
theorem sg_233_4 : mmDr mc_233 4 = (.iload_n 3, [], 0) :: (.aload_n 0, [], 0) :: (.getfield 73, [11, 61, 3, 1264], 0) :: (.iload_n 1, [], 0) :: (.iaload, [], 0) :: (.if_icmp .ge 58, [49], 0) :: (.aload_n 0, [], 0) :: (.iload_n 1, [], 0) :: (.aload_n 0, [], 0) :: (.getfield 76, [11, 62, 3, 1265], 0) :: (.sipush 200, [], 0) :: (.iload_n 1, [], 0) :: (.imul, [], 0) :: (.iload_n 3, [], 0) :: (.iadd, [], 0) :: (.iaload, [], 0) :: (.iload_n 1, [], 0) :: (.iconst 1, [], 0) :: (.iadd, [], 0) :: (.invokevirtual 491, [0, 201, 4, 0, 0, 1763, 11], 0) :: (.aload_n 0, [], 0) :: (.iload_n 1, [], 0) :: (.iconst 1, [], 0) :: (.iadd, [], 0) :: (.iload_n 1, [], 0) :: (.iconst 1, [], 0) :: (.iadd, [], 0) :: (.iconst 2, [], 0) :: (.irem, [], 0) :: (.iload_n 1, [], 0) :: (.iconst 1, [], 0) :: (.iadd, [], 0) :: (.invokevirtual 447, [0, 203, 4, 0, 0, 1675, 11], 0) :: (.ifCond .ne 14, [47], 0) :: (.iload_n 2, [], 0) :: (.aload_n 0, [], 0) :: (.getfield 73, [11, 61, 3, 1264], 0) :: (.iload_n 1, [], 0) :: (.iconst 1, [], 0) :: (.iadd, [], 0) :: (.iaload, [], 0) :: (.iadd, [], 0) :: (.istore_n 2, [], 0) :: mmCut mc_233 47 := rfl
theorem sg_233_47 : mmDr mc_233 47 = (.iinc 3 1, [], 0) :: (.goto (-62), [4], 0) :: mmCut mc_233 49 := rfl
theorem sg_233_49 : mmDr mc_233 49 = (.iload_n 2, [], 0) :: (.ireturn, [0], 0) :: mmCut mc_233 51 := rfl
theorem cd_234 : mmCd 234 = mc_234 := rfl
theorem sg_234_0 : mmDr mc_234 0 = (.aload_n 0, [], 0) :: (.iconst 0, [], 0) :: (.putfield 139, [11, 2, 0, 1205], 0) :: (.iload_n 1, [], 0) :: (.invokestatic 497, [1, 220, 1, 0, 0, 1771], 0) :: (.ifCond .eq 12, [11], 0) :: (.iload_n 2, [], 0) :: (.iconst 0, [], 0) :: (.iconst 3, [], 0) :: (.invokestatic 183, [1, 145, 3, 0, 0, 1523], 0) :: (.ifCond .ne 5, [13], 0) :: mmCut mc_234 11 := rfl
theorem sg_234_11 : mmDr mc_234 11 = (.iconst (-1), [], 0) :: (.ireturn, [0], 0) :: mmCut mc_234 13 := rfl
theorem sg_234_13 : mmDr mc_234 13 = (.aload_n 0, [], 0) :: (.iload_n 1, [], 0) :: (.invokevirtual 494, [0, 219, 2, 0, 0, 1655, 11], 0) :: (.iload_n 2, [], 0) :: (.ifCond .ne 7, [20], 0) :: (.iconst 1, [], 0) :: (.goto 23, [30], 0) :: mmCut mc_234 20 := rfl
theorem sg_234_20 : mmDr mc_234 20 = (.aload_n 0, [], 0) :: (.getfield 453, [11, 64, 0, 1267], 0) :: (.ifCond .eq 7, [25], 0) :: (.iconst 0, [], 0) :: (.goto 12, [30], 0) :: mmCut mc_234 25 := rfl
theorem sg_234_25 : mmDr mc_234 25 = (.aload_n 0, [], 0) :: (.aload_n 0, [], 0) :: (.getfield 444, [11, 63, 0, 1266], 0) :: (.iload_n 2, [], 0) :: (.invokevirtual 505, [0, 232, 3, 0, 0, 1815, 11], 0) :: mmCut mc_234 30 := rfl
theorem sg_234_30 : mmDr mc_234 30 = (.ireturn, [0], 0) :: mmCut mc_234 31 := rfl
theorem cd_235 : mmCd 235 = mc_235 := rfl
theorem sg_235_0 : mmDr mc_235 0 = (.aload_n 0, [], 0) :: (.iload_n 1, [], 0) :: (.iload_n 1, [], 0) :: (.iconst 2, [], 0) :: (.irem, [], 0) :: (.iload_n 1, [], 0) :: (.invokevirtual 447, [0, 203, 4, 0, 0, 1675, 11], 0) :: (.ifCond .eq 5, [10], 0) :: (.iconst 0, [], 0) :: (.ireturn, [1], 0) :: mmCut mc_235 10 := rfl
theorem sg_235_10 : mmDr mc_235 10 = (.iconst 0, [], 0) :: (.istore_n 2, [], 0) :: mmCut mc_235 12 := rfl
theorem sg_235_12 : mmDr mc_235 12 = (.iload_n 2, [], 0) :: (.aload_n 0, [], 0) :: (.getfield 73, [11, 61, 3, 1264], 0) :: (.iload_n 1, [], 0) :: (.iaload, [], 0) :: (.if_icmp .ge 49, [50], 0) :: (.aload_n 0, [], 0) :: (.iload_n 1, [], 0) :: (.aload_n 0, [], 0) :: (.getfield 76, [11, 62, 3, 1265], 0) :: (.sipush 200, [], 0) :: (.iload_n 1, [], 0) :: (.imul, [], 0) :: (.iload_n 2, [], 0) :: (.iadd, [], 0) :: (.iaload, [], 0) :: (.iload_n 1, [], 0) :: (.iconst 1, [], 0) :: (.iadd, [], 0) :: (.invokevirtual 491, [0, 201, 4, 0, 0, 1763, 11], 0) :: (.aload_n 0, [], 0) :: (.iload_n 1, [], 0) :: (.iconst 1, [], 0) :: (.iadd, [], 0) :: (.iload_n 1, [], 0) :: (.iconst 1, [], 0) :: (.iadd, [], 0) :: (.iconst 2, [], 0) :: (.irem, [], 0) :: (.iload_n 1, [], 0) :: (.iconst 1, [], 0) :: (.iadd, [], 0) :: (.invokevirtual 447, [0, 203, 4, 0, 0, 1675, 11], 0) :: (.ifCond .eq 5, [48], 0) :: (.iconst 1, [], 0) :: (.ireturn, [1], 0) :: mmCut mc_235 48 := rfl
theorem sg_235_48 : mmDr mc_235 48 = (.iinc 2 1, [], 0) :: (.goto (-53), [12], 0) :: mmCut mc_235 50 := rfl
theorem sg_235_50 : mmDr mc_235 50 = (.iconst 0, [], 0) :: (.ireturn, [1], 0) :: mmCut mc_235 52 := rfl
theorem cd_236 : mmCd 236 = mc_236 := rfl
theorem sg_236_0 : mmDr mc_236 0 = (.aload_n 0, [], 0) :: (.iload_n 1, [], 0) :: (.iload_n 1, [], 0) :: (.iconst 2, [], 0) :: (.irem, [], 0) :: (.iload_n 1, [], 0) :: (.invokevirtual 447, [0, 203, 4, 0, 0, 1675, 11], 0) :: (.ifCond .eq 5, [10], 0) :: (.iconst 1, [], 0) :: (.ireturn, [1], 0) :: mmCut mc_236 10 := rfl
theorem sg_236_10 : mmDr mc_236 10 = (.iconst 0, [], 0) :: (.istore_n 2, [], 0) :: mmCut mc_236 12 := rfl
theorem sg_236_12 : mmDr mc_236 12 = (.iload_n 2, [], 0) :: (.aload_n 0, [], 0) :: (.getfield 73, [11, 61, 3, 1264], 0) :: (.iload_n 1, [], 0) :: (.iaload, [], 0) :: (.if_icmp .ge 41, [42], 0) :: (.aload_n 0, [], 0) :: (.iload_n 1, [], 0) :: (.aload_n 0, [], 0) :: (.getfield 76, [11, 62, 3, 1265], 0) :: (.sipush 200, [], 0) :: (.iload_n 1, [], 0) :: (.imul, [], 0) :: (.iload_n 2, [], 0) :: (.iadd, [], 0) :: (.iaload, [], 0) :: (.iload_n 1, [], 0) :: (.iconst 1, [], 0) :: (.iadd, [], 0) :: (.invokevirtual 491, [0, 201, 4, 0, 0, 1763, 11], 0) :: (.aload_n 0, [], 0) :: (.iload_n 1, [], 0) :: (.iconst 1, [], 0) :: (.iadd, [], 0) :: (.invokevirtual 508, [0, 235, 2, 0, 0, 1838, 11], 0) :: (.ifCond .ne 5, [40], 0) :: (.iconst 0, [], 0) :: (.ireturn, [1], 0) :: mmCut mc_236 40 := rfl
theorem sg_236_40 : mmDr mc_236 40 = (.iinc 2 1, [], 0) :: (.goto (-45), [12], 0) :: mmCut mc_236 42 := rfl
theorem sg_236_42 : mmDr mc_236 42 = (.iconst 1, [], 0) :: (.ireturn, [1], 0) :: mmCut mc_236 44 := rfl
theorem cd_237 : mmCd 237 = mc_237 := rfl
theorem sg_237_0 : mmDr mc_237 0 = (.aload_n 0, [], 0) :: (.iload_n 1, [], 0) :: (.iload_n 1, [], 0) :: (.iconst 2, [], 0) :: (.irem, [], 0) :: (.iload_n 1, [], 0) :: (.invokevirtual 447, [0, 203, 4, 0, 0, 1675, 11], 0) :: (.ifCond .eq 5, [10], 0) :: (.iconst 0, [], 0) :: (.ireturn, [1], 0) :: mmCut mc_237 10 := rfl
theorem sg_237_10 : mmDr mc_237 10 = (.iconst 0, [], 0) :: (.istore_n 2, [], 0) :: mmCut mc_237 12 := rfl
theorem sg_237_12 : mmDr mc_237 12 = (.iload_n 2, [], 0) :: (.aload_n 0, [], 0) :: (.getfield 73, [11, 61, 3, 1264], 0) :: (.iload_n 1, [], 0) :: (.iaload, [], 0) :: (.if_icmp .ge 41, [42], 0) :: (.aload_n 0, [], 0) :: (.iload_n 1, [], 0) :: (.aload_n 0, [], 0) :: (.getfield 76, [11, 62, 3, 1265], 0) :: (.sipush 200, [], 0) :: (.iload_n 1, [], 0) :: (.imul, [], 0) :: (.iload_n 2, [], 0) :: (.iadd, [], 0) :: (.iaload, [], 0) :: (.iload_n 1, [], 0) :: (.iconst 1, [], 0) :: (.iadd, [], 0) :: (.invokevirtual 491, [0, 201, 4, 0, 0, 1763, 11], 0) :: (.aload_n 0, [], 0) :: (.iload_n 1, [], 0) :: (.iconst 1, [], 0) :: (.iadd, [], 0) :: (.invokevirtual 511, [0, 236, 2, 0, 0, 1862, 11], 0) :: (.ifCond .eq 5, [40], 0) :: (.iconst 1, [], 0) :: (.ireturn, [1], 0) :: mmCut mc_237 40 := rfl
theorem sg_237_40 : mmDr mc_237 40 = (.iinc 2 1, [], 0) :: (.goto (-45), [12], 0) :: mmCut mc_237 42 := rfl
theorem sg_237_42 : mmDr mc_237 42 = (.iconst 0, [], 0) :: (.ireturn, [1], 0) :: mmCut mc_237 44 := rfl
theorem cd_238 : mmCd 238 = mc_238 := rfl
theorem sg_238_0 : mmDr mc_238 0 = (.iload_n 2, [], 0) :: (.ifCond .le 15, [8], 0) :: (.aload_n 0, [], 0) :: (.iload_n 1, [], 0) :: (.invokevirtual 508, [0, 235, 2, 0, 0, 1838, 11], 0) :: (.ifCond .eq 7, [8], 0) :: (.iconst 1, [], 0) :: (.goto 4, [9], 0) :: mmCut mc_238 8 := rfl
theorem sg_238_8 : mmDr mc_238 8 = (.iconst 0, [], 0) :: mmCut mc_238 9 := rfl
theorem sg_238_9 : mmDr mc_238 9 = (.ireturn, [1], 0) :: mmCut mc_238 10 := rfl
theorem cd_239 : mmCd 239 = mc_239 := rfl
theorem sg_239_0 : mmDr mc_239 0 = (.aload_n 0, [], 0) :: (.iload_n 1, [], 0) :: (.iload_n 1, [], 0) :: (.iconst 2, [], 0) :: (.irem, [], 0) :: (.iload_n 1, [], 0) :: (.invokevirtual 447, [0, 203, 4, 0, 0, 1675, 11], 0) :: (.ifCond .eq 6, [10], 0) :: (.bipush (-2), [], 0) :: (.ireturn, [0], 0) :: mmCut mc_239 10 := rfl
theorem sg_239_10 : mmDr mc_239 10 = (.iconst 0, [], 0) :: (.istore_n 3, [], 0) :: mmCut mc_239 12 := rfl
theorem sg_239_12 : mmDr mc_239 12 = (.iload_n 3, [], 0) :: (.aload_n 0, [], 0) :: (.getfield 73, [11, 61, 3, 1264], 0) :: (.iload_n 1, [], 0) :: (.iaload, [], 0) :: (.if_icmp .ge 53, [50], 0) :: (.aload_n 0, [], 0) :: (.iload_n 1, [], 0) :: (.aload_n 0, [], 0) :: (.getfield 76, [11, 62, 3, 1265], 0) :: (.sipush 200, [], 0) :: (.iload_n 1, [], 0) :: (.imul, [], 0) :: (.iload_n 3, [], 0) :: (.iadd, [], 0) :: (.iaload, [], 0) :: (.iload_n 1, [], 0) :: (.iconst 1, [], 0) :: (.iadd, [], 0) :: (.invokevirtual 491, [0, 201, 4, 0, 0, 1763, 11], 0) :: (.aload_n 0, [], 0) :: (.iload_n 1, [], 0) :: (.iconst 1, [], 0) :: (.iadd, [], 0) :: (.iload_n 2, [], 0) :: (.invokevirtual 514, [0, 238, 3, 0, 0, 1834, 11], 0) :: (.ifCond .ne 16, [48], 0) :: (.aload_n 0, [], 0) :: (.getfield 76, [11, 62, 3, 1265], 0) :: (.sipush 200, [], 0) :: (.iload_n 1, [], 0) :: (.imul, [], 0) :: (.iload_n 3, [], 0) :: (.iadd, [], 0) :: (.iaload, [], 0) :: (.ireturn, [0], 0) :: mmCut mc_239 48 := rfl
theorem sg_239_48 : mmDr mc_239 48 = (.iinc 3 1, [], 0) :: (.goto (-57), [12], 0) :: mmCut mc_239 50 := rfl
theorem sg_239_50 : mmDr mc_239 50 = (.bipush (-2), [], 0) :: (.ireturn, [0], 0) :: mmCut mc_239 52 := rfl
theorem cd_240 : mmCd 240 = mc_240 := rfl
theorem sg_240_0 : mmDr mc_240 0 = (.iload_n 0, [], 0) :: (.invokestatic 497, [1, 220, 1, 0, 0, 1771], 0) :: (.ifCond .eq 25, [15], 0) :: (.iload_n 1, [], 0) :: (.iconst 0, [], 0) :: (.iconst 1, [], 0) :: (.invokestatic 183, [1, 145, 3, 0, 0, 1523], 0) :: (.ifCond .eq 16, [15], 0) :: (.iload_n 2, [], 0) :: (.iconst 0, [], 0) :: (.iconst 2, [], 0) :: (.invokestatic 183, [1, 145, 3, 0, 0, 1523], 0) :: (.ifCond .eq 7, [15], 0) :: (.iconst 1, [], 0) :: (.goto 4, [16], 0) :: mmCut mc_240 15 := rfl
theorem sg_240_15 : mmDr mc_240 15 = (.iconst 0, [], 0) :: mmCut mc_240 16 := rfl
theorem sg_240_16 : mmDr mc_240 16 = (.ireturn, [1], 0) :: mmCut mc_240 17 := rfl
theorem cd_241 : mmCd 241 = mc_241 := rfl
theorem sg_241_0 : mmDr mc_241 0 = (.iconst 0, [], 0) :: (.istore_n 2, [], 0) :: mmCut mc_241 2 := rfl
theorem sg_241_2 : mmDr mc_241 2 = (.iload_n 2, [], 0) :: (.aload_n 0, [], 0) :: (.getfield 73, [11, 61, 3, 1264], 0) :: (.aload_n 0, [], 0) :: (.getfield 444, [11, 63, 0, 1266], 0) :: (.iaload, [], 0) :: (.if_icmp .ge 68, [46], 0) :: (.aload_n 0, [], 0) :: (.aload_n 0, [], 0) :: (.getfield 444, [11, 63, 0, 1266], 0) :: (.aload_n 0, [], 0) :: (.getfield 76, [11, 62, 3, 1265], 0) :: (.sipush 200, [], 0) :: (.aload_n 0, [], 0) :: (.getfield 444, [11, 63, 0, 1266], 0) :: (.imul, [], 0) :: (.iload_n 2, [], 0) :: (.iadd, [], 0) :: (.iaload, [], 0) :: (.aload_n 0, [], 0) :: (.getfield 444, [11, 63, 0, 1266], 0) :: (.iconst 1, [], 0) :: (.iadd, [], 0) :: (.invokevirtual 491, [0, 201, 4, 0, 0, 1763, 11], 0) :: (.aload_n 0, [], 0) :: (.aload_n 0, [], 0) :: (.getfield 444, [11, 63, 0, 1266], 0) :: (.iconst 1, [], 0) :: (.iadd, [], 0) :: (.iload_n 1, [], 0) :: (.invokevirtual 517, [0, 239, 3, 0, 0, 1830, 11], 0) :: (.ifCond .ge 19, [44], 0) :: (.aload_n 0, [], 0) :: (.getfield 76, [11, 62, 3, 1265], 0) :: (.sipush 200, [], 0) :: (.aload_n 0, [], 0) :: (.getfield 444, [11, 63, 0, 1266], 0) :: (.imul, [], 0) :: (.iload_n 2, [], 0) :: (.iadd, [], 0) :: (.iaload, [], 0) :: (.ireturn, [0], 0) :: mmCut mc_241 44 := rfl
theorem sg_241_44 : mmDr mc_241 44 = (.iinc 2 1, [], 0) :: (.goto (-75), [2], 0) :: mmCut mc_241 46 := rfl
theorem sg_241_46 : mmDr mc_241 46 = (.bipush (-2), [], 0) :: (.ireturn, [0], 0) :: mmCut mc_241 48 := rfl
theorem cd_242 : mmCd 242 = mc_242 := rfl
theorem sg_242_0 : mmDr mc_242 0 = (.aload_n 0, [], 0) :: (.iconst 0, [], 0) :: (.putfield 139, [11, 2, 0, 1205], 0) :: (.iload_n 1, [], 0) :: (.iload_n 2, [], 0) :: (.iload_n 3, [], 0) :: (.invokestatic 520, [1, 240, 3, 0, 0, 1827], 0) :: (.ifCond .eq 13, [13], 0) :: (.iload 4, [], 0) :: (.iconst 0, [], 0) :: (.iconst 1, [], 0) :: (.invokestatic 183, [1, 145, 3, 0, 0, 1523], 0) :: (.ifCond .ne 5, [15], 0) :: mmCut mc_242 13 := rfl
theorem sg_242_13 : mmDr mc_242 13 = (.iconst (-1), [], 0) :: (.ireturn, [0], 0) :: mmCut mc_242 15 := rfl
theorem sg_242_15 : mmDr mc_242 15 = (.aload_n 0, [], 0) :: (.iload_n 1, [], 0) :: (.invokevirtual 494, [0, 219, 2, 0, 0, 1655, 11], 0) :: (.aload_n 0, [], 0) :: (.getfield 453, [11, 64, 0, 1267], 0) :: (.ifCond .eq 20, [31], 0) :: (.aload_n 0, [], 0) :: (.getfield 453, [11, 64, 0, 1267], 0) :: (.iconst 2, [], 0) :: (.iload_n 2, [], 0) :: (.isub, [], 0) :: (.if_icmp .ne 8, [29], 0) :: (.bipush (-2), [], 0) :: (.goto 4, [30], 0) :: mmCut mc_242 29 := rfl
theorem sg_242_29 : mmDr mc_242 29 = (.iconst 0, [], 0) :: mmCut mc_242 30 := rfl
theorem sg_242_30 : mmDr mc_242 30 = (.ireturn, [0], 0) :: mmCut mc_242 31 := rfl
theorem sg_242_31 : mmDr mc_242 31 = (.iload_n 2, [], 0) :: (.aload_n 0, [], 0) :: (.getfield 444, [11, 63, 0, 1266], 0) :: (.iconst 2, [], 0) :: (.irem, [], 0) :: (.if_icmp .ne 7, [39], 0) :: (.iconst 1, [], 0) :: (.goto 4, [40], 0) :: mmCut mc_242 39 := rfl
theorem sg_242_39 : mmDr mc_242 39 = (.iconst 0, [], 0) :: mmCut mc_242 40 := rfl
theorem sg_242_40 : mmDr mc_242 40 = (.istore 5, [], 0) :: (.iload 5, [], 0) :: (.ifCond .eq 18, [50], 0) :: (.aload_n 0, [], 0) :: (.aload_n 0, [], 0) :: (.getfield 444, [11, 63, 0, 1266], 0) :: (.iload_n 3, [], 0) :: (.invokevirtual 517, [0, 239, 3, 0, 0, 1830, 11], 0) :: (.ifCond .ge 17, [56], 0) :: (.goto 11, [54], 0) :: mmCut mc_242 50 := rfl
theorem sg_242_50 : mmDr mc_242 50 = (.aload_n 0, [], 0) :: (.iload_n 3, [], 0) :: (.invokevirtual 523, [0, 241, 2, 0, 0, 1842, 11], 0) :: (.ifCond .lt 6, [56], 0) :: mmCut mc_242 54 := rfl
theorem sg_242_54 : mmDr mc_242 54 = (.bipush (-2), [], 0) :: (.ireturn, [0], 0) :: mmCut mc_242 56 := rfl
theorem sg_242_56 : mmDr mc_242 56 = (.iload 5, [], 0) :: (.ifCond .eq 7, [60], 0) :: (.iconst 1, [], 0) :: (.goto 12, [65], 0) :: mmCut mc_242 60 := rfl
set_option maxRecDepth 100000 in
theorem sg_242_60 : mmDr mc_242 60 = (.aload_n 0, [], 0) :: (.getfield 73, [11, 61, 3, 1264], 0) :: (.aload_n 0, [], 0) :: (.getfield 444, [11, 63, 0, 1266], 0) :: (.iaload, [], 0) :: mmCut mc_242 65 := rfl
set_option maxRecDepth 100000 in
theorem sg_242_65 : mmDr mc_242 65 = (.istore 6, [], 0) :: (.iload 4, [], 0) :: (.ifCond .ne 8, [70], 0) :: (.iload 6, [], 0) :: (.goto 15, [76], 0) :: mmCut mc_242 70 := rfl
set_option maxRecDepth 100000 in
theorem sg_242_70 : mmDr mc_242 70 = (.iload 6, [], 0) :: (.bipush 6, [], 0) :: (.if_icmp .gt 7, [75], 0) :: (.iconst 1, [], 0) :: (.goto 4, [76], 0) :: mmCut mc_242 75 := rfl
set_option maxRecDepth 100000 in
theorem sg_242_75 : mmDr mc_242 75 = (.iconst 0, [], 0) :: mmCut mc_242 76 := rfl
set_option maxRecDepth 100000 in
theorem sg_242_76 : mmDr mc_242 76 = (.ireturn, [0], 0) :: mmCut mc_242 77 := rfl
